/-! MahlerBox: of, count, smallest, roots, least -/
theorem pAbs_cg {F G : Nat → Int} : ∀ m, (∀ j, j < m → F j = G j) → pAbs F m = pAbs G m
  | 0, _ => rfl
  | m + 1, h => by
    have ih := pAbs_cg m (fun j hj => h j (by omega))
    unfold pAbs
    rw [ih, h m (by omega)]
theorem pMax_cg {F G : Nat → Int} : ∀ m, (∀ j, j < m → F j = G j) → pMax F m = pMax G m
  | 0, _ => rfl
  | m + 1, h => by
    have ih := pMax_cg m (fun j hj => h j (by omega))
    unfold pMax
    rw [ih, h m (by omega)]
theorem pSqr_cg {F G : Nat → Int} : ∀ m, (∀ j, j < m → F j = G j) → pSqr F m = pSqr G m
  | 0, _ => rfl
  | m + 1, h => by
    have ih := pSqr_cg m (fun j hj => h j (by omega))
    unfold pSqr
    rw [ih, h m (by omega)]
theorem pMany_cg {F G : Nat → Int} : ∀ m, (∀ j, j < m → F j = G j) → pMany F m = pMany G m
  | 0, _ => rfl
  | m + 1, h => by
    have ih := pMany_cg m (fun j hj => h j (by omega))
    unfold pMany
    rw [ih, h m (by omega)]
theorem pGcd_cg {F G : Nat → Int} : ∀ m, (∀ j, j < m → F j = G j) → pGcd F m = pGcd G m
  | 0, _ => rfl
  | m + 1, h => by
    have ih := pGcd_cg m (fun j hj => h j (by omega))
    unfold pGcd
    rw [ih, h m (by omega)]
theorem pLast_cg {F G : Nat → Int} : ∀ m, (∀ j, j < m → F j = G j) → pLast F m = pLast G m
  | 0, _ => rfl
  | m + 1, h => by
    have ih := pLast_cg m (fun j hj => h j (by omega))
    unfold pLast
    rw [ih, h m (by omega)]
theorem pTurn_cg {F G : Nat → Int} : ∀ m, (∀ j, j < m → F j = G j) → pTurn F m = pTurn G m
  | 0, _ => rfl
  | m + 1, h => by
    have ih := pTurn_cg m (fun j hj => h j (by omega))
    unfold pTurn
    rw [ih, h m (by omega), pLast_cg m (fun j hj => h j (by omega))]
def fLeI (E : Nat → Int) : Nat → Nat
  | 0 => 0
  | m + 1 => if E (m * 16 + 13) < E (fLeI E m * 16 + 13) then m else fLeI E m
def fMaI (E : Nat → Int) (x : Int) : Nat → Nat
  | 0 => 0
  | m + 1 => fMaI E x m + if E (m * 16 + 13) = x then 1 else 0
theorem fLeI_lt (E : Nat → Int) : ∀ m, fLeI E m ≤ m - 1
  | 0 => Nat.le_refl 0
  | m + 1 => by
    have := fLeI_lt E m
    unfold fLeI
    split <;> omega
theorem fLe_cg {f : Nat → Int32} {E : Nat → Int} {k : Nat} (h : ∀ j, j < 16 * k → (f j).toInt = E j) : ∀ m, m ≤ k → fLeast f m = fLeI E m
  | 0, _ => rfl
  | m + 1, hm => by
    have ih := fLe_cg h m (by omega)
    have h2 := fLeI_lt E m
    unfold fLeast fLeI
    rw [ih, h _ (by omega), h _ (by omega)]
theorem fMa_cg {f : Nat → Int32} {E : Nat → Int} {x : Int} {k : Nat} (h : ∀ j, j < 16 * k → (f j).toInt = E j) : ∀ m, m ≤ k → fMany f x m = fMaI E x m
  | 0, _ => rfl
  | m + 1, hm => by
    have ih := fMa_cg (x := x) h m (by omega)
    unfold fMany fMaI
    rw [ih, h _ (by omega)]
/-- what of() tells -/
def ofP (P : PV) (h : Nat) (v : Nat) : Prop := match h with
  | 0 => v = P.1
  | 1 => v = pAbs P.2 (P.1 + 1)
  | 2 => v = pMax P.2 (P.1 + 1)
  | 3 => v = pSqr P.2 (P.1 + 1)
  | 4 => ((∀ t, t ≤ P.1 → P.2 t = P.2 (P.1 - t)) ∧ v = 1) ∨ (¬ (∀ t, t ≤ P.1 → P.2 t = P.2 (P.1 - t)) ∧ v = 0)
  | 5 => (isOneF P.2 P.1 ∧ v = 1) ∨ (noOneF P.2 P.1 ∧ v = 0)
  | 6 => v = pMany P.2 (P.1 + 1)
  | 7 => v = pGcd P.2 (P.1 + 1)
  | 8 => v = pTurn P.2 (P.1 + 1)
  | _ => topL P.2 P.1 6 v
abbrev BX11_of (w0 : Wd) (Post : Option Value → Wd → Prop) (w : Wd) (pc : Nat) (ls : List (Nat × Value)) (st : List Value) : Prop := GP "of" RX11 cX11_of 4 (some .int) 6 234 none w0 Post w pc ls st
abbrev EX11_of (As : List Value) (w : Wd) (Post : Option Value → Wd → Prop) : Prop := EP yX11_of cX11_of 4 (some .int) 6 As w Post
theorem sp_of (w : Wd) {X tl : Nat} {tb : Nat → Int32} {fa st : Int32} {rf : Nat → Nat} {sh : SV} {pn : Nat} {pk : Nat → Nat} {ps : Nat → SV} {im : Nat → Option SV} (hB : bxC w X tl tb fa st rf sh pn pk ps im) {x y : Int32} : EX11_of [.ref X, .int x, .int y] w (fun r w' => (¬ (isPl x ∧ 0 ≤ y.toInt ∧ y.toInt ≤ 9) ∧ r = some (.int (-1)) ∧ bxC w' X tl tb fa st rf sh pn pk ps im ∧ EX (boxS X) 0 0 w w') ∨ (∃ i h v, x = nI i ∧ i < 8 ∧ y = nI h ∧ h < 10 ∧ ofP (sh.1 i) h v ∧ r = some (.int (nI v)) ∧ bxC w' X tl tb fa st rf sh pn pk ps im ∧ EX (boxS X) 0 0 w w')) := by
  refine EP.of (plainFor_of_name (by decide)) [(0, .ref X), (1, .int x), (2, .int y)] rfl (Nat.le_of_ble_eq_true rfl) (fun r wf h => by rcases h with ⟨-, rfl, -⟩ | ⟨i, h, v, -, -, -, -, -, rfl, -⟩ <;> trivial) ?_
  show BX11_of w _ w 0 [(0, .ref X), (1, .int x), (2, .int y)] []
  obtain ⟨⟨s0, hX0, hs0⟩, -, hW0, -⟩ := id hB
  obtain ⟨sp0, sf0, sh0, hsa0, hsb0, hsc0, hsd0, hse0, hsf0⟩ := id hs0
  obtain ⟨bb0, bl0, hG0⟩ := hW0.2.1
  obtain ⟨nL0, tL0, RL0, hL0⟩ := hW0.1
  obtain ⟨tc0, mc0, lc0, hC0, -⟩ := id hW0.2.2.1
  refine g_iload_n (pc := 0) 1 dX11_of_0 rfl rfl ?_
  refine g_callS (pc := 1) [.int x] dX11_of_1 cs_X11_95.1 cs_X11_95.2 rfl rfl (Nat.le_of_ble_eq_true rfl) (by decide) (by decide) (sp_isPlace _ (x := x)) ?_
  rintro _ w9 (⟨rfl, hpi, e9⟩ | ⟨rfl, hpi, e9⟩)
  · refine GP.weq _ e9 ?_
    refine n_if_ne (pc := 4) 9 dX11_of_4 (by decide) (by omega) (fun hzi => ?_) (fun hzi => ?_)
    · obtain ⟨i, hie, hi⟩ : ∃ i : Nat, x = nI i ∧ i < 8 := ⟨x.toInt.toNat, nI_toNat (by omega), by omega⟩
      subst hie
      obtain ⟨v1, hv1, hq1⟩ := hse0 i hi
      obtain ⟨pb1, pc1, hpo1, -⟩ := id hq1
      have hok1 : okP (sh.1 i) := by obtain ⟨-, -, -, -, -, -, -, h9⟩ := id hq1; exact h9
      refine g_aload_n (pc := 9) 0 dX11_of_9 rfl rfl ?_
      refine g_get (pc := 10) dX11_of_10 fk_X11_69 hX0 rfl ?_
      refine g_iload_n (pc := 13) 1 dX11_of_13 rfl rfl ?_
      refine g_callV (pc := 14) [.int (nI i)] dX11_of_14 cv_X11_111.1 cv_X11_111.2.1 cv_X11_111.2.2.1 cv_X11_111.2.2.2 hsa0 rfl rfl (Nat.le_of_ble_eq_true rfl) (by decide) (by decide) (sp_poly _ (i := i) hsa0 hsb0 hi hv1) ?_
      rintro _ w9 ⟨rfl, e9⟩
      refine GP.weq _ e9 ?_
      obtain ⟨b1, c1, ho1, hb1, hvB1, hbB1, hc1, hk1⟩ := id hq1
      have hfs : ∀ t, t ≤ (sh.1 i).1 → -9999 ≤ (c1 t).toInt ∧ (c1 t).toInt ≤ 9999 := fun t ht => by rw [hc1 t ht]; exact hk1.2.1 t ht
      have hcg : ∀ j, j < (sh.1 i).1 + 1 → toJ c1 j = (sh.1 i).2 j := fun j hj => hc1 j (by omega)
      refine g_astore_n (pc := 17) [(3, .ref v1), (0, .ref X), (1, .int (nI i)), (2, .int y)] dX11_of_17 rfl (by decide) rfl ?_
      refine g_iload_n (pc := 18) 3 dX11_of_18 rfl rfl ?_
      by_cases h09 : 0 ≤ y.toInt ∧ y.toInt ≤ 9
      · obtain ⟨h, hhe, hh⟩ : ∃ h : Nat, y = nI h ∧ h < 10 := ⟨y.toInt.toNat, nI_toNat (by omega), by omega⟩
        subst hhe
        clear h09
        rcases (show h = 0 ∨ h = 1 ∨ h = 2 ∨ h = 3 ∨ h = 4 ∨ h = 5 ∨ h = 6 ∨ h = 7 ∨ h = 8 ∨ h = 9 by omega) with e5 | e5 | e5 | e5 | e5 | e5 | e5 | e5 | e5 | e5
        · subst e5
          refine g_tabIn (pc := 19) (off := 53) 72 dX11_of_19 (by decide) (by decide) (by decide) (by decide) ?_
          refine g_aload_n (pc := 72) 0 dX11_of_72 rfl rfl ?_
          refine g_get (pc := 73) dX11_of_73 fk_X11_132 ho1 rfl ?_
          exact g_iret (pc := 76) dX11_of_76 (Or.inr ⟨i, 0, (sh.1 i).1, rfl, hi, rfl, by omega, rfl, rfl, hB, EX.rf⟩)
        · subst e5
          refine g_tabIn (pc := 19) (off := 58) 77 dX11_of_19 (by decide) (by decide) (by decide) (by decide) ?_
          refine g_aload_n (pc := 77) 0 dX11_of_77 rfl rfl ?_
          refine g_callV (pc := 78) [] dX11_of_78 cv_X11_244.1 cv_X11_244.2.1 cv_X11_244.2.2.1 cv_X11_244.2.2.2 ho1 rfl rfl (Nat.le_of_ble_eq_true rfl) (by decide) (by decide) (sp_sizes _ ho1 hb1 hk1.1 hfs) ?_
          rintro _ w9 ⟨rfl, e9⟩
          refine GP.weq _ e9 ?_
          exact g_iret (pc := 81) dX11_of_81 (Or.inr ⟨i, 1, (pAbs (toJ c1) ((sh.1 i).1 + 1)), rfl, hi, rfl, by omega, pAbs_cg _ hcg, rfl, hB, EX.rf⟩)
        · subst e5
          refine g_tabIn (pc := 19) (off := 63) 82 dX11_of_19 (by decide) (by decide) (by decide) (by decide) ?_
          refine g_aload_n (pc := 82) 0 dX11_of_82 rfl rfl ?_
          refine g_callV (pc := 83) [] dX11_of_83 cv_X11_247.1 cv_X11_247.2.1 cv_X11_247.2.2.1 cv_X11_247.2.2.2 ho1 rfl rfl (Nat.le_of_ble_eq_true rfl) (by decide) (by decide) (sp_greatestSize _ ho1 hb1 hk1.1 hfs) ?_
          rintro _ w9 ⟨rfl, e9⟩
          refine GP.weq _ e9 ?_
          exact g_iret (pc := 86) dX11_of_86 (Or.inr ⟨i, 2, (pMax (toJ c1) ((sh.1 i).1 + 1)), rfl, hi, rfl, by omega, pMax_cg _ hcg, rfl, hB, EX.rf⟩)
        · subst e5
          refine g_tabIn (pc := 19) (off := 68) 87 dX11_of_19 (by decide) (by decide) (by decide) (by decide) ?_
          refine g_aload_n (pc := 87) 0 dX11_of_87 rfl rfl ?_
          refine g_callV (pc := 88) [] dX11_of_88 cv_X11_250.1 cv_X11_250.2.1 cv_X11_250.2.2.1 cv_X11_250.2.2.2 ho1 rfl rfl (Nat.le_of_ble_eq_true rfl) (by decide) (by decide) (sp_squares _ ho1 hb1 hk1.1 hfs) ?_
          rintro _ w9 ⟨rfl, e9⟩
          refine GP.weq _ e9 ?_
          exact g_iret (pc := 91) dX11_of_91 (Or.inr ⟨i, 3, (pSqr (toJ c1) ((sh.1 i).1 + 1)), rfl, hi, rfl, by omega, pSqr_cg _ hcg, rfl, hB, EX.rf⟩)
        · subst e5
          refine g_tabIn (pc := 19) (off := 73) 92 dX11_of_19 (by decide) (by decide) (by decide) (by decide) ?_
          refine g_aload_n (pc := 92) 0 dX11_of_92 rfl rfl ?_
          refine g_callV (pc := 93) [] dX11_of_93 cv_X11_253.1 cv_X11_253.2.1 cv_X11_253.2.2.1 cv_X11_253.2.2.2 ho1 rfl rfl (Nat.le_of_ble_eq_true rfl) (by decide) (by decide) (sp_isReciprocal _ ho1 hb1 hk1.1 hfs) ?_
          rintro _ w9 (⟨rfl, hr, e9⟩ | ⟨rfl, hr, e9⟩)
          · refine GP.weq _ e9 ?_
            have hr2 : (∀ t, t ≤ (sh.1 i).1 → toJ c1 t = toJ c1 ((sh.1 i).1 - t)) ↔ (∀ t, t ≤ (sh.1 i).1 → (sh.1 i).2 t = (sh.1 i).2 ((sh.1 i).1 - t)) := ⟨fun h9 t ht => by rw [← hcg t (by omega), ← hcg _ (by omega)]; exact h9 t ht, fun h9 t ht => by rw [hcg t (by omega), hcg _ (by omega)]; exact h9 t ht⟩
            refine n_if_eq (pc := 96) 103 dX11_of_96 (by decide) (by omega) (fun hz => ?_) (fun hz => ?_)
            · exact absurd hz (by decide)
            · refine g_iconst (pc := 99) (v := nI 1) dX11_of_99 (by decide) ?_
              refine g_goto (pc := 100) 104 dX11_of_100 (by decide) ?_
              exact g_iret (pc := 104) dX11_of_104 (Or.inr ⟨i, 4, 1, rfl, hi, rfl, by omega, Or.inl ⟨hr2.mp hr, rfl⟩, rfl, hB, EX.rf⟩)
          · refine GP.weq _ e9 ?_
            have hr2 : (∀ t, t ≤ (sh.1 i).1 → toJ c1 t = toJ c1 ((sh.1 i).1 - t)) ↔ (∀ t, t ≤ (sh.1 i).1 → (sh.1 i).2 t = (sh.1 i).2 ((sh.1 i).1 - t)) := ⟨fun h9 t ht => by rw [← hcg t (by omega), ← hcg _ (by omega)]; exact h9 t ht, fun h9 t ht => by rw [hcg t (by omega), hcg _ (by omega)]; exact h9 t ht⟩
            refine n_if_eq (pc := 96) 103 dX11_of_96 (by decide) (by omega) (fun hz => ?_) (fun hz => ?_)
            · refine g_iconst (pc := 103) (v := nI 0) dX11_of_103 (by decide) ?_
              exact g_iret (pc := 104) dX11_of_104 (Or.inr ⟨i, 4, 0, rfl, hi, rfl, by omega, Or.inr ⟨fun h9 => hr (hr2.mpr h9), rfl⟩, rfl, hB, EX.rf⟩)
            · exact absurd rfl hz
        · subst e5
          refine g_tabIn (pc := 19) (off := 86) 105 dX11_of_19 (by decide) (by decide) (by decide) (by decide) ?_
          refine g_aload_n (pc := 105) 1 dX11_of_105 rfl rfl ?_
          refine g_aload_n (pc := 106) 0 dX11_of_106 rfl rfl ?_
          refine g_callV (pc := 107) [.ref v1] dX11_of_107 cv_X11_257.1 cv_X11_257.2.1 cv_X11_257.2.2.1 cv_X11_257.2.2.2 hX0 rfl rfl (Nat.le_of_ble_eq_true rfl) (by decide) (by decide) (sp_isMeasureOne _ hB hq1) ?_
          rintro _ w9 (⟨rfl, hr, hB1, hE1⟩ | ⟨rfl, hr, hB1, hE1⟩)
          · skip
            refine n_if_eq (pc := 110) 117 dX11_of_110 (by decide) (by omega) (fun hz => ?_) (fun hz => ?_)
            · exact absurd hz (by decide)
            · refine g_iconst (pc := 113) (v := nI 1) dX11_of_113 (by decide) ?_
              refine g_goto (pc := 114) 118 dX11_of_114 (by decide) ?_
              exact g_iret (pc := 118) dX11_of_118 (Or.inr ⟨i, 5, 1, rfl, hi, rfl, by omega, Or.inl ⟨hr, rfl⟩, rfl, hB1, hE1⟩)
          · skip
            refine n_if_eq (pc := 110) 117 dX11_of_110 (by decide) (by omega) (fun hz => ?_) (fun hz => ?_)
            · refine g_iconst (pc := 117) (v := nI 0) dX11_of_117 (by decide) ?_
              exact g_iret (pc := 118) dX11_of_118 (Or.inr ⟨i, 5, 0, rfl, hi, rfl, by omega, Or.inr ⟨hr, rfl⟩, rfl, hB1, hE1⟩)
            · exact absurd rfl hz
        · subst e5
          refine g_tabIn (pc := 19) (off := 100) 119 dX11_of_19 (by decide) (by decide) (by decide) (by decide) ?_
          refine g_aload_n (pc := 119) 0 dX11_of_119 rfl rfl ?_
          refine g_callV (pc := 120) [] dX11_of_120 cv_X11_261.1 cv_X11_261.2.1 cv_X11_261.2.2.1 cv_X11_261.2.2.2 ho1 rfl rfl (Nat.le_of_ble_eq_true rfl) (by decide) (by decide) (sp_terms _ ho1 hb1 hk1.1 hfs) ?_
          rintro _ w9 ⟨rfl, e9⟩
          refine GP.weq _ e9 ?_
          exact g_iret (pc := 123) dX11_of_123 (Or.inr ⟨i, 6, (pMany (toJ c1) ((sh.1 i).1 + 1)), rfl, hi, rfl, by omega, pMany_cg _ hcg, rfl, hB, EX.rf⟩)
        · subst e5
          refine g_tabIn (pc := 19) (off := 105) 124 dX11_of_19 (by decide) (by decide) (by decide) (by decide) ?_
          refine g_aload_n (pc := 124) 0 dX11_of_124 rfl rfl ?_
          refine g_callV (pc := 125) [] dX11_of_125 cv_X11_264.1 cv_X11_264.2.1 cv_X11_264.2.2.1 cv_X11_264.2.2.2 ho1 rfl rfl (Nat.le_of_ble_eq_true rfl) (by decide) (by decide) (sp_commonDivisor _ ho1 hb1 hk1.1 hfs) ?_
          rintro _ w9 ⟨rfl, e9⟩
          refine GP.weq _ e9 ?_
          exact g_iret (pc := 128) dX11_of_128 (Or.inr ⟨i, 7, (pGcd (toJ c1) ((sh.1 i).1 + 1)), rfl, hi, rfl, by omega, pGcd_cg _ hcg, rfl, hB, EX.rf⟩)
        · subst e5
          refine g_tabIn (pc := 19) (off := 110) 129 dX11_of_19 (by decide) (by decide) (by decide) (by decide) ?_
          refine g_aload_n (pc := 129) 0 dX11_of_129 rfl rfl ?_
          refine g_callV (pc := 130) [] dX11_of_130 cv_X11_267.1 cv_X11_267.2.1 cv_X11_267.2.2.1 cv_X11_267.2.2.2 ho1 rfl rfl (Nat.le_of_ble_eq_true rfl) (by decide) (by decide) (sp_signChanges _ ho1 hb1 hk1.1 hfs) ?_
          rintro _ w9 ⟨rfl, e9⟩
          refine GP.weq _ e9 ?_
          exact g_iret (pc := 133) dX11_of_133 (Or.inr ⟨i, 8, (pTurn (toJ c1) ((sh.1 i).1 + 1)), rfl, hi, rfl, by omega, pTurn_cg _ hcg, rfl, hB, EX.rf⟩)
        · subst e5
          refine g_tabIn (pc := 19) (off := 115) 134 dX11_of_19 (by decide) (by decide) (by decide) (by decide) ?_
          refine g_aload_n (pc := 134) 1 dX11_of_134 rfl rfl ?_
          refine g_get (pc := 135) dX11_of_135 fk_X11_19 hX0 rfl ?_
          refine g_aload_n (pc := 138) 0 dX11_of_138 rfl rfl ?_
          refine g_bipush (pc := 139) (v := nI 6) dX11_of_139 (by decide) ?_
          refine g_callV (pc := 141) [.ref v1, .int (nI 6)] dX11_of_141 cv_X11_270.1 cv_X11_270.2.1 cv_X11_270.2.2.1 cv_X11_270.2.2.2 hL0.1 rfl rfl (Nat.le_of_ble_eq_true rfl) (by decide) (by decide) (bx_climb _ (k := 6) hB hq1 (by omega)) ?_
          rintro _ w1 ⟨T, rfl, hT, hO, hB1, hE1⟩
          exact g_iret (pc := 144) dX11_of_144 (Or.inr ⟨i, 9, T, rfl, hi, rfl, by omega, hT, rfl, hB1, hE1⟩)
      · refine g_tabOut (pc := 19) 145 dX11_of_19 (by omega) (by decide) ?_
        refine g_iconst (pc := 145) (v := -1) dX11_of_145 (by decide) ?_
        exact g_iret (pc := 146) dX11_of_146 (Or.inl ⟨fun h9 => h09 h9.2, rfl, hB, EX.rf⟩)
    · exact absurd hzi (by decide)
  · refine GP.weq _ e9 ?_
    refine n_if_ne (pc := 4) 9 dX11_of_4 (by decide) (by omega) (fun hzi => ?_) (fun hzi => ?_)
    · exact absurd rfl hzi
    · refine g_iconst (pc := 7) (v := -1) dX11_of_7 (by decide) ?_
      exact g_iret (pc := 8) dX11_of_8 (Or.inl ⟨fun h9 => hpi h9.1, rfl, hB, EX.rf⟩)
abbrev BX11_smallest (w0 : Wd) (Post : Option Value → Wd → Prop) (w : Wd) (pc : Nat) (ls : List (Nat × Value)) (st : List Value) : Prop := GP "smallest" RX11 cX11_smallest 4 (some .int) 3 117 none w0 Post w pc ls st
abbrev EX11_smallest (As : List Value) (w : Wd) (Post : Option Value → Wd → Prop) : Prop := EP yX11_smallest cX11_smallest 4 (some .int) 3 As w Post
theorem sp_smallest (w : Wd) {X tl : Nat} {tb : Nat → Int32} {fa st : Int32} {rf : Nat → Nat} {sh : SV} {pn : Nat} {pk : Nat → Nat} {ps : Nat → SV} {im : Nat → Option SV} (hB : bxC w X tl tb fa st rf sh pn pk ps im) {x : Int32} : EX11_smallest [.ref X, .int x] w (fun r w' => (¬ (sh.2.2.2.2.2.1 ≠ 0 ∧ 0 ≤ x.toInt ∧ x.toInt ≤ 2) ∧ r = some (.int (-1)) ∧ bxC w' X tl tb fa st rf sh pn pk ps im ∧ EX (boxS X) 0 0 w w') ∨ (∃ h v, x = nI h ∧ h < 3 ∧ sh.2.2.2.2.2.1 ≠ 0 ∧ r = some (.int v) ∧ ((h = 0 ∧ v = nI (fMaI sh.2.2.2.2.2.2 (sh.2.2.2.2.2.2 (fLeI sh.2.2.2.2.2.2 sh.2.2.2.2.2.1 * 16 + 13)) sh.2.2.2.2.2.1)) ∨ (h = 1 ∧ v = nI (fLeI sh.2.2.2.2.2.2 sh.2.2.2.2.2.1)) ∨ (h = 2 ∧ v.toInt = sh.2.2.2.2.2.2 (fLeI sh.2.2.2.2.2.2 sh.2.2.2.2.2.1 * 16 + 13))) ∧ bxC w' X tl tb fa st rf sh pn pk ps im ∧ EX (boxS X) 0 0 w w')) := by
  refine EP.of (plainFor_of_name (by decide)) [(0, .ref X), (1, .int x)] rfl (Nat.le_of_ble_eq_true rfl) (fun r wf h => by rcases h with ⟨-, rfl, -⟩ | ⟨h, v, -, -, -, rfl, -⟩ <;> trivial) ?_
  show BX11_smallest w _ w 0 [(0, .ref X), (1, .int x)] []
  have hB0 := id hB
  obtain ⟨⟨s, hX, hs⟩, htp, hW, hpa, him, hrf⟩ := hB
  have hs0 := id hs
  obtain ⟨sp9, sf9, sh9, hs1, hs2, hs3, hs4, hs5, hs6⟩ := hs
  obtain ⟨htl, tpl, tf, ht1, ht2, ht3⟩ := id htp
  obtain ⟨row9, hrow9⟩ := hW.2.2.2.2.1
  obtain ⟨spa9, hspa9⟩ := hW.2.2.2.2.2
  obtain ⟨ef, gf, hf1, hf2, hf3, hf4, hf5, hf6, hf7, hf8, hf9, hf10⟩ := id hs6
  have z0 : (0 : Int32).toInt = 0 := by decide
  have z2 : (nI 2).toInt = 2 := by decide
  refine g_aload_n (pc := 0) 0 dX11_smallest_0 rfl rfl ?_
  refine g_get (pc := 1) dX11_smallest_1 fk_X11_69 hX rfl ?_
  refine g_get (pc := 4) dX11_smallest_4 fk_X11_209 hs1 rfl ?_
  refine g_astore_n (pc := 7) [(2, .ref sf9), (0, .ref X), (1, .int x)] dX11_smallest_7 rfl (by decide) rfl ?_
  refine g_aload_n (pc := 8) 0 dX11_smallest_8 rfl rfl ?_
  refine g_get (pc := 9) dX11_smallest_9 fk_X11_328 hf1 rfl ?_
  refine n_if_eq (pc := 12) 24 dX11_smallest_12 (by decide) (by omega) (fun h0 => ?_) (fun h0 => ?_)
  · refine g_iconst (pc := 24) (v := -1) dX11_smallest_24 (by decide) ?_
    exact g_iret (pc := 25) dX11_smallest_25 (Or.inl ⟨fun h9 => h9.1 h0, rfl, hB0, EX.rf⟩)
  · refine g_iload_n (pc := 15) 2 dX11_smallest_15 rfl rfl ?_
    refine g_if_lt (pc := 16) 24 dX11_smallest_16 (by decide) (fun h1 => ?_) (fun h1 => ?_)
    · rw [Int32.lt_iff_toInt_lt, z0] at h1
      refine g_iconst (pc := 24) (v := -1) dX11_smallest_24 (by decide) ?_
      exact g_iret (pc := 25) dX11_smallest_25 (Or.inl ⟨fun h9 => by have := h9.2; omega, rfl, hB0, EX.rf⟩)
    · rw [Int32.lt_iff_toInt_lt, z0] at h1
      refine g_iload_n (pc := 19) 2 dX11_smallest_19 rfl rfl ?_
      refine g_iconst (pc := 20) (v := nI 2) dX11_smallest_20 (by decide) ?_
      refine g_icmp_le (pc := 21) 26 dX11_smallest_21 (by decide) (fun h2 => ?_) (fun h2 => ?_)
      · rw [Int32.le_iff_toInt_le, z2] at h2
        obtain ⟨h, hhe, hh⟩ : ∃ h : Nat, x = nI h ∧ h < 3 := ⟨x.toInt.toNat, nI_toNat (by omega), by omega⟩
        subst hhe
        have hle := fLe_cg hf5 _ (Nat.le_refl _)
        have hll := fLeI_lt sh.2.2.2.2.2.2 sh.2.2.2.2.2.1
        obtain ⟨F1, hF1⟩ : ∃ F1, fLeI sh.2.2.2.2.2.2 sh.2.2.2.2.2.1 = F1 := ⟨_, rfl⟩
        rw [hF1] at hle hll
        refine g_aload_n (pc := 26) 0 dX11_smallest_26 rfl rfl ?_
        refine g_callV (pc := 27) [] dX11_smallest_27 cv_X11_331.1 cv_X11_331.2.1 cv_X11_331.2.2.1 cv_X11_331.2.2.2 hf1 rfl rfl (Nat.le_of_ble_eq_true rfl) (by decide) (by decide) (sp_firstLeast _ hf1 hf2 rfl hf7) ?_
        rintro _ w9 ⟨rfl, e9⟩
        refine GP.weq _ e9 ?_
        refine GP.ti (nI F1) (by rw [hle]) ?_
        refine g_istore_n (pc := 30) [(3, .int (nI F1)), (2, .ref sf9), (0, .ref X), (1, .int (nI h))] dX11_smallest_30 rfl (by decide) rfl ?_
        refine g_iload_n (pc := 31) 3 dX11_smallest_31 rfl rfl ?_
        refine n_if_ne (pc := 32) 47 dX11_smallest_32 (by decide) (by omega) (fun h3 => ?_) (fun h3 => ?_)
        · refine g_iload_n (pc := 47) 3 dX11_smallest_47 rfl rfl ?_
          refine g_iconst (pc := 48) (v := nI 1) dX11_smallest_48 (by decide) ?_
          refine n_icmp_ne (pc := 49) 56 dX11_smallest_49 (by decide) (by omega) (by omega) (fun h4 => ?_) (fun h4 => ?_)
          · refine g_aload_n (pc := 56) 1 dX11_smallest_56 rfl rfl ?_
            refine g_iload_n (pc := 57) 0 dX11_smallest_57 rfl rfl ?_
            refine g_bipush (pc := 58) (v := nI 13) dX11_smallest_58 (by decide) ?_
            refine g_callV (pc := 60) [.int (nI F1), .int (nI 13)] dX11_smallest_60 cv_X11_325.1 cv_X11_325.2.1 cv_X11_325.2.2.1 cv_X11_325.2.2.2 hf1 rfl rfl (Nat.le_of_ble_eq_true rfl) (by decide) (by decide) (sp_entry _ (i := F1) (k := 13) hf1 hf2 rfl hf7 (by omega) (by omega)) ?_
            rintro _ w9 ⟨rfl, e9⟩
            refine GP.weq _ e9 ?_
            exact g_iret (pc := 63) dX11_smallest_63 (Or.inr ⟨h, gf (F1 * 16 + 13), rfl, by omega, h0, rfl, Or.inr (Or.inr ⟨by omega, by rw [hF1]; exact hf5 _ (by omega)⟩), hB0, EX.rf⟩)
          · refine g_iload_n (pc := 52) 0 dX11_smallest_52 rfl rfl ?_
            refine g_goto (pc := 53) 63 dX11_smallest_53 (by decide) ?_
            exact g_iret (pc := 63) dX11_smallest_63 (Or.inr ⟨h, nI F1, rfl, by omega, h0, rfl, Or.inr (Or.inl ⟨by omega, by rw [hF1]⟩), hB0, EX.rf⟩)
        · refine g_aload_n (pc := 35) 1 dX11_smallest_35 rfl rfl ?_
          refine g_aload_n (pc := 36) 1 dX11_smallest_36 rfl rfl ?_
          refine g_iload_n (pc := 37) 0 dX11_smallest_37 rfl rfl ?_
          refine g_bipush (pc := 38) (v := nI 13) dX11_smallest_38 (by decide) ?_
          refine g_callV (pc := 40) [.int (nI F1), .int (nI 13)] dX11_smallest_40 cv_X11_325.1 cv_X11_325.2.1 cv_X11_325.2.2.1 cv_X11_325.2.2.2 hf1 rfl rfl (Nat.le_of_ble_eq_true rfl) (by decide) (by decide) (sp_entry _ (i := F1) (k := 13) hf1 hf2 rfl hf7 (by omega) (by omega)) ?_
          rintro _ w9 ⟨rfl, e9⟩
          refine GP.weq _ e9 ?_
          refine g_callV (pc := 43) [.int (gf (F1 * 16 + 13))] dX11_smallest_43 cv_X11_334.1 cv_X11_334.2.1 cv_X11_334.2.2.1 cv_X11_334.2.2.2 hf1 rfl rfl (Nat.le_of_ble_eq_true rfl) (by decide) (by decide) (sp_howMany _ (x := gf (F1 * 16 + 13)) hf1 hf2 rfl hf7) ?_
          rintro _ w9 ⟨rfl, e9⟩
          refine GP.weq _ e9 ?_
          exact g_iret (pc := 46) dX11_smallest_46 (Or.inr ⟨h, nI (fMany gf (gf (F1 * 16 + 13)).toInt sh.2.2.2.2.2.1), rfl, by omega, h0, rfl, Or.inl ⟨by omega, by rw [fMa_cg hf5 _ (Nat.le_refl _), hF1, hf5 _ (by omega)]⟩, hB0, EX.rf⟩)
      · rw [Int32.le_iff_toInt_le, z2] at h2
        refine g_iconst (pc := 24) (v := -1) dX11_smallest_24 (by decide) ?_
        exact g_iret (pc := 25) dX11_smallest_25 (Or.inl ⟨fun h9 => by have := h9.2; omega, rfl, hB0, EX.rf⟩)
