/-! Text: parse -/
theorem nI_nneg {e : Nat} (h : e < 2147483648) {x : Int32} (hx : x.toInt < 0) : nI e ≠ x := fun g => by
  have := nI_toInt h
  rw [g] at this
  omega
/-- coefficients after a term -/
def addT (G : Nat → Int) (mi pw sz : Nat) : Nat → Int := fun j => G j + if j = pw then (if mi = 0 then (sz : Int) else -sz) else 0
def pLoop (f : Nat → Int32) (ln : Nat) : Nat → Nat → Nat → (Nat → Int) → Nat ⊕ (Nat → Int)
  | 0, p, _, _ => .inl p
  | k + 1, p, mi, G => match pTerm f ln p with
    | .inl e => .inl e
    | .inr (pw, sz, q) =>
      if q < ln ∧ ub (f q) = 45 then pLoop f ln k (q + 1) 1 (addT G mi pw sz)
      else if q < ln ∧ ub (f q) = 43 then pLoop f ln k (q + 1) 0 (addT G mi pw sz)
      else if q < ln then .inl q else .inr (addT G mi pw sz)
def pAll (f : Nat → Int32) (ln : Nat) : Nat ⊕ (Nat → Int) :=
  if skB f ln 0 < ln ∧ ub (f (skB f ln 0)) = 45 then pLoop f ln 401 (skB f ln 0 + 1) 1 (fun _ => 0)
  else if skB f ln 0 < ln ∧ ub (f (skB f ln 0)) = 43 then pLoop f ln 401 (skB f ln 0 + 1) 0 (fun _ => 0)
  else pLoop f ln 401 (skB f ln 0) 0 (fun _ => 0)
def topI (G : Nat → Int) (K c : Nat) : Prop := c ≤ K ∧ (∀ j, c ≤ j → j < K → G j = 0) ∧ (c = 0 ∨ G (c - 1) ≠ 0)
theorem topI_of {g : Nat → Int64} {G : Nat → Int} {K c : Nat} (h : ∀ j, j < K → (g j).toInt = G j) (h1 : c ≤ K) (h2 : ∀ j, c ≤ j → j < K → g j = 0) (h3 : c = 0 ∨ g (c - 1) ≠ 0) : topI G K c := by
  refine ⟨h1, fun j a b => by rw [← h j b]; exact L0.mpr (h2 j a b), ?_⟩
  rcases Nat.eq_zero_or_pos c with h0 | h0
  · exact Or.inl h0
  · refine Or.inr (fun g9 => ?_)
    rcases h3 with h3 | h3
    · omega
    · exact h3 (L0.mp (by rw [h (c - 1) (by omega)]; exact g9))
theorem oq_again {w : Wd} {o q : Nat} {A A' B B' : Ce} (hoq : o ≠ q) : ((((w.set o B).set q A).set o B').set q A') = (w.set o B').set q A' := by
  rw [List.set_comm _ _ (Ne.symm hoq), List.set_set, List.set_set]
theorem oq_o {w : Wd} {o q : Nat} {A B B' : Ce} (hoq : o ≠ q) : (((w.set o B).set q A).set o B') = (w.set o B').set q A := by
  rw [List.set_comm _ _ (Ne.symm hoq), List.set_set]
abbrev BX9_parse (w0 : Wd) (Post : Option Value → Wd → Prop) (w : Wd) (pc : Nat) (ls : List (Nat × Value)) (st : List Value) : Prop := GP "parse" RX9 cX9_parse 6 (some .int) 4 156 none w0 Post w pc ls st
abbrev EX9_parse (As : List Value) (w : Wd) (Post : Option Value → Wd → Prop) : Prop := EP yX9_parse cX9_parse 6 (some .int) 4 As w Post
theorem pa_loop {w0 w : Wd} {o b q ln pl : Nat} {f : Nat → Int32} {g : Nat → Int64} (ho : w[o]? = some (oT b ln pl)) (hb : w[b]? = some (aI 2 400 f)) (hq : w[q]? = some (aL 25 g)) (hob : o ≠ b) (hoq : o ≠ q) (hqb : q ≠ b) (hln : ln ≤ 400) : ∀ (k t p mi : Nat) (G : Nat → Int) (cur : Nat → Int64), t + k = 401 → t ≤ p → p ≤ ln → mi ≤ 1 → (∀ j, j < 25 → (cur j).toInt = G j ∧ -(t * 9999 : Int) ≤ G j ∧ G j ≤ t * 9999) → BX9_parse w0 (fun r w' => (∃ e, pLoop f ln k p mi G = .inl e ∧ e ≤ ln ∧ r = some (.int (nI e)) ∧ ∃ (pl' : Nat) (g' : Nat → Int64), w' = (w.set o (oT b ln pl')).set q (aL 25 g')) ∨ (∃ (Ge : Nat → Int) (c pl' : Nat) (g' : Nat → Int64), pLoop f ln k p mi G = .inr Ge ∧ topI Ge 25 c ∧ (∀ j, j < 25 → (g' j).toInt = Ge j) ∧ w' = (w.set o (oT b ln pl')).set q (aL 25 g') ∧ ((fitS g' c ∧ r = some (.int (-1))) ∨ (¬ fitS g' c ∧ r = some (.int (-2)))))) ((w.set o (.inr (8, [.ref b, .int (nI ln), .int (nI p)]))).set q (aL 25 cur)) 37 [(4, .int (nI t)), (3, .int (nI 1)), (2, .int (nI mi)), (0, .ref o), (1, .ref q)] [] := by
  intro k
  induction k with
  | zero => intro t p mi G cur ht htp hp; exact absurd hp (by omega)
  | succ k ih =>
    intro t p mi G cur ht htp hp hmi h
    have hok := pTerm_ok (f := f) hp
    refine g_iload_n (pc := 37) 1 dX9_parse_37 rfl rfl ?_
    refine n_if_eq (pc := 38) 98 dX9_parse_38 (by decide) (by omega) (fun h1 => ?_) (fun h1 => ?_)
    · exact absurd h1 (by decide)
    · refine g_iload (pc := 41) 0 dX9_parse_41 rfl ?_
      refine g_sipush (pc := 43) (v := nI 400) dX9_parse_43 (by decide) ?_
      refine n_icmp_gt (pc := 46) 98 dX9_parse_46 (by decide) (by omega) (by omega) (fun h1 => ?_) (fun h1 => ?_)
      · exact absurd h1 (by omega)
      · refine g_aload_n (pc := 49) 3 dX9_parse_49 rfl rfl ?_
        refine g_iload_n (pc := 50) 2 dX9_parse_50 rfl rfl ?_
        refine g_aload_n (pc := 51) 4 dX9_parse_51 rfl rfl ?_
        refine g_callS (pc := 52) [.ref o, .int (nI mi), .ref q] dX9_parse_52 cs_X9_28.1 cs_X9_28.2 rfl rfl (Nat.le_of_ble_eq_true rfl) (by decide) (by decide) (sp_parseTerm _ (lk_ne (Ne.symm hoq) (lk_eq ho)) (lk_ne hqb (lk_ne hob hb)) (lk_eq (lk_ne hoq hq)) hob hoq hln hmi (fun j hj => by have := h j hj; omega) hp) ?_
        rintro _ w9 (⟨e, he, rfl, pl', e9⟩ | ⟨pw, sz, p1, g1, he, rfl, hg1, e9⟩)
        · rw [he] at hok
          replace hok : e ≤ ln := hok
          refine GP.weq _ (e9.trans (oq_o hoq)) ?_
          refine g_istore (pc := 55) [(5, .int (nI e)), (4, .int (nI t)), (3, .int (nI 1)), (2, .int (nI mi)), (0, .ref o), (1, .ref q)] dX9_parse_55 (by decide) rfl ?_
          refine g_iload (pc := 57) 0 dX9_parse_57 rfl ?_
          refine g_iconst (pc := 59) (v := -1) dX9_parse_59 (by decide) ?_
          refine g_icmp_eq (pc := 60) 66 dX9_parse_60 (by decide) (fun h2 => ?_) (fun h2 => ?_)
          · exact absurd h2 (nI_nneg (by omega) (by decide))
          · refine g_iload (pc := 63) 0 dX9_parse_63 rfl ?_
            exact g_iret (pc := 65) dX9_parse_65 (Or.inl ⟨e, by simp only [pLoop]; rw [he], hok, rfl, pl', cur, rfl⟩)
        · rw [he] at hok
          obtain ⟨k1, k2, k3, k4⟩ := hok
          refine GP.weq _ (e9.trans (oq_again hoq)) ?_
          have hstep : pLoop f ln (k + 1) p mi G = if p1 < ln ∧ ub (f p1) = 45 then pLoop f ln k (p1 + 1) 1 (addT G mi pw sz) else if p1 < ln ∧ ub (f p1) = 43 then pLoop f ln k (p1 + 1) 0 (addT G mi pw sz) else if p1 < ln then .inl p1 else .inr (addT G mi pw sz) := by simp only [pLoop]; rw [he]
          have hG : ∀ j, j < 25 → (g1 j).toInt = addT G mi pw sz j ∧ -((t + 1 : Nat) * 9999 : Int) ≤ addT G mi pw sz j ∧ addT G mi pw sz j ≤ (t + 1 : Nat) * 9999 := fun j hj => by
            have e1 := h j hj
            have e2 := hg1 j hj
            have e3 : addT G mi pw sz j = G j + if j = pw then (if mi = 0 then (sz : Int) else -sz) else 0 := rfl
            rw [← e1.1, ← e2] at e3
            refine ⟨e3.symm, ?_⟩
            rw [e3, e2, e1.1]
            split
            · split <;> omega
            · omega
          refine g_istore (pc := 55) [(5, .int (-1)), (4, .int (nI t)), (3, .int (nI 1)), (2, .int (nI mi)), (0, .ref o), (1, .ref q)] dX9_parse_55 (by decide) rfl ?_
          refine g_iload (pc := 57) 0 dX9_parse_57 rfl ?_
          refine g_iconst (pc := 59) (v := -1) dX9_parse_59 (by decide) ?_
          refine g_icmp_eq (pc := 60) 66 dX9_parse_60 (by decide) (fun h2 => ?_) (fun h2 => ?_)
          · refine g_aload_n (pc := 66) 4 dX9_parse_66 rfl rfl ?_
            refine g_bipush (pc := 67) (v := nI 45) dX9_parse_67 (by decide) ?_
            refine g_callV (pc := 69) [.int (nI 45)] dX9_parse_69 cv_X9_24.1 cv_X9_24.2.1 cv_X9_24.2.2.1 cv_X9_24.2.2.2 (lk_ne (Ne.symm hoq) (lk_eq ho)) rfl rfl (Nat.le_of_ble_eq_true rfl) (by decide) (by decide) (sp_skips _ (lk_ne (Ne.symm hoq) (lk_eq ho)) (lk_ne hqb (lk_ne hob hb)) hob hln (c := 45) (by decide) (by omega)) ?_
            rintro _ w9 (⟨rfl, hx, e9⟩ | ⟨rfl, hx, e9⟩)
            · refine GP.weq _ e9 ?_
              refine GP.weq ((w.set o (.inr (8, [.ref b, .int (nI ln), .int (nI (p1 + 1))]))).set q (aL 25 g1)) (by rw [List.set_comm _ _ (Ne.symm hoq), List.set_set]) ?_
              rw [if_pos hx] at hstep
              rw [hstep]
              refine g_istore_n (pc := 72) [(2, .int (nI 1)), (5, .int (-1)), (4, .int (nI t)), (3, .int (nI 1)), (0, .ref o), (1, .ref q)] dX9_parse_72 rfl (by decide) rfl ?_
              refine g_iload_n (pc := 73) 0 dX9_parse_73 rfl rfl ?_
              refine n_if_ne (pc := 74) 86 dX9_parse_74 (by decide) (by omega) (fun h3 => ?_) (fun h3 => ?_)
              · refine g_iconst (pc := 86) (v := nI 1) dX9_parse_86 (by decide) ?_
                refine g_goto (pc := 87) 91 dX9_parse_87 (by decide) ?_
                refine g_istore_n (pc := 91) [(3, .int (nI 1)), (2, .int (nI 1)), (5, .int (-1)), (4, .int (nI t)), (0, .ref o), (1, .ref q)] dX9_parse_91 rfl (by decide) rfl ?_
                refine n_iinc (pc := 92) (c := 1) [(4, .int (nI (t + 1))), (3, .int (nI 1)), (2, .int (nI 1)), (5, .int (-1)), (0, .ref o), (1, .ref q)] 3 dX9_parse_92 rfl (by decide) (by decide) rfl ?_
                refine g_goto (pc := 95) 37 dX9_parse_95 (by decide) ?_
                exact GP.lsub [(4, .int (nI (t + 1))), (3, .int (nI 1)), (2, .int (nI 1)), (0, .ref o), (1, .ref q)] (by simp) (ih (t + 1) (p1 + 1) 1 _ g1 (by omega) (by omega) (by omega) (by omega) hG)
              · exact absurd h3 (by decide)
            · refine GP.weq _ e9 ?_
              rw [if_neg hx] at hstep
              refine g_istore_n (pc := 72) [(2, .int (nI 0)), (5, .int (-1)), (4, .int (nI t)), (3, .int (nI 1)), (0, .ref o), (1, .ref q)] dX9_parse_72 rfl (by decide) rfl ?_
              refine g_iload_n (pc := 73) 0 dX9_parse_73 rfl rfl ?_
              refine n_if_ne (pc := 74) 86 dX9_parse_74 (by decide) (by omega) (fun h3 => ?_) (fun h3 => ?_)
              · exact absurd rfl h3
              · refine g_aload_n (pc := 77) 4 dX9_parse_77 rfl rfl ?_
                refine g_bipush (pc := 78) (v := nI 43) dX9_parse_78 (by decide) ?_
                refine g_callV (pc := 80) [.int (nI 43)] dX9_parse_80 cv_X9_24.1 cv_X9_24.2.1 cv_X9_24.2.2.1 cv_X9_24.2.2.2 (lk_ne (Ne.symm hoq) (lk_eq ho)) rfl rfl (Nat.le_of_ble_eq_true rfl) (by decide) (by decide) (sp_skips _ (lk_ne (Ne.symm hoq) (lk_eq ho)) (lk_ne hqb (lk_ne hob hb)) hob hln (c := 43) (by decide) (by omega)) ?_
                rintro _ w9 (⟨rfl, hy, e9⟩ | ⟨rfl, hy, e9⟩)
                · refine GP.weq _ e9 ?_
                  refine GP.weq ((w.set o (.inr (8, [.ref b, .int (nI ln), .int (nI (p1 + 1))]))).set q (aL 25 g1)) (by rw [List.set_comm _ _ (Ne.symm hoq), List.set_set]) ?_
                  rw [if_pos hy] at hstep
                  rw [hstep]
                  refine n_if_eq (pc := 83) 90 dX9_parse_83 (by decide) (by omega) (fun h4 => ?_) (fun h4 => ?_)
                  · exact absurd h4 (by decide)
                  · refine g_iconst (pc := 86) (v := nI 1) dX9_parse_86 (by decide) ?_
                    refine g_goto (pc := 87) 91 dX9_parse_87 (by decide) ?_
                    refine g_istore_n (pc := 91) [(3, .int (nI 1)), (2, .int (nI 0)), (5, .int (-1)), (4, .int (nI t)), (0, .ref o), (1, .ref q)] dX9_parse_91 rfl (by decide) rfl ?_
                    refine n_iinc (pc := 92) (c := 1) [(4, .int (nI (t + 1))), (3, .int (nI 1)), (2, .int (nI 0)), (5, .int (-1)), (0, .ref o), (1, .ref q)] 3 dX9_parse_92 rfl (by decide) (by decide) rfl ?_
                    refine g_goto (pc := 95) 37 dX9_parse_95 (by decide) ?_
                    exact GP.lsub [(4, .int (nI (t + 1))), (3, .int (nI 1)), (2, .int (nI 0)), (0, .ref o), (1, .ref q)] (by simp) (ih (t + 1) (p1 + 1) 0 _ g1 (by omega) (by omega) (by omega) (by omega) hG)
                · refine GP.weq _ e9 ?_
                  rw [if_neg hy] at hstep
                  rw [hstep]
                  refine n_if_eq (pc := 83) 90 dX9_parse_83 (by decide) (by omega) (fun h4 => ?_) (fun h4 => ?_)
                  · refine g_iconst (pc := 90) (v := nI 0) dX9_parse_90 (by decide) ?_
                    refine g_istore_n (pc := 91) [(3, .int (nI 0)), (2, .int (nI 0)), (5, .int (-1)), (4, .int (nI t)), (0, .ref o), (1, .ref q)] dX9_parse_91 rfl (by decide) rfl ?_
                    refine n_iinc (pc := 92) (c := 1) [(4, .int (nI (t + 1))), (3, .int (nI 0)), (2, .int (nI 0)), (5, .int (-1)), (0, .ref o), (1, .ref q)] 3 dX9_parse_92 rfl (by decide) (by decide) rfl ?_
                    refine g_goto (pc := 95) 37 dX9_parse_95 (by decide) ?_
                    refine g_iload_n (pc := 37) 1 dX9_parse_37 rfl rfl ?_
                    refine n_if_eq (pc := 38) 98 dX9_parse_38 (by decide) (by omega) (fun h5 => ?_) (fun h5 => ?_)
                    · refine g_aload_n (pc := 98) 4 dX9_parse_98 rfl rfl ?_
                      refine g_get (pc := 99) dX9_parse_99 fk_X9_15 (lk_ne (Ne.symm hoq) (lk_eq ho)) rfl ?_
                      refine g_aload_n (pc := 102) 4 dX9_parse_102 rfl rfl ?_
                      refine g_get (pc := 103) dX9_parse_103 fk_X9_34 (lk_ne (Ne.symm hoq) (lk_eq ho)) rfl ?_
                      refine n_icmp_ge (pc := 106) 114 dX9_parse_106 (by decide) (by omega) (by omega) (fun h6 => ?_) (fun h6 => ?_)
                      · rw [if_neg (by omega)]
                        refine g_aload_n (pc := 114) 5 dX9_parse_114 rfl rfl ?_
                        refine g_aload_n (pc := 115) 5 dX9_parse_115 rfl rfl ?_
                        refine g_callS (pc := 116) [.ref q] dX9_parse_116 cs_X9_37.1 cs_X9_37.2 rfl rfl (Nat.le_of_ble_eq_true rfl) (by decide) (by decide) (sp_topOf _ (lk_eq (lk_ne hoq hq)) (by decide)) ?_
                        rintro _ w9 ⟨c, rfl, hc1, hc2, hc3, e9⟩
                        refine GP.weq _ e9 ?_
                        refine g_callS (pc := 119) [.ref q, .int (nI c - 1)] dX9_parse_119 cs_X9_43.1 cs_X9_43.2 rfl rfl (Nat.le_of_ble_eq_true rfl) (by decide) (by decide) (sp_canBeInStore _ (lk_eq (lk_ne hoq hq)) (by decide) hc1) ?_
                        rintro _ w9 (⟨rfl, hs, e9⟩ | ⟨rfl, hs, e9⟩)
                        · refine GP.weq _ e9 ?_
                          refine n_if_eq (pc := 122) 129 dX9_parse_122 (by decide) (by omega) (fun h7 => ?_) (fun h7 => ?_)
                          · exact absurd h7 (by decide)
                          · refine g_iconst (pc := 125) (v := -1) dX9_parse_125 (by decide) ?_
                            refine g_goto (pc := 126) 131 dX9_parse_126 (by decide) ?_
                            exact g_iret (pc := 131) dX9_parse_131 (Or.inr ⟨_, c, p1, g1, rfl, topI_of (fun j hj => (hG j hj).1) hc1 hc2 hc3, fun j hj => (hG j hj).1, rfl, Or.inl ⟨hs, rfl⟩⟩)
                        · refine GP.weq _ e9 ?_
                          refine n_if_eq (pc := 122) 129 dX9_parse_122 (by decide) (by omega) (fun h7 => ?_) (fun h7 => ?_)
                          · refine g_bipush (pc := 129) (v := -2) dX9_parse_129 (by decide) ?_
                            exact g_iret (pc := 131) dX9_parse_131 (Or.inr ⟨_, c, p1, g1, rfl, topI_of (fun j hj => (hG j hj).1) hc1 hc2 hc3, fun j hj => (hG j hj).1, rfl, Or.inr ⟨hs, rfl⟩⟩)
                          · exact absurd rfl h7
                      · rw [if_pos (by omega)]
                        refine g_aload_n (pc := 109) 4 dX9_parse_109 rfl rfl ?_
                        refine g_get (pc := 110) dX9_parse_110 fk_X9_15 (lk_ne (Ne.symm hoq) (lk_eq ho)) rfl ?_
                        exact g_iret (pc := 113) dX9_parse_113 (Or.inl ⟨p1, rfl, k2, rfl, p1, g1, rfl⟩)
                    · exact absurd rfl h5
                  · exact absurd rfl h4
          · exact absurd (by decide) h2
theorem sp_parse (w : Wd) {o b q ln pl : Nat} {f : Nat → Int32} {g : Nat → Int64} (ho : w[o]? = some (oT b ln pl)) (hb : w[b]? = some (aI 2 400 f)) (hq : w[q]? = some (aL 25 g)) (hob : o ≠ b) (hoq : o ≠ q) (hqb : q ≠ b) (hln : ln ≤ 400) : EX9_parse [.ref o, .ref q] w (fun r w' => (∃ e, pAll f ln = .inl e ∧ e ≤ ln ∧ r = some (.int (nI e)) ∧ ∃ (pl' : Nat) (g' : Nat → Int64), w' = (w.set o (oT b ln pl')).set q (aL 25 g')) ∨ (∃ (Ge : Nat → Int) (c pl' : Nat) (g' : Nat → Int64), pAll f ln = .inr Ge ∧ topI Ge 25 c ∧ (∀ j, j < 25 → (g' j).toInt = Ge j) ∧ w' = (w.set o (oT b ln pl')).set q (aL 25 g') ∧ ((fitS g' c ∧ r = some (.int (-1))) ∨ (¬ fitS g' c ∧ r = some (.int (-2)))))) := by
  refine EP.of (plainFor_of_name (by decide)) [(0, .ref o), (1, .ref q)] rfl (Nat.le_of_ble_eq_true rfl) (fun r wf h => by rcases h with ⟨e, -, -, rfl, -⟩ | ⟨G, c, pl', g', -, -, -, -, ⟨-, rfl⟩ | ⟨-, rfl⟩⟩ <;> trivial) ?_
  show BX9_parse w _ w 0 [(0, .ref o), (1, .ref q)] []
  have hs0 := skB_le (f := f) (ln := ln) (p := 0) (by omega)
  obtain ⟨p0, hp0⟩ : ∃ z, skB f ln 0 = z := ⟨_, rfl⟩
  have hA : pAll f ln = if p0 < ln ∧ ub (f p0) = 45 then pLoop f ln 401 (p0 + 1) 1 (fun _ => 0) else if p0 < ln ∧ ub (f p0) = 43 then pLoop f ln 401 (p0 + 1) 0 (fun _ => 0) else pLoop f ln 401 p0 0 (fun _ => 0) := by unfold pAll; rw [hp0]
  rw [hp0] at hs0
  refine GP.weq _ (set_same ho).symm ?_
  refine g_aload_n (pc := 0) 1 dX9_parse_0 rfl rfl ?_
  refine g_lconst (pc := 1) (v := 0) dX9_parse_1 (by decide) ?_
  refine g_callS (pc := 2) [.ref q, .long 0] dX9_parse_2 cs_X9_9.1 cs_X9_9.2 rfl rfl (Nat.le_of_ble_eq_true rfl) (by decide) (by decide) (sp_fill1 _ q 25 g 0 (lk_ne hoq hq) (by decide)) ?_
  rintro _ w9 ⟨rfl, e9⟩
  refine GP.weq _ e9 ?_
  refine g_aload_n (pc := 5) 0 dX9_parse_5 rfl rfl ?_
  refine g_iconst (pc := 6) (v := nI 0) dX9_parse_6 (by decide) ?_
  refine g_put (pc := 7) [.ref b, .int (nI ln), .int (nI 0)] dX9_parse_7 fk_X9_15 (lk_ne (Ne.symm hoq) (lk_eq ho)) (Nat.le_of_ble_eq_true rfl) rfl rfl ?_
  refine GP.weq ((w.set o (.inr (8, [.ref b, .int (nI ln), .int (nI 0)]))).set q (aL 25 (fillF g 0 25 0))) (by rw [List.set_comm _ _ (Ne.symm hoq), List.set_set]) ?_
  refine g_aload_n (pc := 10) 0 dX9_parse_10 rfl rfl ?_
  refine g_callV (pc := 11) [] dX9_parse_11 cv_X9_21.1 cv_X9_21.2.1 cv_X9_21.2.2.1 cv_X9_21.2.2.2 (lk_ne (Ne.symm hoq) (lk_eq ho)) rfl rfl (Nat.le_of_ble_eq_true rfl) (by decide) (by decide) (sp_skipBlanks _ (lk_ne (Ne.symm hoq) (lk_eq ho)) (lk_ne hqb (lk_ne hob hb)) hob hln (by omega)) ?_
  rintro _ w9 ⟨rfl, e9⟩
  rw [hp0] at e9
  refine GP.weq _ e9 ?_
  refine GP.weq ((w.set o (.inr (8, [.ref b, .int (nI ln), .int (nI p0)]))).set q (aL 25 (fillF g 0 25 0))) (by rw [List.set_comm _ _ (Ne.symm hoq), List.set_set]) ?_
  refine g_aload_n (pc := 14) 0 dX9_parse_14 rfl rfl ?_
  refine g_bipush (pc := 15) (v := nI 45) dX9_parse_15 (by decide) ?_
  refine g_callV (pc := 17) [.int (nI 45)] dX9_parse_17 cv_X9_24.1 cv_X9_24.2.1 cv_X9_24.2.2.1 cv_X9_24.2.2.2 (lk_ne (Ne.symm hoq) (lk_eq ho)) rfl rfl (Nat.le_of_ble_eq_true rfl) (by decide) (by decide) (sp_skips _ (lk_ne (Ne.symm hoq) (lk_eq ho)) (lk_ne hqb (lk_ne hob hb)) hob hln (c := 45) (by decide) (by omega)) ?_
  rintro _ w9 (⟨rfl, hx, e9⟩ | ⟨rfl, hx, e9⟩)
  · refine GP.weq _ e9 ?_
    refine GP.weq ((w.set o (.inr (8, [.ref b, .int (nI ln), .int (nI (p0 + 1))]))).set q (aL 25 (fillF g 0 25 0))) (by rw [List.set_comm _ _ (Ne.symm hoq), List.set_set]) ?_
    rw [if_pos hx] at hA
    rw [hA]
    refine g_istore_n (pc := 20) [(2, .int (nI 1)), (0, .ref o), (1, .ref q)] dX9_parse_20 rfl (by decide) rfl ?_
    refine g_iload_n (pc := 21) 0 dX9_parse_21 rfl rfl ?_
    refine n_if_ne (pc := 22) 32 dX9_parse_22 (by decide) (by omega) (fun h3 => ?_) (fun h3 => ?_)
    · refine g_iconst (pc := 32) (v := nI 1) dX9_parse_32 (by decide) ?_
      refine g_istore_n (pc := 33) [(3, .int (nI 1)), (2, .int (nI 1)), (0, .ref o), (1, .ref q)] dX9_parse_33 rfl (by decide) rfl ?_
      refine g_iconst (pc := 34) (v := nI 0) dX9_parse_34 (by decide) ?_
      refine g_istore (pc := 35) [(4, .int (nI 0)), (3, .int (nI 1)), (2, .int (nI 1)), (0, .ref o), (1, .ref q)] dX9_parse_35 (by decide) rfl ?_
      refine GP.lsub [(4, .int (nI 0)), (3, .int (nI 1)), (2, .int (nI 1)), (0, .ref o), (1, .ref q)] (by simp) (pa_loop ho hb hq hob hoq hqb hln 401 0 (p0 + 1) 1 (fun _ => 0) _ (by omega) (by omega) (by omega) (by omega) (fun j hj => ?_))
      exact ⟨fill0 hj, by omega, by omega⟩
    · exact absurd h3 (by decide)
  · refine GP.weq _ e9 ?_
    rw [if_neg hx] at hA
    refine g_istore_n (pc := 20) [(2, .int (nI 0)), (0, .ref o), (1, .ref q)] dX9_parse_20 rfl (by decide) rfl ?_
    refine g_iload_n (pc := 21) 0 dX9_parse_21 rfl rfl ?_
    refine n_if_ne (pc := 22) 32 dX9_parse_22 (by decide) (by omega) (fun h3 => ?_) (fun h3 => ?_)
    · exact absurd rfl h3
    · refine g_aload_n (pc := 25) 1 dX9_parse_25 rfl rfl ?_
      refine g_bipush (pc := 26) (v := nI 43) dX9_parse_26 (by decide) ?_
      refine g_callV (pc := 28) [.int (nI 43)] dX9_parse_28 cv_X9_24.1 cv_X9_24.2.1 cv_X9_24.2.2.1 cv_X9_24.2.2.2 (lk_ne (Ne.symm hoq) (lk_eq ho)) rfl rfl (Nat.le_of_ble_eq_true rfl) (by decide) (by decide) (sp_skips _ (lk_ne (Ne.symm hoq) (lk_eq ho)) (lk_ne hqb (lk_ne hob hb)) hob hln (c := 43) (by decide) (by omega)) ?_
      rintro _ w9 (⟨rfl, hy, e9⟩ | ⟨rfl, hy, e9⟩)
      · refine GP.weq _ e9 ?_
        refine GP.weq ((w.set o (.inr (8, [.ref b, .int (nI ln), .int (nI (p0 + 1))]))).set q (aL 25 (fillF g 0 25 0))) (by rw [List.set_comm _ _ (Ne.symm hoq), List.set_set]) ?_
        rw [if_pos hy] at hA
        rw [hA]
        refine g_pop (pc := 31) dX9_parse_31 rfl ?_
        refine g_iconst (pc := 32) (v := nI 1) dX9_parse_32 (by decide) ?_
        refine g_istore_n (pc := 33) [(3, .int (nI 1)), (2, .int (nI 0)), (0, .ref o), (1, .ref q)] dX9_parse_33 rfl (by decide) rfl ?_
        refine g_iconst (pc := 34) (v := nI 0) dX9_parse_34 (by decide) ?_
        refine g_istore (pc := 35) [(4, .int (nI 0)), (3, .int (nI 1)), (2, .int (nI 0)), (0, .ref o), (1, .ref q)] dX9_parse_35 (by decide) rfl ?_
        refine GP.lsub [(4, .int (nI 0)), (3, .int (nI 1)), (2, .int (nI 0)), (0, .ref o), (1, .ref q)] (by simp) (pa_loop ho hb hq hob hoq hqb hln 401 0 (p0 + 1) 0 (fun _ => 0) _ (by omega) (by omega) (by omega) (by omega) (fun j hj => ?_))
        exact ⟨fill0 hj, by omega, by omega⟩
      · refine GP.weq _ e9 ?_
        rw [if_neg hy] at hA
        rw [hA]
        refine g_pop (pc := 31) dX9_parse_31 rfl ?_
        refine g_iconst (pc := 32) (v := nI 1) dX9_parse_32 (by decide) ?_
        refine g_istore_n (pc := 33) [(3, .int (nI 1)), (2, .int (nI 0)), (0, .ref o), (1, .ref q)] dX9_parse_33 rfl (by decide) rfl ?_
        refine g_iconst (pc := 34) (v := nI 0) dX9_parse_34 (by decide) ?_
        refine g_istore (pc := 35) [(4, .int (nI 0)), (3, .int (nI 1)), (2, .int (nI 0)), (0, .ref o), (1, .ref q)] dX9_parse_35 (by decide) rfl ?_
        refine GP.lsub [(4, .int (nI 0)), (3, .int (nI 1)), (2, .int (nI 0)), (0, .ref o), (1, .ref q)] (by simp) (pa_loop ho hb hq hob hoq hqb hln 401 0 (p0) 0 (fun _ => 0) _ (by omega) (by omega) (by omega) (by omega) (fun j hj => ?_))
        exact ⟨fill0 hj, by omega, by omega⟩
