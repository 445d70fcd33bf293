/-! Shelf: the next one -/
theorem two_new {w : Wd} {c d e : Ce} : (w ++ [c]).set w.length d ++ [e] = w ++ [d, e] := by
  rw [set_new, List.append_assoc]
  rfl
theorem lk_1 {w : Wd} {d e : Ce} : (w ++ [d, e])[w.length]? = some d := by
  rw [List.getElem?_append_right (Nat.le_refl _), Nat.sub_self]
  rfl
theorem lk_2 {w : Wd} {d e : Ce} : (w ++ [d, e])[w.length + 1]? = some e := by
  rw [List.getElem?_append_right (Nat.le_add_right _ 1), Nat.add_sub_cancel_left]
  rfl
theorem set_2 {w : Wd} {d e e' : Ce} : (w ++ [d, e]).set (w.length + 1) e' = w ++ [d, e'] := by
  rw [List.set_append_right _ _ (Nat.le_add_right _ 1), Nat.add_sub_cancel_left]
  rfl
abbrev BX7_withFound (w0 : Wd) (Post : Option Value → Wd → Prop) (w : Wd) (pc : Nat) (ls : List (Nat × Value)) (st : List Value) : Prop := GP "withFound" RX7 cX7_withFound 2 (some (.object "MahlerBox$Shelf")) 2 78 none w0 Post w pc ls st
abbrev EX7_withFound (As : List Value) (w : Wd) (Post : Option Value → Wd → Prop) : Prop := EP yX7_withFound cX7_withFound 2 (some (.object "MahlerBox$Shelf")) 2 As w Post
theorem sp_withFound (w : Wd) {o p f y : Nat} {h : Nat → Option Nat} (ho : w[o]? = some (oS p f)) (hp : w[p]? = some (aR 4 8 h)) (hall : ∀ i, i < 8 → ∃ v, h i = some v ∧ isPo w v) : EX7_withFound [.ref o, .ref y] w (fun r w' => r = some (.ref w.length) ∧ ∃ h' : Nat → Option Nat, (∀ j, j < 8 → h' j = h j) ∧ w' = w ++ [oS (w.length + 1) y, aR 4 8 h']) := by
  refine EP.of (plainFor_of_name (by decide)) [(0, .ref o), (1, .ref y)] rfl (Nat.le_of_ble_eq_true rfl) (fun r wf h => by obtain ⟨rfl, -⟩ := h; trivial) ?_
  show BX7_withFound w _ w 0 [(0, .ref o), (1, .ref y)] []
  refine g_new (pc := 0) dX7_withFound_0 nk_X7_12 ?_
  have ho1 : (w ++ [.inr (7, [.null, .null])])[o]? = some (oS p f) := lk_app ho
  have hp1 : (w ++ [.inr (7, [.null, .null])])[p]? = some (aR 4 8 h) := lk_app hp
  have hn1 : (w ++ [.inr (7, [.null, .null])])[w.length]? = some (.inr (7, [.null, .null])) := lk_new
  have ha1 : ∀ i, i < 8 → ∃ v, h i = some v ∧ isPo (w ++ [.inr (7, [.null, .null])]) v := fun i hi => by
    obtain ⟨v, hv, fv, hw⟩ := hall i hi
    exact ⟨v, hv, fv, lk_app hw⟩
  refine g_dup (pc := 3) dX7_withFound_3 rfl ?_
  refine g_aload_n (pc := 4) 0 dX7_withFound_4 rfl rfl ?_
  refine g_aload_n (pc := 5) 1 dX7_withFound_5 rfl rfl ?_
  refine g_callI (pc := 6) [.ref o, .ref y] dX7_withFound_6 ci_X7_29.1 ci_X7_29.2.1 ci_X7_29.2.2 rfl rfl (Nat.le_of_ble_eq_true rfl) (by decide) (by decide) (sp_shelfCopy _ hn1 ho1 hp1 ha1) ?_
  rintro _ w9 ⟨rfl, h', hh, e9⟩
  rw [List.length_append, show ([.inr (7, [.null, .null])] : Wd).length = 1 from rfl] at e9
  refine GP.weq (w ++ [oS (w.length + 1) y, aR 4 8 h']) (e9.trans two_new) ?_
  exact g_aret (pc := 9) dX7_withFound_9 ⟨rfl, h', hh, rfl⟩
abbrev BX7_withPoly (w0 : Wd) (Post : Option Value → Wd → Prop) (w : Wd) (pc : Nat) (ls : List (Nat × Value)) (st : List Value) : Prop := GP "withPoly" RX7 cX7_withPoly 4 (some (.object "MahlerBox$Shelf")) 2 78 none w0 Post w pc ls st
abbrev EX7_withPoly (As : List Value) (w : Wd) (Post : Option Value → Wd → Prop) : Prop := EP yX7_withPoly cX7_withPoly 4 (some (.object "MahlerBox$Shelf")) 2 As w Post
theorem sp_withPoly (w : Wd) {o p f y : Nat} {h : Nat → Option Nat} (ho : w[o]? = some (oS p f)) (hp : w[p]? = some (aR 4 8 h)) (hall : ∀ i, i < 8 → ∃ v, h i = some v ∧ isPo w v) {i : Nat} {fy : List Value} (hi : i < 8) (hy : w[y]? = some (.inr (6, fy))) : EX7_withPoly [.ref o, .int (nI i), .ref y] w (fun r w' => r = some (.ref w.length) ∧ ∃ h' : Nat → Option Nat, (∀ j, j < 8 → h' j = if j = i then some y else h j) ∧ w' = w ++ [oS (w.length + 1) f, aR 4 8 h']) := by
  refine EP.of (plainFor_of_name (by decide)) [(0, .ref o), (1, .int (nI i)), (2, .ref y)] rfl (Nat.le_of_ble_eq_true rfl) (fun r wf h => by obtain ⟨rfl, -⟩ := h; trivial) ?_
  show BX7_withPoly w _ w 0 [(0, .ref o), (1, .int (nI i)), (2, .ref y)] []
  refine g_new (pc := 0) dX7_withPoly_0 nk_X7_12 ?_
  have ho1 : (w ++ [.inr (7, [.null, .null])])[o]? = some (oS p f) := lk_app ho
  have hp1 : (w ++ [.inr (7, [.null, .null])])[p]? = some (aR 4 8 h) := lk_app hp
  have hn1 : (w ++ [.inr (7, [.null, .null])])[w.length]? = some (.inr (7, [.null, .null])) := lk_new
  have ha1 : ∀ i, i < 8 → ∃ v, h i = some v ∧ isPo (w ++ [.inr (7, [.null, .null])]) v := fun i hi => by
    obtain ⟨v, hv, fv, hw⟩ := hall i hi
    exact ⟨v, hv, fv, lk_app hw⟩
  refine g_dup (pc := 3) dX7_withPoly_3 rfl ?_
  refine g_aload_n (pc := 4) 0 dX7_withPoly_4 rfl rfl ?_
  refine g_aload_n (pc := 5) 0 dX7_withPoly_5 rfl rfl ?_
  refine g_get (pc := 6) dX7_withPoly_6 fk_X7_25 ho1 rfl ?_
  refine g_callI (pc := 9) [.ref o, .ref f] dX7_withPoly_9 ci_X7_29.1 ci_X7_29.2.1 ci_X7_29.2.2 rfl rfl (Nat.le_of_ble_eq_true rfl) (by decide) (by decide) (sp_shelfCopy _ hn1 ho1 hp1 ha1) ?_
  rintro _ w9 ⟨rfl, h', hh, e9⟩
  rw [List.length_append, show ([.inr (7, [.null, .null])] : Wd).length = 1 from rfl] at e9
  refine GP.weq (w ++ [oS (w.length + 1) f, aR 4 8 h']) (e9.trans two_new) ?_
  refine g_astore_n (pc := 12) [(3, .ref w.length), (0, .ref o), (1, .int (nI i)), (2, .ref y)] dX7_withPoly_12 rfl (by decide) rfl ?_
  refine g_aload_n (pc := 13) 0 dX7_withPoly_13 rfl rfl ?_
  refine g_get (pc := 14) dX7_withPoly_14 fk_X7_11 lk_1 rfl ?_
  refine g_iload_n (pc := 17) 2 dX7_withPoly_17 rfl rfl ?_
  refine g_bipush (pc := 18) (v := nI 7) dX7_withPoly_18 (by decide) ?_
  refine g_iand (pc := 20) dX7_withPoly_20 ?_
  refine GP.ti (nI i) (and7 hi) ?_
  refine g_aload_n (pc := 21) 3 dX7_withPoly_21 rfl rfl ?_
  refine g_aast (pc := 22) i dX7_withPoly_22 lk_2 (by decide) (IXn (by omega) (by omega)) (lk_app hy) rfl ?_
  refine g_aload_n (pc := 23) 0 dX7_withPoly_23 rfl rfl ?_
  exact g_aret (pc := 24) dX7_withPoly_24 ⟨rfl, va_up h' i (some y), fun j hj => by by_cases hji : j = i; · { subst hji; rw [vaup_s, if_pos rfl] }; · { rw [vaup_n hji, if_neg hji]; exact hh j hj }, set_2⟩
