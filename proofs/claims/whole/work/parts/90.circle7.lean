/-! Circle: put -/
abbrev BX0_put (w0 : Wd) (Post : Option Value → Wd → Prop) (w : Wd) (pc : Nat) (ls : List (Nat × Value)) (st : List Value) : Prop := GP "put" RX0 cX0_put 3 none 2 78 none w0 Post w pc ls st
abbrev EX0_put (As : List Value) (w : Wd) (Post : Option Value → Wd → Prop) : Prop := EP yX0_put cX0_put 3 none 2 As w Post
theorem sp_cput (w : Wd) {C n dg tp : Nat} {mk : Int64} {pf : Nat → Option Nat} {mf lf : Nat → Int64} (hC : w[C]? = some (oC (C + 1) (C + 2) (C + 3) (C + 4) (C + 5) tp mk)) (h1 : w[C + 1]? = some (aR 4 43 pf)) (h2 : w[C + 2]? = some (aL 43 mf)) (h3 : w[C + 3]? = some (aL 13 lf)) (hn : n ≤ 42) (hdg : dg ≤ 12) (hb : ∀ j, j ≤ dg → -1000000000 ≤ (lf j).toInt ∧ (lf j).toInt ≤ 1000000000) : EX0_put [.ref C, .int (nI n), .int (nI dg)] w (fun r w' => r = none ∧ ∃ f v, (∀ j, j ≤ dg → (f j).toInt = (lf j).toInt) ∧ v.toInt = hev (toI lf) 4 dg (dg + 1) ∧ w'.length = w.length + 2 ∧ w'[w.length]? = some (oP dg (w.length + 1)) ∧ w'[w.length + 1]? = some (aI 0 (dg + 1) f) ∧ w'[C + 1]? = some (aR 4 43 (va_up pf n (some w.length))) ∧ w'[C + 2]? = some (aL 43 (vp_updL mf n v)) ∧ EX (fun i => i = C + 1 ∨ i = C + 2) 2 15 w w') := by
  refine EP.of (plainFor_of_name (by decide)) [(0, .ref C), (1, .int (nI n)), (2, .int (nI dg))] rfl (Nat.le_of_ble_eq_true rfl) (fun r wf h => by obtain ⟨rfl, -⟩ := h; trivial) ?_
  show BX0_put w _ w 0 [(0, .ref C), (1, .int (nI n)), (2, .int (nI dg))] []
  refine g_aload_n (pc := 0) 0 dX0_put_0 rfl rfl ?_
  refine g_get (pc := 1) dX0_put_1 fk_X0_11 hC rfl ?_
  refine g_iload_n (pc := 4) 1 dX0_put_4 rfl rfl ?_
  refine g_new (pc := 5) dX0_put_5 nk_X0_9 ?_
  refine g_dup (pc := 8) dX0_put_8 rfl ?_
  refine g_aload_n (pc := 9) 0 dX0_put_9 rfl rfl ?_
  refine g_get (pc := 10) dX0_put_10 fk_X0_21 (lk_app hC) rfl ?_
  refine g_iload_n (pc := 13) 2 dX0_put_13 rfl rfl ?_
  refine g_callI (pc := 14) [.ref (C + 3), .int (nI dg)] dX0_put_14 ci_X0_97.1 ci_X0_97.2.1 ci_X0_97.2.2 rfl rfl (Nat.le_of_ble_eq_true rfl) (by decide) (by decide) (sp_newPoly _ (n := dg) lk_new (lk_app h3) (new_ne h3) (by decide) (by omega) hdg (fun j hj => by have := hb j hj; omega)) ?_
  rintro _ w9 ⟨rfl, f, hf, e9⟩
  rw [List.length_append, show ([.inr (6, [.int 0, .null])] : Wd).length = 1 from rfl] at e9
  obtain ⟨w2, hw2⟩ : ∃ w2 : Wd, w2 = w ++ [oP dg (w.length + 1), aI 0 (dg + 1) f] := ⟨_, rfl⟩
  refine GP.weq w2 ((e9.trans two_new).trans hw2.symm) ?_
  have hl2 : w2.length = w.length + 2 := by rw [hw2, List.length_append]; rfl
  have hE2 : EX (fun i => i = C + 1 ∨ i = C + 2) 2 15 w w2 := by rw [hw2]; exact EX.app.le (by simp) (by simp [slW, slE]; omega)
  have hn1 : w2[w.length]? = some (oP dg (w.length + 1)) := by rw [hw2]; exact lk_1
  have hn2 : w2[w.length + 1]? = some (aI 0 (dg + 1) f) := by rw [hw2]; exact lk_2
  have L2 : ∀ i c, w[i]? = some c → w2[i]? = some c := fun i c h => by rw [hw2]; exact lk_app h
  have hlt : C + 3 < w.length := (List.getElem?_eq_some_iff.mp h3).1
  refine g_aast (pc := 17) n dX0_put_17 (L2 _ _ h1) (by decide) (IXn (by omega) (by omega)) hn1 rfl ?_
  obtain ⟨w3, hw3⟩ : ∃ w3 : Wd, w3 = (w2.set (C + 1) (aR 4 43 (va_up pf n (some w.length)))) := ⟨_, rfl⟩
  refine GP.weq w3 hw3.symm ?_
  have L3 : ∀ i c, i ≠ C + 1 → w2[i]? = some c → w3[i]? = some c := fun i c h h9 => by rw [hw3]; exact lk_ne (Ne.symm h) h9
  have hp3 : w3[C + 1]? = some (aR 4 43 (va_up pf n (some w.length))) := by rw [hw3]; exact lk_eq (L2 _ _ h1)
  have hE3 : EX (fun i => i = C + 1 ∨ i = C + 2) 2 15 w w3 := by rw [hw3]; exact hE2.stp (L2 _ _ h1) rfl (Or.inl (Or.inl rfl))
  have hm3 := L3 _ _ (by omega) (L2 _ _ h2)
  have hl3 := L3 _ _ (by omega) (L2 _ _ h3)
  refine g_aload_n (pc := 18) 0 dX0_put_18 rfl rfl ?_
  refine g_get (pc := 19) dX0_put_19 fk_X0_17 (L3 _ _ (by omega) (L2 _ _ hC)) rfl ?_
  refine g_iload_n (pc := 22) 1 dX0_put_22 rfl rfl ?_
  refine g_aload_n (pc := 23) 0 dX0_put_23 rfl rfl ?_
  refine g_get (pc := 24) dX0_put_24 fk_X0_21 (L3 _ _ (by omega) (L2 _ _ hC)) rfl ?_
  refine g_iload_n (pc := 27) 2 dX0_put_27 rfl rfl ?_
  refine g_callS (pc := 28) [.ref (C + 3), .int (nI dg)] dX0_put_28 cs_X0_53.1 cs_X0_53.2 rfl rfl (Nat.le_of_ble_eq_true rfl) (by decide) (by decide) (sp_markOf _ (n := dg) hl3 (by decide) (by omega) hdg hb) ?_
  rintro _ w9 ⟨v, rfl, e9, hv⟩
  refine GP.weq _ e9 ?_
  refine g_last (pc := 31) n dX0_put_31 hm3 (IXn (by omega) (by omega)) ?_
  obtain ⟨w4, hw4⟩ : ∃ w4 : Wd, w4 = (w3.set (C + 2) (aL 43 (vp_updL mf n v))) := ⟨_, rfl⟩
  refine GP.weq w4 hw4.symm ?_
  have L4 : ∀ i c, i ≠ C + 2 → w3[i]? = some c → w4[i]? = some c := fun i c h h9 => by rw [hw4]; exact lk_ne (Ne.symm h) h9
  exact g_vret (pc := 32) dX0_put_32 ⟨rfl, f, v, hf, hv, by rw [hw4, List.length_set, hw3, List.length_set]; exact hl2, L4 _ _ (by omega) (L3 _ _ (by omega) hn1), L4 _ _ (by omega) (L3 _ _ (by omega) hn2), L4 _ _ (by omega) hp3, by rw [hw4]; exact lk_eq hm3, by rw [hw4]; exact hE3.stp hm3 rfl (Or.inl (Or.inr rfl))⟩
