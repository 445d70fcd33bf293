/-! Circle: its cells; begin, beginRow, isDividedBy -/
theorem FR.st {S : Nat → Prop} {w w1 : Wd} {o : Nat} {c c' : Ce} (h : FR S w w1) (hc : w1[o]? = some c) (hs : slE c' = slE c) (ho : S o) : FR S w (w1.set o c') := h.tr (FR.set hc hs ho)
theorem cy_pos : ∀ n : Fin 43, cyL.getD n.1 [] ≠ [] → 0 < hev (cyG n.1) 4 (cyDg n.1) (cyDg n.1 + 1) := by decide +kernel
def cirD (w : Wd) (C : Nat) : Prop := ∃ pf mf, w[C + 1]? = some (aR 4 43 pf) ∧ w[C + 2]? = some (aL 43 mf) ∧ ∀ n, n < 43 → (¬ cyIs n → pf n = none ∧ (mf n).toInt = 0) ∧ (cyIs n → ∃ v b f, pf n = some v ∧ (C + 5 < v ∧ v ≤ C + 59) ∧ (C + 5 < b ∧ b ≤ C + 59) ∧ w[v]? = some (oP (cyDg n) b) ∧ w[b]? = some (aI 0 (cyDg n + 1) f) ∧ (∀ j, j ≤ cyDg n → (f j).toInt = cyG n j) ∧ (mf n).toInt = hev (cyG n) 4 (cyDg n) (cyDg n + 1))
def cirC (w : Wd) (C tp : Nat) (mk : Int64) (lf : Nat → Int64) : Prop := w[C]? = some (oC (C + 1) (C + 2) (C + 3) (C + 4) (C + 5) tp mk) ∧ cirD w C ∧ w[C + 3]? = some (aL 13 lf) ∧ (∃ rs, w[C + 4]? = some (aL 13 rs)) ∧ ∃ qs, w[C + 5]? = some (aL 13 qs)
def cirS (C i : Nat) : Prop := i = C ∨ (C + 3 ≤ i ∧ i ≤ C + 5)
/-- F of degree T is what is left -/
def cirM (w : Wd) (C T : Nat) (F : Nat → Int) : Prop := T ≤ 12 ∧ (∀ j, j ≤ T → -1000000000 ≤ F j ∧ F j ≤ 1000000000) ∧ ∃ mk lf, cirC w C T mk lf ∧ (∀ j, j ≤ T → (lf j).toInt = F j) ∧ mk.toInt = hev F 4 T (T + 1)
def cirA (w : Wd) (C : Nat) : Prop := ∃ tp mk lf, cirC w C tp mk lf
theorem cirM.a {w : Wd} {C T : Nat} {F : Nat → Int} (h : cirM w C T F) : cirA w C := by
  obtain ⟨-, -, mk, lf, h, -⟩ := h
  exact ⟨T, mk, lf, h⟩
theorem cirD.fr {S : Nat → Prop} {w w' : Wd} {C : Nat} (h : cirD w C) (hF : FR S w w') (hS : ∀ i, S i → cirS C i) : cirD w' C := by
  obtain ⟨pf, mf, h1, h2, h3⟩ := h
  have U : ∀ i, ¬ cirS C i → ¬ S i := fun i hi g => hi (hS i g)
  refine ⟨pf, mf, hF.lk (U _ (by unfold cirS; omega)) h1, hF.lk (U _ (by unfold cirS; omega)) h2, fun n hn => ⟨(h3 n hn).1, fun hc => ?_⟩⟩
  obtain ⟨v, b, f, g1, g2, g3, g4, g5, g6⟩ := (h3 n hn).2 hc
  exact ⟨v, b, f, g1, g2, g3, hF.lk (U _ (by unfold cirS; omega)) g4, hF.lk (U _ (by unfold cirS; omega)) g5, g6⟩
/-- the same out of cells that are left alone -/
theorem cirD.fr2 {S : Nat → Prop} {w w' : Wd} {C : Nat} (h : cirD w C) (hF : FR S w w') (hS : ∀ i, C ≤ i → i ≤ C + 59 → ¬ S i) : cirD w' C := by
  obtain ⟨pf, mf, a1, a2, h3⟩ := h
  refine ⟨pf, mf, hF.lk (hS _ (by omega) (by omega)) a1, hF.lk (hS _ (by omega) (by omega)) a2, fun n hn => ⟨(h3 n hn).1, fun hc => ?_⟩⟩
  obtain ⟨v, b, f, g1, g2, g3, g4, g5, g6⟩ := (h3 n hn).2 hc
  exact ⟨v, b, f, g1, g2, g3, hF.lk (hS v (by omega) (by omega)) g4, hF.lk (hS b (by omega) (by omega)) g5, g6⟩
theorem cirA.fr {S : Nat → Prop} {w w' : Wd} {C : Nat} (h : cirA w C) (hF : FR S w w') (hS : ∀ i, C ≤ i → i ≤ C + 59 → ¬ S i) : cirA w' C := by
  obtain ⟨tp, mk, lf, h1, h2, h3, ⟨rs, h4⟩, qs, h5⟩ := h
  exact ⟨tp, mk, lf, hF.lk (hS _ (by omega) (by omega)) h1, h2.fr2 hF hS, hF.lk (hS _ (by omega) (by omega)) h3, ⟨rs, hF.lk (hS _ (by omega) (by omega)) h4⟩, qs, hF.lk (hS _ (by omega) (by omega)) h5⟩
/-- q times divisor n is F -/
def dvB (n : Nat) (F : Nat → Int) (T : Nat) (q : Nat → Int) : Prop := cyIs n ∧ cyDg n ≤ T ∧ divOk q (cyG n) F (cyDg n) (T - cyDg n)
theorem hev_congr {F G : Nat → Int} {x : Int} {n : Nat} (h : ∀ j, j ≤ n → F j = G j) : hev F x n (n + 1) = hev G x n (n + 1) := by
  rw [hev_all, hev_all]
  exact pev_cong _ (fun i hi => h i (by omega))
abbrev BX0_begin (w0 : Wd) (Post : Option Value → Wd → Prop) (w : Wd) (pc : Nat) (ls : List (Nat × Value)) (st : List Value) : Prop := GP "begin" RX0 cX0_begin 2 none 2 78 none w0 Post w pc ls st
abbrev EX0_begin (As : List Value) (w : Wd) (Post : Option Value → Wd → Prop) : Prop := EP yX0_begin cX0_begin 2 none 2 As w Post
theorem sp_begin (w : Wd) {C o b n : Nat} {f : Nat → Int32} (hA : cirA w C) (ho : w[o]? = some (oP n b)) (hb : w[b]? = some (aI 0 (n + 1) f)) (hn : n ≤ 12) (hf : ∀ j, j ≤ n → -9999 ≤ (f j).toInt ∧ (f j).toInt ≤ 9999) : EX0_begin [.ref C, .ref o] w (fun r w' => r = none ∧ cirM w' C n (toJ f) ∧ FR (cirS C) w w') := by
  refine EP.of (plainFor_of_name (by decide)) [(0, .ref C), (1, .ref o)] rfl (Nat.le_of_ble_eq_true rfl) (fun r wf h => by obtain ⟨rfl, -⟩ := h; trivial) ?_
  show BX0_begin w _ w 0 [(0, .ref C), (1, .ref o)] []
  obtain ⟨tp, mk, lf, hc, hD, h3, ⟨rs, h4⟩, ⟨qs, h5⟩⟩ := hA
  have n1 : C + 3 ≠ o := fun e => by rw [e, ho] at h3; cases h3
  have n2 : C + 3 ≠ b := fun e => by rw [e, hb] at h3; cases h3
  have n3 : C ≠ o := fun e => by rw [e, ho] at hc; cases hc
  have n4 : C ≠ b := fun e => by rw [e, hb] at hc; cases hc
  refine g_aload_n (pc := 0) 1 dX0_begin_0 rfl rfl ?_
  refine g_aload_n (pc := 1) 0 dX0_begin_1 rfl rfl ?_
  refine g_get (pc := 2) dX0_begin_2 fk_X0_21 hc rfl ?_
  refine g_callV (pc := 5) [.ref (C + 3)] dX0_begin_5 cv_X0_46.1 cv_X0_46.2.1 cv_X0_46.2.2.1 cv_X0_46.2.2.2 ho rfl rfl (Nat.le_of_ble_eq_true rfl) (by decide) (by decide) (sp_writeTo _ ho hb h3 n1 n2 (by decide) (by omega)) ?_
  rintro _ w9 ⟨rfl, g', hg, e9⟩
  refine GP.weq _ e9 ?_
  have hg2 : ∀ j, j ≤ n → (g' j).toInt = toJ f j := fun j hj => by rw [hg j (by omega), if_pos hj]; rfl
  have hb2 : ∀ j, j ≤ n → -1000000000 ≤ toJ f j ∧ toJ f j ≤ 1000000000 := fun j hj => by have := hf j hj; show -1000000000 ≤ (f j).toInt ∧ (f j).toInt ≤ 1000000000; omega
  refine g_aload_n (pc := 8) 0 dX0_begin_8 rfl rfl ?_
  refine g_aload_n (pc := 9) 1 dX0_begin_9 rfl rfl ?_
  refine g_get (pc := 10) dX0_begin_10 fk_X0_50 (lk_ne n1 ho) rfl ?_
  refine g_put (pc := 13) [.ref (C + 1), .ref (C + 2), .ref (C + 3), .ref (C + 4), .ref (C + 5), .int (nI n), .long mk] dX0_begin_13 fk_X0_30 (lk_ne (by omega) hc) (Nat.le_of_ble_eq_true rfl) rfl rfl ?_
  refine g_aload_n (pc := 16) 0 dX0_begin_16 rfl rfl ?_
  refine g_aload_n (pc := 17) 0 dX0_begin_17 rfl rfl ?_
  refine g_get (pc := 18) dX0_begin_18 fk_X0_21 (lk_eq (lk_ne (by omega) hc)) rfl ?_
  refine g_aload_n (pc := 21) 0 dX0_begin_21 rfl rfl ?_
  refine g_get (pc := 22) dX0_begin_22 fk_X0_30 (lk_eq (lk_ne (by omega) hc)) rfl ?_
  refine g_callS (pc := 25) [.ref (C + 3), .int (nI n)] dX0_begin_25 cs_X0_53.1 cs_X0_53.2 rfl rfl (Nat.le_of_ble_eq_true rfl) (by decide) (by decide) (sp_markOf _ (n := n) (lk_ne (by omega) (lk_eq h3)) (by decide) (by omega) hn (fun t ht => by rw [hg2 t ht]; exact hb2 t ht)) ?_
  rintro _ w9 ⟨v, rfl, e9, hv⟩
  refine GP.weq _ e9 ?_
  refine g_put (pc := 28) [.ref (C + 1), .ref (C + 2), .ref (C + 3), .ref (C + 4), .ref (C + 5), .int (nI n), .long v] dX0_begin_28 fk_X0_34 (lk_eq (lk_ne (by omega) hc)) (Nat.le_of_ble_eq_true rfl) rfl rfl ?_
  refine GP.weq ((w.set (C + 3) (aL 13 g')).set C (.inr (0, [.ref (C + 1), .ref (C + 2), .ref (C + 3), .ref (C + 4), .ref (C + 5), .int (nI n), .long v]))) (by rw [List.set_set]) ?_
  have hFF : FR (cirS C) w ((w.set (C + 3) (aL 13 g')).set C (.inr (0, [.ref (C + 1), .ref (C + 2), .ref (C + 3), .ref (C + 4), .ref (C + 5), .int (nI n), .long v]))) := (FR.st (c' := .inr (0, [.ref (C + 1), .ref (C + 2), .ref (C + 3), .ref (C + 4), .ref (C + 5), .int (nI n), .long v])) (FR.st (c' := aL 13 g') FR.rf h3 rfl (by unfold cirS; omega)) (lk_ne (by omega) hc) rfl (by unfold cirS; omega))
  exact g_vret (pc := 31) dX0_begin_31 ⟨rfl, ⟨hn, hb2, v, g', ⟨(lk_eq (lk_ne (by omega) hc)), hD.fr hFF (fun _ h9 => h9), (lk_ne (by omega) (lk_eq h3)), ⟨rs, (lk_ne (by omega) (lk_ne (by omega) h4))⟩, qs, (lk_ne (by omega) (lk_ne (by omega) h5))⟩, hg2, by rw [hv]; exact hev_congr hg2⟩, hFF⟩
abbrev BX0_beginRow (w0 : Wd) (Post : Option Value → Wd → Prop) (w : Wd) (pc : Nat) (ls : List (Nat × Value)) (st : List Value) : Prop := GP "beginRow" RX0 cX0_beginRow 3 none 1 39 none w0 Post w pc ls st
abbrev EX0_beginRow (As : List Value) (w : Wd) (Post : Option Value → Wd → Prop) : Prop := EP yX0_beginRow cX0_beginRow 3 none 1 As w Post
theorem sp_beginRow (w : Wd) {C q n : Nat} {g : Nat → Int64} (hA : cirA w C) (hq : w[q]? = some (aL 13 g)) (n1 : C + 3 ≠ q) (hn : n ≤ 12) (hb : ∀ j, j ≤ n → -1000000000 ≤ toI g j ∧ toI g j ≤ 1000000000) : EX0_beginRow [.ref C, .ref q, .int (nI n)] w (fun r w' => r = none ∧ cirM w' C n (toI g) ∧ FR (cirS C) w w') := by
  refine EP.of (plainFor_of_name (by decide)) [(0, .ref C), (1, .ref q), (2, .int (nI n))] rfl (Nat.le_of_ble_eq_true rfl) (fun r wf h => by obtain ⟨rfl, -⟩ := h; trivial) ?_
  show BX0_beginRow w _ w 0 [(0, .ref C), (1, .ref q), (2, .int (nI n))] []
  obtain ⟨tp, mk, lf, hc, hD, h3, ⟨rs, h4⟩, ⟨qs, h5⟩⟩ := hA
  have n3 : C ≠ q := fun e => by rw [e, hq] at hc; cases hc
  refine g_aload_n (pc := 0) 0 dX0_beginRow_0 rfl rfl ?_
  refine g_iconst (pc := 1) (v := nI 0) dX0_beginRow_1 (by decide) ?_
  refine g_iload_n (pc := 2) 2 dX0_beginRow_2 rfl rfl ?_
  refine g_aload_n (pc := 3) 1 dX0_beginRow_3 rfl rfl ?_
  refine g_alen (pc := 4) dX0_beginRow_4 hq (by decide) ?_
  refine g_bipush (pc := 5) (v := nI 13) dX0_beginRow_5 (by decide) ?_
  refine g_callS (pc := 7) [.int (nI 13), .int (nI 13)] dX0_beginRow_7 cs_X0_57.1 cs_X0_57.2 rfl rfl (Nat.le_of_ble_eq_true rfl) (by decide) (by decide) (sp_minI _ (nI 13) (nI 13)) ?_
  rintro _ w9 ⟨rfl, e9⟩
  refine GP.weq _ e9 ?_
  refine GP.ti (nI 13) (by decide) ?_
  refine g_iconst (pc := 10) (v := nI 1) dX0_beginRow_10 (by decide) ?_
  refine n_isub (pc := 11) dX0_beginRow_11 (by omega) ?_
  refine g_callS (pc := 12) [.int (nI n), .int (nI (13 - 1))] dX0_beginRow_12 cs_X0_57.1 cs_X0_57.2 rfl rfl (Nat.le_of_ble_eq_true rfl) (by decide) (by decide) (sp_minI _ (nI n) (nI (13 - 1))) ?_
  rintro _ w9 ⟨rfl, e9⟩
  refine GP.weq _ e9 ?_
  refine GP.ti (nI n) (by rw [minN (by omega) (by omega)]; congr 1; omega) ?_
  refine g_callS (pc := 15) [.int (nI 0), .int (nI n)] dX0_beginRow_15 cs_X0_63.1 cs_X0_63.2 rfl rfl (Nat.le_of_ble_eq_true rfl) (by decide) (by decide) (sp_maxI _ (nI 0) (nI n)) ?_
  rintro _ w9 ⟨rfl, e9⟩
  refine GP.weq _ e9 ?_
  refine GP.ti (nI n) (by rw [maxN (by omega) (by omega), Nat.zero_max]) ?_
  refine g_put (pc := 18) [.ref (C + 1), .ref (C + 2), .ref (C + 3), .ref (C + 4), .ref (C + 5), .int (nI n), .long mk] dX0_beginRow_18 fk_X0_30 hc (Nat.le_of_ble_eq_true rfl) rfl rfl ?_
  refine g_aload_n (pc := 21) 1 dX0_beginRow_21 rfl rfl ?_
  refine g_iconst (pc := 22) (v := nI 0) dX0_beginRow_22 (by decide) ?_
  refine g_aload_n (pc := 23) 0 dX0_beginRow_23 rfl rfl ?_
  refine g_get (pc := 24) dX0_beginRow_24 fk_X0_21 (lk_eq hc) rfl ?_
  refine g_iconst (pc := 27) (v := nI 0) dX0_beginRow_27 (by decide) ?_
  refine g_aload_n (pc := 28) 0 dX0_beginRow_28 rfl rfl ?_
  refine g_get (pc := 29) dX0_beginRow_29 fk_X0_30 (lk_eq hc) rfl ?_
  refine g_iconst (pc := 32) (v := nI 1) dX0_beginRow_32 (by decide) ?_
  refine n_iadd (pc := 33) dX0_beginRow_33 ?_
  refine g_copyL (pc := 34) (sp := 0) (dp := 0) (n := n + 1) dX0_beginRow_34 nl_X0_66 tw_652 tw_651 tw_85 (lk_ne n3 hq) (lk_ne (by omega) h3) (by omega) (by omega) (by decide) (by decide) (Nat.le_of_ble_eq_true rfl) (by decide) (by decide) ?_
  obtain ⟨g', hg'⟩ : ∃ g', va_cpy g lf 0 0 (n + 1) = g' := ⟨_, rfl⟩
  have hg2 : ∀ j, j ≤ n → (g' j).toInt = toI g j := fun j hj => by
    rw [← hg']
    simp only [va_cpy]
    rw [if_pos (by omega)]
    simp [toI]
  rw [hg']
  refine g_aload_n (pc := 37) 0 dX0_beginRow_37 rfl rfl ?_
  refine g_aload_n (pc := 38) 0 dX0_beginRow_38 rfl rfl ?_
  refine g_get (pc := 39) dX0_beginRow_39 fk_X0_21 (lk_ne (by omega) (lk_eq hc)) rfl ?_
  refine g_aload_n (pc := 42) 0 dX0_beginRow_42 rfl rfl ?_
  refine g_get (pc := 43) dX0_beginRow_43 fk_X0_30 (lk_ne (by omega) (lk_eq hc)) rfl ?_
  refine g_callS (pc := 46) [.ref (C + 3), .int (nI n)] dX0_beginRow_46 cs_X0_53.1 cs_X0_53.2 rfl rfl (Nat.le_of_ble_eq_true rfl) (by decide) (by decide) (sp_markOf _ (n := n) (lk_eq (lk_ne (by omega) h3)) (by decide) (by omega) hn (fun t ht => by rw [hg2 t ht]; exact hb t ht)) ?_
  rintro _ w9 ⟨v, rfl, e9, hv⟩
  refine GP.weq _ e9 ?_
  refine g_put (pc := 49) [.ref (C + 1), .ref (C + 2), .ref (C + 3), .ref (C + 4), .ref (C + 5), .int (nI n), .long v] dX0_beginRow_49 fk_X0_34 (lk_ne (by omega) (lk_eq hc)) (Nat.le_of_ble_eq_true rfl) rfl rfl ?_
  refine GP.weq ((w.set C (.inr (0, [.ref (C + 1), .ref (C + 2), .ref (C + 3), .ref (C + 4), .ref (C + 5), .int (nI n), .long v]))).set (C + 3) (aL 13 g')) (by rw [List.set_comm _ _ (by omega), List.set_set]) ?_
  have hFF : FR (cirS C) w ((w.set C (.inr (0, [.ref (C + 1), .ref (C + 2), .ref (C + 3), .ref (C + 4), .ref (C + 5), .int (nI n), .long v]))).set (C + 3) (aL 13 g')) := (FR.st (c' := aL 13 g') (FR.st (c' := .inr (0, [.ref (C + 1), .ref (C + 2), .ref (C + 3), .ref (C + 4), .ref (C + 5), .int (nI n), .long v])) FR.rf hc rfl (by unfold cirS; omega)) (lk_ne (by omega) h3) rfl (by unfold cirS; omega))
  exact g_vret (pc := 52) dX0_beginRow_52 ⟨rfl, ⟨hn, hb, v, g', ⟨(lk_ne (by omega) (lk_eq hc)), hD.fr hFF (fun _ h9 => h9), (lk_eq (lk_ne (by omega) h3)), ⟨rs, (lk_ne (by omega) (lk_ne (by omega) h4))⟩, qs, (lk_ne (by omega) (lk_ne (by omega) h5))⟩, hg2, by rw [hv]; exact hev_congr hg2⟩, hFF⟩
abbrev BX0_isDividedBy (w0 : Wd) (Post : Option Value → Wd → Prop) (w : Wd) (pc : Nat) (ls : List (Nat × Value)) (st : List Value) : Prop := GP "isDividedBy" RX0 cX0_isDividedBy 3 (some .boolean) 2 78 none w0 Post w pc ls st
abbrev EX0_isDividedBy (As : List Value) (w : Wd) (Post : Option Value → Wd → Prop) : Prop := EP yX0_isDividedBy cX0_isDividedBy 3 (some .boolean) 2 As w Post
theorem sp_isDividedBy (w : Wd) {C T n : Nat} {F : Nat → Int} (hM : cirM w C T F) (hn : n ≤ 42) : EX0_isDividedBy [.ref C, .int (nI n)] w (fun r w' => (r = some (.int (nI 1)) ∧ ∃ q, dvB n F T q ∧ cirM w' C (T - cyDg n) q ∧ FR (cirS C) w w') ∨ (r = some (.int (nI 0)) ∧ (∀ q, ¬ dvB n F T q) ∧ cirM w' C T F ∧ FR (cirS C) w w')) := by
  refine EP.of (plainFor_of_name (by decide)) [(0, .ref C), (1, .int (nI n))] rfl (Nat.le_of_ble_eq_true rfl) (fun r wf h => by rcases h with ⟨rfl, -⟩ | ⟨rfl, -⟩; exact Or.inr rfl; exact Or.inl rfl) ?_
  show BX0_isDividedBy w _ w 0 [(0, .ref C), (1, .int (nI n))] []
  have hM0 := id hM
  obtain ⟨hT, hbd, mk, lf, ⟨hc, hD, h3, ⟨rs, h4⟩, ⟨qs, h5⟩⟩, hlf, hmk⟩ := hM
  have hD0 := id hD
  obtain ⟨pf, mf, hp, hm, hall⟩ := hD
  by_cases hcy : cyIs n
  · obtain ⟨v, b, f, hv, hv1, hv2, hvo, hvb, hvf, hmf⟩ := (hall n (by omega)).2 hcy
    have hdg := cy_dg ⟨n, by omega⟩ hcy
    have hps := cy_pos ⟨n, by omega⟩ hcy
    simp only at hdg hps
    refine g_aload_n (pc := 0) 0 dX0_isDividedBy_0 rfl rfl ?_
    refine g_iload_n (pc := 1) 1 dX0_isDividedBy_1 rfl rfl ?_
    refine g_callV (pc := 2) [.int (nI n)] dX0_isDividedBy_2 cv_X0_89.1 cv_X0_89.2.1 cv_X0_89.2.2.1 cv_X0_89.2.2.2 hc rfl rfl (Nat.le_of_ble_eq_true rfl) (by decide) (by decide) (sp_divisor _ hc hp (by omega) hv) ?_
    rintro _ w9 ⟨rfl, e9⟩
    refine GP.weq _ e9 ?_
    refine g_astore_n (pc := 5) [(2, .ref v), (0, .ref C), (1, .int (nI n))] dX0_isDividedBy_5 rfl (by decide) rfl ?_
    refine g_aload_n (pc := 6) 0 dX0_isDividedBy_6 rfl rfl ?_
    refine g_ifnull (pc := 7) dX0_isDividedBy_7 ?_
    refine g_aload_n (pc := 10) 0 dX0_isDividedBy_10 rfl rfl ?_
    refine g_get (pc := 11) dX0_isDividedBy_11 fk_X0_50 hvo rfl ?_
    refine g_aload_n (pc := 14) 1 dX0_isDividedBy_14 rfl rfl ?_
    refine g_get (pc := 15) dX0_isDividedBy_15 fk_X0_30 hc rfl ?_
    refine n_icmp_gt (pc := 18) 32 dX0_isDividedBy_18 (by decide) (by omega) (by omega) (fun h1 => ?_) (fun h1 => ?_)
    · refine g_iconst (pc := 32) (v := nI 0) dX0_isDividedBy_32 (by decide) ?_
      exact g_iret (pc := 33) dX0_isDividedBy_33 (Or.inr ⟨rfl, fun q h9 => absurd h9.2.1 (by omega), hM0, FR.rf⟩)
    · refine g_aload_n (pc := 21) 1 dX0_isDividedBy_21 rfl rfl ?_
      refine g_get (pc := 22) dX0_isDividedBy_22 fk_X0_17 hc rfl ?_
      refine g_iload_n (pc := 25) 2 dX0_isDividedBy_25 rfl rfl ?_
      refine g_lald (pc := 26) n dX0_isDividedBy_26 hm (IXn (by omega) (by omega)) ?_
      refine g_lconst (pc := 27) (v := 0) dX0_isDividedBy_27 (by decide) ?_
      refine g_lcmp_ne (pc := 28) 34 dX0_isDividedBy_28 dX0_isDividedBy_29 (by decide) (fun h2 => ?_) (fun h2 => ?_)
      · refine g_aload_n (pc := 34) 1 dX0_isDividedBy_34 rfl rfl ?_
        refine g_get (pc := 35) dX0_isDividedBy_35 fk_X0_21 hc rfl ?_
        refine g_iconst (pc := 38) (v := nI 0) dX0_isDividedBy_38 (by decide) ?_
        refine g_aload_n (pc := 39) 1 dX0_isDividedBy_39 rfl rfl ?_
        refine g_get (pc := 40) dX0_isDividedBy_40 fk_X0_24 hc rfl ?_
        refine g_iconst (pc := 43) (v := nI 0) dX0_isDividedBy_43 (by decide) ?_
        refine g_bipush (pc := 44) (v := nI 13) dX0_isDividedBy_44 (by decide) ?_
        refine g_copyL (pc := 46) (sp := 0) (dp := 0) (n := 13) dX0_isDividedBy_46 nl_X0_66 tw_652 tw_651 tw_85 h3 h4 (by omega) (by omega) (by decide) (by decide) (Nat.le_of_ble_eq_true rfl) (by decide) (by decide) ?_
        obtain ⟨g', hg'⟩ : ∃ g', va_cpy lf rs 0 0 13 = g' := ⟨_, rfl⟩
        have hg2 : ∀ j, j ≤ T → toI g' j = F j := fun j hj => by
          rw [← hlf j hj, ← hg']
          simp only [va_cpy, toI]
          rw [if_pos (by omega)]
          simp
        rw [hg']
        have hTd : T - cyDg n + cyDg n = T := by omega
        have hfl : f (cyDg n) ≠ 0 := fun e => by
          have := hvf (cyDg n) (Nat.le_refl _)
          rw [e, hdg.2.2.1] at this
          exact absurd this (by decide)
        have hff : ∀ t, t ≤ cyDg n → -9999 ≤ (f t).toInt ∧ (f t).toInt ≤ 9999 := fun t ht => by
          rw [hvf t ht]
          exact cy_sm ⟨n, by omega⟩ ⟨t, by omega⟩
        refine g_aload_n (pc := 49) 0 dX0_isDividedBy_49 rfl rfl ?_
        refine g_aload_n (pc := 50) 1 dX0_isDividedBy_50 rfl rfl ?_
        refine g_get (pc := 51) dX0_isDividedBy_51 fk_X0_24 (lk_ne (by omega) hc) rfl ?_
        refine g_aload_n (pc := 54) 1 dX0_isDividedBy_54 rfl rfl ?_
        refine g_get (pc := 55) dX0_isDividedBy_55 fk_X0_30 (lk_ne (by omega) hc) rfl ?_
        refine GP.ti (nI (T - cyDg n + cyDg n)) (by rw [hTd]) ?_
        refine g_aload_n (pc := 58) 1 dX0_isDividedBy_58 rfl rfl ?_
        refine g_get (pc := 59) dX0_isDividedBy_59 fk_X0_27 (lk_ne (by omega) hc) rfl ?_
        refine g_callV (pc := 62) [.ref (C + 4), .int (nI (T - cyDg n + cyDg n)), .ref (C + 5)] dX0_isDividedBy_62 cv_X0_93.1 cv_X0_93.2.1 cv_X0_93.2.2.1 cv_X0_93.2.2.2 (lk_ne (by omega) hvo) rfl rfl (Nat.le_of_ble_eq_true rfl) (by decide) (by decide) (sp_divides _ (lk_ne (by omega) hvo) (lk_ne (by omega) hvb) (lk_eq h4) (lk_ne (by omega) h5) (by omega) (by omega) (by omega) (by omega) (by omega) (by decide) (by decide) (by omega) (by omega) (by omega) (by omega) hff hfl (fun i hi => by have h9 := hbd i (by omega); have h8 : (g' i).toInt = F i := hg2 i (by omega); rw [h8]; exact h9)) ?_
        rintro _ w9 (⟨rfl, cur, qc, hok, hq0, e9⟩ | ⟨rfl, hno, cur, qc, e9⟩)
        · refine GP.weq _ e9 ?_
          refine GP.weq ((w.set (C + 4) (aL 13 cur)).set (C + 5) (aL 13 qc)) (by rw [List.set_comm _ _ (by omega), List.set_set]) ?_
          refine n_if_ne (pc := 65) 70 dX0_isDividedBy_65 (by decide) (by omega) (fun hz5 => ?_) (fun hz5 => ?_)
          · have hok2 : divOk (toI qc) (cyG n) F (cyDg n) (T - cyDg n) := divOk_cong (fun j hj => hvf j hj) (fun i hi => hg2 i (by omega)) hok
            have hhv := hev_mul (x := 4) hok2.2
            rw [hTd] at hhv
            refine g_aload_n (pc := 70) 1 dX0_isDividedBy_70 rfl rfl ?_
            refine g_get (pc := 71) dX0_isDividedBy_71 fk_X0_27 (lk_ne (by omega) (lk_ne (by omega) hc)) rfl ?_
            refine g_iconst (pc := 74) (v := nI 0) dX0_isDividedBy_74 (by decide) ?_
            refine g_aload_n (pc := 75) 1 dX0_isDividedBy_75 rfl rfl ?_
            refine g_get (pc := 76) dX0_isDividedBy_76 fk_X0_21 (lk_ne (by omega) (lk_ne (by omega) hc)) rfl ?_
            refine g_iconst (pc := 79) (v := nI 0) dX0_isDividedBy_79 (by decide) ?_
            refine g_bipush (pc := 80) (v := nI 13) dX0_isDividedBy_80 (by decide) ?_
            refine g_copyL (pc := 82) (sp := 0) (dp := 0) (n := 13) dX0_isDividedBy_82 nl_X0_66 tw_652 tw_651 tw_85 (lk_eq (lk_ne (by omega) h5)) (lk_ne (by omega) (lk_ne (by omega) h3)) (by omega) (by omega) (by decide) (by decide) (Nat.le_of_ble_eq_true rfl) (by decide) (by decide) ?_
            obtain ⟨l', hl'⟩ : ∃ l', va_cpy qc lf 0 0 13 = l' := ⟨_, rfl⟩
            have hl2 : ∀ j, j ≤ T - cyDg n → (l' j).toInt = toI qc j := fun j hj => by
              rw [← hl']
              simp only [va_cpy, toI]
              rw [if_pos (by omega)]
              simp
            rw [hl']
            have hmne : ¬ mf n = 0 := fun e => by
              rw [e, show (0 : Int64).toInt = 0 by decide] at hmf
              omega
            obtain ⟨mk', hmk'⟩ : ∃ z : Int64, mk / mf n = z := ⟨_, rfl⟩
            have hmk2 : mk'.toInt = hev (toI qc) 4 (T - cyDg n) (T - cyDg n + 1) := by
              rw [← hmk', L_div (by rw [hmf]; omega), hmk, hmf, hhv, Int.mul_tdiv_cancel _ (by omega)]
            refine g_aload_n (pc := 85) 1 dX0_isDividedBy_85 rfl rfl ?_
            refine g_dup (pc := 86) dX0_isDividedBy_86 rfl ?_
            refine g_get (pc := 87) dX0_isDividedBy_87 fk_X0_30 (lk_ne (by omega) (lk_ne (by omega) (lk_ne (by omega) hc))) rfl ?_
            refine g_aload_n (pc := 90) 0 dX0_isDividedBy_90 rfl rfl ?_
            refine g_get (pc := 91) dX0_isDividedBy_91 fk_X0_50 (lk_ne (by omega) (lk_ne (by omega) (lk_ne (by omega) hvo))) rfl ?_
            refine n_isub (pc := 94) dX0_isDividedBy_94 (by omega) ?_
            refine g_put (pc := 95) [.ref (C + 1), .ref (C + 2), .ref (C + 3), .ref (C + 4), .ref (C + 5), .int (nI (T - (cyDg n))), .long mk] dX0_isDividedBy_95 fk_X0_30 (lk_ne (by omega) (lk_ne (by omega) (lk_ne (by omega) hc))) (Nat.le_of_ble_eq_true rfl) rfl rfl ?_
            refine g_aload_n (pc := 98) 1 dX0_isDividedBy_98 rfl rfl ?_
            refine g_dup (pc := 99) dX0_isDividedBy_99 rfl ?_
            refine g_get (pc := 100) dX0_isDividedBy_100 fk_X0_34 (lk_eq (lk_ne (by omega) (lk_ne (by omega) (lk_ne (by omega) hc)))) rfl ?_
            refine g_aload_n (pc := 103) 1 dX0_isDividedBy_103 rfl rfl ?_
            refine g_get (pc := 104) dX0_isDividedBy_104 fk_X0_17 (lk_eq (lk_ne (by omega) (lk_ne (by omega) (lk_ne (by omega) hc)))) rfl ?_
            refine g_iload_n (pc := 107) 2 dX0_isDividedBy_107 rfl rfl ?_
            refine g_lald (pc := 108) n dX0_isDividedBy_108 (lk_ne (by omega) (lk_ne (by omega) (lk_ne (by omega) (lk_ne (by omega) hm)))) (IXn (by omega) (by omega)) ?_
            refine g_ldiv (pc := 109) dX0_isDividedBy_109 hmne ?_
            refine GP.tl mk' hmk' ?_
            refine g_put (pc := 110) [.ref (C + 1), .ref (C + 2), .ref (C + 3), .ref (C + 4), .ref (C + 5), .int (nI (T - (cyDg n))), .long mk'] dX0_isDividedBy_110 fk_X0_34 (lk_eq (lk_ne (by omega) (lk_ne (by omega) (lk_ne (by omega) hc)))) (Nat.le_of_ble_eq_true rfl) rfl rfl ?_
            refine GP.weq ((((w.set (C + 4) (aL 13 cur)).set (C + 5) (aL 13 qc)).set (C + 3) (aL 13 l')).set C (.inr (0, [.ref (C + 1), .ref (C + 2), .ref (C + 3), .ref (C + 4), .ref (C + 5), .int (nI (T - (cyDg n))), .long mk']))) (by rw [List.set_set]) ?_
            refine g_iconst (pc := 113) (v := nI 1) dX0_isDividedBy_113 (by decide) ?_
            have hFF : FR (cirS C) w ((((w.set (C + 4) (aL 13 cur)).set (C + 5) (aL 13 qc)).set (C + 3) (aL 13 l')).set C (.inr (0, [.ref (C + 1), .ref (C + 2), .ref (C + 3), .ref (C + 4), .ref (C + 5), .int (nI (T - (cyDg n))), .long mk']))) := (FR.st (c' := .inr (0, [.ref (C + 1), .ref (C + 2), .ref (C + 3), .ref (C + 4), .ref (C + 5), .int (nI (T - (cyDg n))), .long mk'])) (FR.st (c' := aL 13 l') (FR.st (c' := aL 13 qc) (FR.st (c' := aL 13 cur) FR.rf h4 rfl (by unfold cirS; omega)) (lk_ne (by omega) h5) rfl (by unfold cirS; omega)) (lk_ne (by omega) (lk_ne (by omega) h3)) rfl (by unfold cirS; omega)) (lk_ne (by omega) (lk_ne (by omega) (lk_ne (by omega) hc))) rfl (by unfold cirS; omega))
            exact g_iret (pc := 114) dX0_isDividedBy_114 (Or.inl ⟨rfl, toI qc, ⟨hcy, by omega, hok2⟩, ⟨by omega, hok2.1, mk', l', ⟨(lk_eq (lk_ne (by omega) (lk_ne (by omega) (lk_ne (by omega) hc)))), hD0.fr hFF (fun _ h9 => h9), (lk_ne (by omega) (lk_eq (lk_ne (by omega) (lk_ne (by omega) h3)))), ⟨cur, (lk_ne (by omega) (lk_ne (by omega) (lk_ne (by omega) (lk_eq h4))))⟩, qc, (lk_ne (by omega) (lk_ne (by omega) (lk_eq (lk_ne (by omega) h5))))⟩, hl2, hmk2⟩, hFF⟩)
          · exact absurd hz5 (by decide)
        · refine GP.weq _ e9 ?_
          refine GP.weq ((w.set (C + 4) (aL 13 cur)).set (C + 5) (aL 13 qc)) (by rw [List.set_comm _ _ (by omega), List.set_set]) ?_
          refine n_if_ne (pc := 65) 70 dX0_isDividedBy_65 (by decide) (by omega) (fun hz5 => ?_) (fun hz5 => ?_)
          · exact absurd rfl hz5
          · refine g_iconst (pc := 68) (v := nI 0) dX0_isDividedBy_68 (by decide) ?_
            have hFF : FR (cirS C) w ((w.set (C + 4) (aL 13 cur)).set (C + 5) (aL 13 qc)) := (FR.st (c' := aL 13 qc) (FR.st (c' := aL 13 cur) FR.rf h4 rfl (by unfold cirS; omega)) (lk_ne (by omega) h5) rfl (by unfold cirS; omega))
            exact g_iret (pc := 69) dX0_isDividedBy_69 (Or.inr ⟨rfl, fun q h9 => hno q (divOk_cong (fun j hj => (hvf j hj).symm) (fun i hi => (hg2 i (by omega)).symm) h9.2.2), ⟨hT, hbd, mk, lf, ⟨(lk_ne (by omega) (lk_ne (by omega) hc)), hD0.fr hFF (fun _ h9 => h9), (lk_ne (by omega) (lk_ne (by omega) h3)), ⟨cur, (lk_ne (by omega) (lk_eq h4))⟩, qc, (lk_eq (lk_ne (by omega) h5))⟩, hlf, hmk⟩, hFF⟩)
      · exfalso
        have h9 : (mf n).toInt = 0 := by rw [Decidable.not_not.mp h2]; decide
        omega
  · obtain ⟨hv, hmz⟩ := (hall n (by omega)).1 hcy
    refine g_aload_n (pc := 0) 0 dX0_isDividedBy_0 rfl rfl ?_
    refine g_iload_n (pc := 1) 1 dX0_isDividedBy_1 rfl rfl ?_
    refine g_callV (pc := 2) [.int (nI n)] dX0_isDividedBy_2 cv_X0_89.1 cv_X0_89.2.1 cv_X0_89.2.2.1 cv_X0_89.2.2.2 hc rfl rfl (Nat.le_of_ble_eq_true rfl) (by decide) (by decide) (sp_divisorN _ hc hp (by omega) hv) ?_
    rintro _ w9 ⟨rfl, e9⟩
    refine GP.weq _ e9 ?_
    refine g_nstore_n (pc := 5) [(2, .null), (0, .ref C), (1, .int (nI n))] dX0_isDividedBy_5 rfl (by decide) rfl ?_
    refine g_nload_n (pc := 6) 0 dX0_isDividedBy_6 rfl rfl ?_
    refine g_ifnullN (pc := 7) 32 dX0_isDividedBy_7 (by decide) ?_
    refine g_iconst (pc := 32) (v := nI 0) dX0_isDividedBy_32 (by decide) ?_
    exact g_iret (pc := 33) dX0_isDividedBy_33 (Or.inr ⟨rfl, fun q h9 => absurd h9.1 hcy, hM0, FR.rf⟩)
