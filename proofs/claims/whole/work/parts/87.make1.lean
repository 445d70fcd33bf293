/-! constructors: Ladder, Shelf -/
theorem mnaT_get {k l N i : Nat} {c : Ce} {w : Wd} (h : i < N) : (w ++ mnaT k l N c)[w.length + 1 + i]? = some c := by
  rw [List.getElem?_append_right (by omega), show w.length + 1 + i - w.length = i + 1 by omega]
  show (List.replicate N c)[i]? = some c
  rw [List.getElem?_replicate, if_pos h]
theorem mnaT_get0 {k l N : Nat} {c : Ce} {w : Wd} : (w ++ mnaT k l N c)[w.length]? = some (aR k N (fun i => if i < N then some (l + 1 + i) else none)) := by
  rw [List.getElem?_append_right (Nat.le_refl _), Nat.sub_self]
  rfl
abbrev BX4_init (w0 : Wd) (Post : Option Value → Wd → Prop) (w : Wd) (pc : Nat) (ls : List (Nat × Value)) (st : List Value) : Prop := GP "<init>" RX4 cX4_init 1 none 1 39 none w0 Post w pc ls st
abbrev EX4_init (As : List Value) (w : Wd) (Post : Option Value → Wd → Prop) : Prop := EP yX4_init cX4_init 1 none 1 As w Post
theorem sp_newLadder (w : Wd) {o : Nat} (ho : w[o]? = some (.inr (4, [.null, .int 0, .int 0]))) : EX4_init [.ref o] w (fun r w' => r = none ∧ w' = w.set o (.inr (4, [.ref w.length, .int (nI 0), .int (nI 0)])) ++ mnaT 7 w.length 7 (aL 13 (fun _ => 0))) := by
  refine EP.of (plainFor_of_name (by decide)) [(0, .ref o)] rfl (Nat.le_of_ble_eq_true rfl) (fun r wf h => by obtain ⟨rfl, -⟩ := h; trivial) ?_
  show BX4_init w _ w 0 [(0, .ref o)] []
  refine g_aload_n (pc := 0) 0 dX4_init_0 rfl rfl ?_
  refine g_oinit (pc := 1) dX4_init_1 ol_X4_3 oi_in oi_co (by decide) (Nat.le_of_ble_eq_true rfl) (by decide) ?_
  refine g_aload_n (pc := 4) 0 dX4_init_4 rfl rfl ?_
  refine g_bipush (pc := 5) (v := nI 7) dX4_init_5 (by decide) ?_
  refine g_bipush (pc := 7) (v := nI 13) dX4_init_7 (by decide) ?_
  refine g_mnaL (pc := 9) 7 13 dX4_init_9 cl_X4_9 (by decide) (by decide) (by decide) (by decide) ?_
  refine g_putF (pc := 13) [.ref w.length, .int 0, .int 0] dX4_init_13 fk_X4_11 (fun _ _ _ h => by cases h; rfl) rfl (lk_app ho) (Nat.le_of_ble_eq_true rfl) rfl rfl ?_
  refine g_aload_n (pc := 16) 0 dX4_init_16 rfl rfl ?_
  refine g_iconst (pc := 17) (v := nI 0) dX4_init_17 (by decide) ?_
  refine g_put (pc := 18) [.ref w.length, .int (nI 0), .int 0] dX4_init_18 fk_X4_16 (lk_eq (lk_app ho)) (Nat.le_of_ble_eq_true rfl) rfl rfl ?_
  refine GP.weq ((w ++ mnaT 7 w.length 7 (aL 13 (fun _ => 0))).set o (.inr (4, [.ref w.length, .int (nI 0), .int 0]))) (by rw [List.set_set]) ?_
  refine g_aload_n (pc := 21) 0 dX4_init_21 rfl rfl ?_
  refine g_iconst (pc := 22) (v := nI 0) dX4_init_22 (by decide) ?_
  refine g_put (pc := 23) [.ref w.length, .int (nI 0), .int (nI 0)] dX4_init_23 fk_X4_20 (lk_eq (lk_app ho)) (Nat.le_of_ble_eq_true rfl) rfl rfl ?_
  refine GP.weq ((w ++ mnaT 7 w.length 7 (aL 13 (fun _ => 0))).set o (.inr (4, [.ref w.length, .int (nI 0), .int (nI 0)]))) (by rw [List.set_set]) ?_
  exact g_vret (pc := 26) dX4_init_26 ⟨rfl, set_app ho⟩
theorem ladC_new {w : Wd} {lo : Nat} (hlo : lo < w.length) {c : Ce} (h : w[lo]? = some c) : ladC (w.set lo (.inr (4, [.ref w.length, .int (nI 0), .int (nI 0)])) ++ mnaT 7 w.length 7 (aL 13 (fun _ => 0))) lo w.length 0 0 (fun _ _ => 0) := by
  have hl : (w.set lo (.inr (4, [.ref w.length, .int (nI 0), .int (nI 0)]))).length = w.length := List.length_set
  refine ⟨lk_app (lk_eq h), ⟨(fun i => if i < 7 then some (w.length + 1 + i) else none), ?_, fun t ht => if_pos ht⟩, fun t ht => ?_⟩
  · have h9 := mnaT_get0 (k := 7) (l := w.length) (N := 7) (c := aL 13 (fun _ => 0)) (w := w.set lo (.inr (4, [.ref w.length, .int (nI 0), .int (nI 0)])))
    rw [hl] at h9
    exact h9
  · have h9 := mnaT_get (k := 7) (l := w.length) (N := 7) (c := aL 13 (fun _ => 0)) (w := w.set lo (.inr (4, [.ref w.length, .int (nI 0), .int (nI 0)]))) ht
    rw [hl] at h9
    exact h9
theorem EX.stp {S : Nat → Prop} {w w1 : Wd} {k s o : Nat} {c c' : Ce} (h : EX S k s w w1) (hc : w1[o]? = some c) (hs : slE c' = slE c) (ho : S o ∨ w.length ≤ o) : EX S k s w (w1.set o c') := by
  obtain ⟨a1, a2, a3, a4, a5⟩ := h
  refine ⟨by rw [List.length_set]; exact a1, by rw [List.length_set]; exact a2, by rw [slW_set hc hs]; exact a3, by rw [slW_set hc hs]; exact a4, fun i hi hS => ?_⟩
  rw [List.getElem?_set_ne (fun (e : o = i) => by
    rcases ho with g | g
    · exact hS (e ▸ g)
    · omega)]
  exact a5 i hi hS
theorem EX.apd {S : Nat → Prop} {w w1 : Wd} {k s : Nat} (t : Wd) (h : EX S k s w w1) : EX S (k + t.length) (s + slW t) w (w1 ++ t) := h.tr EX.app
abbrev BX3_init (w0 : Wd) (Post : Option Value → Wd → Prop) (w : Wd) (pc : Nat) (ls : List (Nat × Value)) (st : List Value) : Prop := GP "<init>" RX3 cX3_init 2 none 2 78 none w0 Post w pc ls st
abbrev EX3_init (As : List Value) (w : Wd) (Post : Option Value → Wd → Prop) : Prop := EP yX3_init cX3_init 2 none 2 As w Post
theorem hn_loop {w0 w : Wd} {o : Nat} (ho : o + 1 = w.length) : ∀ (z k : Nat) (w1 : Wd) (f : Nat → Option Nat), 7 = k + z → w1.length = o + 6 + 2 * k → EX (fun i => i = o) (5 + 2 * k) (510 + 26 * k) w w1 → w1[o]? = some (oH o 0 0 0 0 0 0) → w1[o + 1]? = some (aR 6 7 f) → (∀ j, j < k → f j = some (o + 6 + 2 * j) ∧ whC w1 (o + 6 + 2 * j) 24) → whC w1 (o + 2) 8 → w1[o + 4]? = some (aL 13 (fun _ => 0)) → w1[o + 5]? = some (aI 0 480 (fun _ => 0)) → BX3_init w0 (fun r w' => r = none ∧ w'.length = o + 20 ∧ EX (fun i => i = o) 19 692 w w' ∧ w'[o]? = some (oH o 0 0 0 0 0 0) ∧ hunT w' o ∧ whC w' (o + 2) 8 ∧ w'[o + 4]? = some (aL 13 (fun _ => 0)) ∧ w'[o + 5]? = some (aI 0 480 (fun _ => 0))) w1 75 [(1, .int (nI k)), (0, .ref o)] [] := by
  intro z
  induction z with
  | zero =>
    intro k w1 f hz hl hE hH hf hj hQ hr hen
    refine g_iload_n (pc := 75) 0 dX3_init_75 rfl rfl ?_
    refine g_bipush (pc := 76) (v := nI 6) dX3_init_76 (by decide) ?_
    refine n_icmp_gt (pc := 78) 102 dX3_init_78 (by decide) (by omega) (by omega) (fun hb9 => ?_) (fun hb9 => ?_)
    · exact g_vret (pc := 102) dX3_init_102 ⟨rfl, by omega, hE.le (by omega) (by omega), hH, ⟨⟨f, hf, fun k hk => (hj k (by omega)).1⟩, fun k hk => (hj k (by omega)).2⟩, hQ, hr, hen⟩
    · exact absurd hb9 (by omega)
  | succ z ih =>
    intro k w1 f hz hl hE hH hf hj hQ hr hen
    refine g_iload_n (pc := 75) 0 dX3_init_75 rfl rfl ?_
    refine g_bipush (pc := 76) (v := nI 6) dX3_init_76 (by decide) ?_
    refine n_icmp_gt (pc := 78) 102 dX3_init_78 (by decide) (by omega) (by omega) (fun hb9 => ?_) (fun hb9 => ?_)
    · exact absurd hb9 (by omega)
    · refine g_aload_n (pc := 81) 1 dX3_init_81 rfl rfl ?_
      refine g_get (pc := 82) dX3_init_82 fk_X3_11 hH rfl ?_
      refine g_iload_n (pc := 85) 0 dX3_init_85 rfl rfl ?_
      refine g_new (pc := 86) dX3_init_86 nk_X3_9 ?_
      refine g_dup (pc := 89) dX3_init_89 rfl ?_
      refine g_bipush (pc := 90) (v := nI 24) dX3_init_90 (by decide) ?_
      refine g_callI (pc := 92) [.int (nI 24)] dX3_init_92 ci_X3_17.1 ci_X3_17.2.1 ci_X3_17.2.2 rfl rfl (Nat.le_of_ble_eq_true rfl) (by decide) (by decide) (sp_newWhole _ w1.length 24 lk_new (by decide)) ?_
      rintro _ w9 ⟨rfl, e9⟩
      rw [List.length_append, show ([.inr (9, [.null, .int 0])] : Wd).length = 1 from rfl] at e9
      obtain ⟨w2, hw2⟩ : ∃ w2 : Wd, w2 = w1 ++ [oW (w1.length + 1) 0, aL (max 1 24) (fun _ => 0)] := ⟨_, rfl⟩
      refine GP.weq w2 ((e9.trans two_new).trans hw2.symm) ?_
      have hE2 : EX (fun i => i = o) (5 + 2 * k + 2) (510 + 26 * k + 26) w w2 := by rw [hw2]; exact (hE.apd _).le (by simp) (by simp [slW, slE])
      have hE12 : EX (fun i => i = o) 2 26 w1 w2 := by rw [hw2]; exact EX.app.le (by simp) (by simp [slW, slE])
      have hn1 : w2[w1.length]? = some (oW (w1.length + 1) 0) := by rw [hw2]; exact lk_1
      have hn2 : w2[w1.length + 1]? = some (aL 24 (fun _ => 0)) := by rw [hw2]; exact lk_2
      have hH2 : w2[o]? = some (oH o 0 0 0 0 0 0) := by rw [hw2]; exact lk_app hH
      have hf2 : w2[o + 1]? = some (aR 6 7 f) := by rw [hw2]; exact lk_app hf
      refine g_aast (pc := 95) k dX3_init_95 hf2 (by decide) (IXn (by omega) (by omega)) hn1 rfl ?_
      refine n_iinc (pc := 96) (c := 1) [(1, .int (nI (k + 1))), (0, .ref o)] 0 dX3_init_96 rfl (by decide) (by decide) rfl ?_
      refine g_goto (pc := 99) 75 dX3_init_99 (by decide) ?_
      obtain ⟨w3, hw3⟩ : ∃ w3 : Wd, w3 = w2.set (o + 1) (aR 6 7 (va_up f k (some w1.length))) := ⟨_, rfl⟩
      refine GP.weq w3 hw3.symm ?_
      have hE3 : EX (fun i => i = o) (5 + 2 * (k + 1)) (510 + 26 * (k + 1)) w w3 := by rw [hw3]; exact (hE2.stp (c' := aR 6 7 (va_up f k (some w1.length))) hf2 rfl (Or.inr (by omega))).le (by omega) (by omega)
      have L3 : ∀ i c, i ≠ o + 1 → w2[i]? = some c → w3[i]? = some c := fun i c h1 h2 => by rw [hw3]; exact lk_ne (Ne.symm h1) h2
      have L2 : ∀ i c, w1[i]? = some c → w2[i]? = some c := fun i c h2 => by rw [hw2]; exact lk_app h2
      have W3 : ∀ q M, q ≠ o + 1 → q + 1 ≠ o + 1 → whC w1 q M → whC w3 q M := fun q M h1 h2 h3 => by
        obtain ⟨n9, d9, g1, g2⟩ := h3
        exact ⟨n9, d9, L3 _ _ h1 (L2 _ _ g1), L3 _ _ h2 (L2 _ _ g2)⟩
      refine GP.lsub _ (by simp) (ih (k + 1) w3 _ (by omega) (by rw [hw3, List.length_set, hw2]; simp; omega) hE3 (L3 _ _ (by omega) hH2) (by rw [hw3]; exact lk_eq hf2) (fun j hj2 => ?_) (W3 _ _ (by omega) (by omega) hQ) (L3 _ _ (by omega) (L2 _ _ hr)) (L3 _ _ (by omega) (L2 _ _ hen)))
      by_cases e : j = k
      · subst e
        rw [vaup_s]
        exact ⟨by rw [hl], ⟨0, fun _ => 0, by rw [← hl]; exact L3 _ _ (by omega) hn1, by rw [← hl]; exact L3 _ _ (by omega) hn2⟩⟩
      · rw [vaup_n e]
        exact ⟨(hj j (by omega)).1, W3 _ _ (by omega) (by omega) (hj j (by omega)).2⟩
theorem sp_newHunt (w : Wd) {o : Nat} (ho : o + 1 = w.length) (hH : w[o]? = some (.inr (3, [.null, .null, .null, .null, .int 0, .int 0, .int 0, .int 0, .int 0, .int 0]))) : EX3_init [.ref o] w (fun r w' => r = none ∧ w'.length = o + 20 ∧ EX (fun i => i = o) 19 692 w w' ∧ w'[o]? = some (oH o 0 0 0 0 0 0) ∧ hunT w' o ∧ whC w' (o + 2) 8 ∧ w'[o + 4]? = some (aL 13 (fun _ => 0)) ∧ w'[o + 5]? = some (aI 0 480 (fun _ => 0))) := by
  refine EP.of (plainFor_of_name (by decide)) [(0, .ref o)] rfl (Nat.le_of_ble_eq_true rfl) (fun r wf h => by obtain ⟨rfl, -⟩ := h; trivial) ?_
  show BX3_init w _ w 0 [(0, .ref o)] []
  refine g_aload_n (pc := 0) 0 dX3_init_0 rfl rfl ?_
  refine g_oinit (pc := 1) dX3_init_1 ol_X3_3 oi_in oi_co (by decide) (Nat.le_of_ble_eq_true rfl) (by decide) ?_
  refine g_aload_n (pc := 4) 0 dX3_init_4 rfl rfl ?_
  refine g_bipush (pc := 5) (v := nI 7) dX3_init_5 (by decide) ?_
  refine g_newq (pc := 7) (k := 6) 7 dX3_init_7 cl_X3_9 (Or.inr (Or.inr ⟨rfl, rfl⟩)) (by decide) (by decide) ?_
  refine GP.tr (o + 1) ho.symm ?_
  refine g_putF (pc := 10) [.ref (o + 1), .null, .null, .null, .int 0, .int 0, .int 0, .int 0, .int 0, .int 0] dX3_init_10 fk_X3_11 (fun _ _ _ h => by cases h; rfl) rfl (lk_app hH) (Nat.le_of_ble_eq_true rfl) rfl rfl ?_
  refine g_aload_n (pc := 13) 0 dX3_init_13 rfl rfl ?_
  obtain ⟨w1, hw1⟩ : ∃ w1 : Wd, w1 = ((w ++ [aR 6 7 (fun _ => none)]).set o (.inr (3, [.ref (o + 1), .null, .null, .null, .int 0, .int 0, .int 0, .int 0, .int 0, .int 0]))) := ⟨_, rfl⟩
  refine GP.weq w1 hw1.symm ?_
  have hl1 : w1.length = o + 2 := by rw [hw1, List.length_set, List.length_append]; show w.length + 1 = _; omega
  have hE1 : EX (fun i => i = o) 1 7 w w1 := by rw [hw1]; exact EX.stp (EX.app.le (by simp) (by simp [slW, slE])) (lk_app hH) rfl (Or.inl rfl)
  have hH1 : w1[o]? = some (.inr (3, [.ref (o + 1), .null, .null, .null, .int 0, .int 0, .int 0, .int 0, .int 0, .int 0])) := by rw [hw1]; exact lk_eq (lk_app hH)
  have hf1 : w1[o + 1]? = some (aR 6 7 (fun _ => none)) := by rw [hw1, ho]; exact lk_ne (by omega) lk_new
  refine g_new (pc := 14) dX3_init_14 nk_X3_9 ?_
  refine GP.tr (o + 2) hl1 ?_
  refine g_dup (pc := 17) dX3_init_17 rfl ?_
  refine g_bipush (pc := 18) (v := nI 8) dX3_init_18 (by decide) ?_
  refine g_callI (pc := 20) [.int (nI 8)] dX3_init_20 ci_X3_17.1 ci_X3_17.2.1 ci_X3_17.2.2 rfl rfl (Nat.le_of_ble_eq_true rfl) (by decide) (by decide) (sp_newWhole _ (o + 2) 8 (by rw [← hl1]; exact lk_new) (by decide)) ?_
  rintro _ w9 ⟨rfl, e9⟩
  rw [List.length_append, show ([.inr (9, [.null, .int 0])] : Wd).length = 1 from rfl, ← hl1] at e9
  obtain ⟨w2, hw2⟩ : ∃ w2 : Wd, w2 = w1 ++ [oW (w1.length + 1) 0, aL (max 1 8) (fun _ => 0)] := ⟨_, rfl⟩
  refine GP.weq w2 ((e9.trans two_new).trans hw2.symm) ?_
  have hl2 : w2.length = o + 4 := by rw [hw2, List.length_append]; show w1.length + 2 = _; omega
  have hE2 : EX (fun i => i = o) 3 17 w w2 := by rw [hw2]; exact (hE1.apd _).le (by simp) (by simp [slW, slE])
  have hn1 : w2[o + 2]? = some (oW (o + 2 + 1) 0) := by rw [hw2, ← hl1]; exact lk_1
  have hn2 : w2[o + 2 + 1]? = some (aL 8 (fun _ => 0)) := by rw [hw2, ← hl1]; exact lk_2
  have hH2 : w2[o]? = some (.inr (3, [.ref (o + 1), .null, .null, .null, .int 0, .int 0, .int 0, .int 0, .int 0, .int 0])) := by rw [hw2]; exact lk_app hH1
  have hf2 : w2[o + 1]? = some (aR 6 7 (fun _ => none)) := by rw [hw2]; exact lk_app hf1
  refine g_putF (pc := 23) [.ref (o + 1), .ref (o + 2), .null, .null, .int 0, .int 0, .int 0, .int 0, .int 0, .int 0] dX3_init_23 fk_X3_20 (fun _ _ _ h => by cases h; rfl) rfl hH2 (Nat.le_of_ble_eq_true rfl) rfl rfl ?_
  refine g_aload_n (pc := 26) 0 dX3_init_26 rfl rfl ?_
  refine g_bipush (pc := 27) (v := nI 13) dX3_init_27 (by decide) ?_
  refine g_newaL (pc := 29) 13 dX3_init_29 acL (by decide) (by decide) ?_
  refine GP.tr (o + 4) (by rw [List.length_set]; exact hl2) ?_
  refine g_putF (pc := 31) [.ref (o + 1), .ref (o + 2), .ref (o + 4), .null, .int 0, .int 0, .int 0, .int 0, .int 0, .int 0] dX3_init_31 fk_X3_24 (fun _ _ _ h => by cases h; rfl) rfl (lk_app (lk_eq hH2)) (Nat.le_of_ble_eq_true rfl) rfl rfl ?_
  refine g_aload_n (pc := 34) 0 dX3_init_34 rfl rfl ?_
  refine g_sipush (pc := 35) (v := nI 480) dX3_init_35 (by decide) ?_
  obtain ⟨w4, hw4⟩ : ∃ w4 : Wd, w4 = (((w2.set o (.inr (3, [.ref (o + 1), .ref (o + 2), .null, .null, .int 0, .int 0, .int 0, .int 0, .int 0, .int 0]))) ++ [aL 13 (fun _ => 0)]).set o (.inr (3, [.ref (o + 1), .ref (o + 2), .ref (o + 4), .null, .int 0, .int 0, .int 0, .int 0, .int 0, .int 0]))) := ⟨_, rfl⟩
  refine GP.weq w4 hw4.symm ?_
  have hl4 : w4.length = o + 5 := by rw [hw4, List.length_set, List.length_append, List.length_set]; show w2.length + 1 = _; omega
  have hE4 : EX (fun i => i = o) 4 30 w w4 := by rw [hw4]; exact EX.stp (EX.le (k' := 4) (s' := 30) (EX.apd [aL 13 (fun _ => 0)] (EX.stp (c' := .inr (3, [.ref (o + 1), .ref (o + 2), .null, .null, .int 0, .int 0, .int 0, .int 0, .int 0, .int 0])) hE2 hH2 rfl (Or.inl rfl))) (by simp) (by simp [slW, slE])) (lk_app (lk_eq hH2)) rfl (Or.inl rfl)
  have hH4 : w4[o]? = some (.inr (3, [.ref (o + 1), .ref (o + 2), .ref (o + 4), .null, .int 0, .int 0, .int 0, .int 0, .int 0, .int 0])) := by rw [hw4]; exact lk_eq (lk_app (lk_eq hH2))
  have L4 : ∀ i c, i ≠ o → w2[i]? = some c → w4[i]? = some c := fun i c h1 h2 => by rw [hw4]; exact lk_ne (Ne.symm h1) (lk_app (lk_ne (Ne.symm h1) h2))
  have hr4 : w4[o + 4]? = some (aL 13 (fun _ => 0)) := by
    have h9 : (w2.set o (.inr (3, [.ref (o + 1), .ref (o + 2), .null, .null, .int 0, .int 0, .int 0, .int 0, .int 0, .int 0])) ++ [aL 13 (fun _ => 0)])[(w2.set o (.inr (3, [.ref (o + 1), .ref (o + 2), .null, .null, .int 0, .int 0, .int 0, .int 0, .int 0, .int 0]))).length]? = some (aL 13 (fun _ => 0)) := lk_new
    rw [List.length_set, hl2] at h9
    rw [hw4]
    exact lk_ne (by omega) h9
  refine g_newaI (pc := 38) 480 dX3_init_38 acI (by decide) (by decide) ?_
  refine GP.tr (o + 5) hl4 ?_
  refine g_putF (pc := 40) [.ref (o + 1), .ref (o + 2), .ref (o + 4), .ref (o + 5), .int 0, .int 0, .int 0, .int 0, .int 0, .int 0] dX3_init_40 fk_X3_30 (fun _ _ _ h => by cases h; rfl) rfl (lk_app hH4) (Nat.le_of_ble_eq_true rfl) rfl rfl ?_
  refine g_aload_n (pc := 43) 0 dX3_init_43 rfl rfl ?_
  refine g_iconst (pc := 44) (v := nI 0) dX3_init_44 (by decide) ?_
  refine g_put (pc := 45) [.ref (o + 1), .ref (o + 2), .ref (o + 4), .ref (o + 5), .int (nI 0), .int 0, .int 0, .int 0, .int 0, .int 0] dX3_init_45 fk_X3_34 (lk_eq (lk_app hH4)) (Nat.le_of_ble_eq_true rfl) rfl rfl ?_
  refine GP.weq ((w4 ++ [aI 0 480 (fun _ => 0)]).set o (.inr (3, [.ref (o + 1), .ref (o + 2), .ref (o + 4), .ref (o + 5), .int (nI 0), .int 0, .int 0, .int 0, .int 0, .int 0]))) (by rw [List.set_set]) ?_
  refine g_aload_n (pc := 48) 0 dX3_init_48 rfl rfl ?_
  refine g_iconst (pc := 49) (v := nI 0) dX3_init_49 (by decide) ?_
  refine g_put (pc := 50) [.ref (o + 1), .ref (o + 2), .ref (o + 4), .ref (o + 5), .int (nI 0), .int (nI 0), .int 0, .int 0, .int 0, .int 0] dX3_init_50 fk_X3_38 (lk_eq (lk_app hH4)) (Nat.le_of_ble_eq_true rfl) rfl rfl ?_
  refine GP.weq ((w4 ++ [aI 0 480 (fun _ => 0)]).set o (.inr (3, [.ref (o + 1), .ref (o + 2), .ref (o + 4), .ref (o + 5), .int (nI 0), .int (nI 0), .int 0, .int 0, .int 0, .int 0]))) (by rw [List.set_set]) ?_
  refine g_aload_n (pc := 53) 0 dX3_init_53 rfl rfl ?_
  refine g_iconst (pc := 54) (v := nI 0) dX3_init_54 (by decide) ?_
  refine g_put (pc := 55) [.ref (o + 1), .ref (o + 2), .ref (o + 4), .ref (o + 5), .int (nI 0), .int (nI 0), .int (nI 0), .int 0, .int 0, .int 0] dX3_init_55 fk_X3_41 (lk_eq (lk_app hH4)) (Nat.le_of_ble_eq_true rfl) rfl rfl ?_
  refine GP.weq ((w4 ++ [aI 0 480 (fun _ => 0)]).set o (.inr (3, [.ref (o + 1), .ref (o + 2), .ref (o + 4), .ref (o + 5), .int (nI 0), .int (nI 0), .int (nI 0), .int 0, .int 0, .int 0]))) (by rw [List.set_set]) ?_
  refine g_aload_n (pc := 58) 0 dX3_init_58 rfl rfl ?_
  refine g_iconst (pc := 59) (v := nI 0) dX3_init_59 (by decide) ?_
  refine g_put (pc := 60) [.ref (o + 1), .ref (o + 2), .ref (o + 4), .ref (o + 5), .int (nI 0), .int (nI 0), .int (nI 0), .int (nI 0), .int 0, .int 0] dX3_init_60 fk_X3_44 (lk_eq (lk_app hH4)) (Nat.le_of_ble_eq_true rfl) rfl rfl ?_
  refine GP.weq ((w4 ++ [aI 0 480 (fun _ => 0)]).set o (.inr (3, [.ref (o + 1), .ref (o + 2), .ref (o + 4), .ref (o + 5), .int (nI 0), .int (nI 0), .int (nI 0), .int (nI 0), .int 0, .int 0]))) (by rw [List.set_set]) ?_
  refine g_aload_n (pc := 63) 0 dX3_init_63 rfl rfl ?_
  refine g_iconst (pc := 64) (v := nI 0) dX3_init_64 (by decide) ?_
  refine g_put (pc := 65) [.ref (o + 1), .ref (o + 2), .ref (o + 4), .ref (o + 5), .int (nI 0), .int (nI 0), .int (nI 0), .int (nI 0), .int (nI 0), .int 0] dX3_init_65 fk_X3_47 (lk_eq (lk_app hH4)) (Nat.le_of_ble_eq_true rfl) rfl rfl ?_
  refine GP.weq ((w4 ++ [aI 0 480 (fun _ => 0)]).set o (.inr (3, [.ref (o + 1), .ref (o + 2), .ref (o + 4), .ref (o + 5), .int (nI 0), .int (nI 0), .int (nI 0), .int (nI 0), .int (nI 0), .int 0]))) (by rw [List.set_set]) ?_
  refine g_aload_n (pc := 68) 0 dX3_init_68 rfl rfl ?_
  refine g_iconst (pc := 69) (v := nI 0) dX3_init_69 (by decide) ?_
  refine g_put (pc := 70) [.ref (o + 1), .ref (o + 2), .ref (o + 4), .ref (o + 5), .int (nI 0), .int (nI 0), .int (nI 0), .int (nI 0), .int (nI 0), .int (nI 0)] dX3_init_70 fk_X3_50 (lk_eq (lk_app hH4)) (Nat.le_of_ble_eq_true rfl) rfl rfl ?_
  refine GP.weq ((w4 ++ [aI 0 480 (fun _ => 0)]).set o (.inr (3, [.ref (o + 1), .ref (o + 2), .ref (o + 4), .ref (o + 5), .int (nI 0), .int (nI 0), .int (nI 0), .int (nI 0), .int (nI 0), .int (nI 0)]))) (by rw [List.set_set]) ?_
  refine g_iconst (pc := 73) (v := nI 0) dX3_init_73 (by decide) ?_
  refine g_istore_n (pc := 74) [(1, .int (nI 0)), (0, .ref o)] dX3_init_74 rfl (by decide) rfl ?_
  obtain ⟨w5, hw5⟩ : ∃ w5 : Wd, w5 = ((w4 ++ [aI 0 480 (fun _ => 0)]).set o (.inr (3, [.ref (o + 1), .ref (o + 2), .ref (o + 4), .ref (o + 5), .int (nI 0), .int (nI 0), .int (nI 0), .int (nI 0), .int (nI 0), .int (nI 0)]))) := ⟨_, rfl⟩
  refine GP.weq w5 hw5.symm ?_
  have hl5 : w5.length = o + 6 := by rw [hw5, List.length_set, List.length_append]; show w4.length + 1 = _; omega
  have hE5 : EX (fun i => i = o) 5 510 w w5 := by rw [hw5]; exact EX.stp ((EX.apd _ hE4).le (by simp) (by simp [slW, slE])) (lk_app hH4) rfl (Or.inl rfl)
  have L5 : ∀ i c, i ≠ o → w4[i]? = some c → w5[i]? = some c := fun i c h1 h2 => by rw [hw5]; exact lk_ne (Ne.symm h1) (lk_app h2)
  have hen5 : w5[o + 5]? = some (aI 0 480 (fun _ => 0)) := by rw [hw5, ← hl4]; exact lk_ne (by omega) lk_new
  exact GP.lsub _ (by simp) (hn_loop ho 7 0 w5 (fun _ => none) (by omega) (by omega) hE5 (by rw [hw5]; exact lk_eq (lk_app hH4)) (L5 _ _ (by omega) (L4 _ _ (by omega) hf2)) (fun j hj => absurd hj (by omega)) ⟨0, fun _ => 0, L5 _ _ (by omega) (L4 _ _ (by omega) hn1), L5 _ _ (by omega) (L4 _ _ (by omega) hn2)⟩ (L5 _ _ (by omega) hr4) hen5)
