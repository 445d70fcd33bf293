/-! Shelf again: what its last cell is -/
theorem sn_loop2 {w0 w : Wd} {o : Nat} {g : Nat → Int32} (ho : o + 1 = w.length) (hg : (g 0).toInt = 1) : ∀ (z i : Nat) (w1 : Wd) (h : Nat → Option Nat), 8 = i + z → w1.length = o + 5 → EX (fun i => i = o) 4 12 w w1 → w1[o]? = some (.inr (7, [.ref (o + 1), .null])) → w1[o + 1]? = some (aR 4 8 h) → (∀ j, j < i → h j = some (o + 2)) → w1[o + 2]? = some (oP 0 (o + 4)) → w1[o + 4]? = some (aI 0 1 g) → BX7_init w0 (fun r w' => r = none ∧ w'.length = o + 7 ∧ EX (fun i => i = o) 6 18 w w' ∧ shC w' o o newS ∧ w'[o + 6]? = some (aI 0 0 (fun _ => 0))) w1 31 [(2, .int (nI i)), (1, .ref (o + 2)), (0, .ref o)] [] := by
  intro z
  induction z with
  | zero =>
    intro i w1 h hz hl hE hS hh hj hP hb
    refine g_iload_n (pc := 31) 0 dX7_init_31 rfl rfl ?_
    refine g_bipush (pc := 32) (v := nI 8) dX7_init_32 (by decide) ?_
    refine n_icmp_ge (pc := 34) 50 dX7_init_34 (by decide) (by omega) (by omega) (fun hb9 => ?_) (fun hb9 => ?_)
    · refine g_aload_n (pc := 50) 2 dX7_init_50 rfl rfl ?_
      refine g_new (pc := 51) dX7_init_51 nk_X7_20 ?_
      refine GP.tr (o + 5) hl ?_
      refine g_dup (pc := 54) dX7_init_54 rfl ?_
      refine g_iconst (pc := 55) (v := nI 0) dX7_init_55 (by decide) ?_
      refine g_iconst (pc := 56) (v := nI 0) dX7_init_56 (by decide) ?_
      refine g_iconst (pc := 57) (v := nI 0) dX7_init_57 (by decide) ?_
      refine g_iconst (pc := 58) (v := nI 0) dX7_init_58 (by decide) ?_
      refine g_iconst (pc := 59) (v := nI 0) dX7_init_59 (by decide) ?_
      refine g_newaI (pc := 60) 0 dX7_init_60 acI (by decide) (by decide) ?_
      refine GP.tr (o + 6) (by rw [List.length_append, hl]; rfl) ?_
      obtain ⟨w2, hw2⟩ : ∃ w2 : Wd, w2 = w1 ++ [.inr (1, [.int 0, .int 0, .int 0, .int 0, .int 0, .null])] ++ [aI 0 0 (fun _ => 0)] := ⟨_, rfl⟩
      refine GP.weq w2 hw2.symm ?_
      have hf2 : w2[o + 5]? = some (.inr (1, [.int 0, .int 0, .int 0, .int 0, .int 0, .null])) := by rw [hw2, ← hl]; exact lk_app lk_new
      have he2 : w2[o + 6]? = some (aI 0 0 (fun _ => 0)) := by
        have h9 : (w1 ++ [.inr (1, [.int 0, .int 0, .int 0, .int 0, .int 0, .null])] ++ [aI 0 0 (fun _ => 0)])[(w1 ++ ([.inr (1, [.int 0, .int 0, .int 0, .int 0, .int 0, .null])] : Wd)).length]? = some (aI 0 0 (fun _ => 0)) := lk_new
        rw [List.length_append, hl] at h9
        rw [hw2]
        exact h9
      have L2 : ∀ i c, w1[i]? = some c → w2[i]? = some c := fun i c h1 => by rw [hw2]; exact lk_app (lk_app h1)
      have hE2 : EX (fun i => i = o) 6 18 w w2 := by rw [hw2]; exact EX.le (k' := 6) (s' := 18) (EX.apd [aI 0 0 (fun _ => 0)] (EX.apd [.inr (1, [.int 0, .int 0, .int 0, .int 0, .int 0, .null])] hE)) (by simp) (by simp [slW, slE])
      have hl2 : w2.length = o + 7 := by rw [hw2, List.length_append, List.length_append, hl]; rfl
      refine g_callI (pc := 62) [.int (nI 0), .int (nI 0), .int (nI 0), .int (nI 0), .ref (o + 6)] dX7_init_62 ci_X7_22.1 ci_X7_22.2.1 ci_X7_22.2.2 rfl rfl (Nat.le_of_ble_eq_true rfl) (by decide) (by decide) (sp_newFound _ (kp := 0) (dg := 0) (al := 0) (lk := 0) (on := 0) hf2 he2 (by omega) (by omega) (by omega)) ?_
      rintro _ w3 ⟨rfl, e3⟩
      have hS3 : w3[o]? = some (.inr (7, [.ref (o + 1), .null])) := by rw [e3]; exact lk_ne (by omega) (L2 _ _ hS)
      refine g_putF (pc := 65) [.ref (o + 1), .ref (o + 5)] dX7_init_65 fk_X7_25 (fun _ _ _ h => by cases h; rfl) rfl hS3 (Nat.le_of_ble_eq_true rfl) rfl rfl ?_
      obtain ⟨w4, hw4⟩ : ∃ w4 : Wd, w4 = w3.set o (.inr (7, [.ref (o + 1), .ref (o + 5)])) := ⟨_, rfl⟩
      refine GP.weq w4 hw4.symm ?_
      have hE4 : EX (fun i => i = o) 6 18 w w4 := by rw [hw4, e3]; exact EX.stp (EX.stp hE2 hf2 rfl (Or.inr (by omega))) (lk_ne (by omega) (L2 _ _ hS)) rfl (Or.inl rfl)
      have L4 : ∀ i c, i ≠ o → i ≠ o + 5 → w1[i]? = some c → w4[i]? = some c := fun i c h1 h2 h3 => by rw [hw4, e3]; exact lk_ne (Ne.symm h1) (lk_ne (Ne.symm h2) (L2 _ _ h3))
      have hf4 : w4[o + 5]? = some (oF 0 0 0 0 0 (o + 6)) := by rw [hw4, e3]; exact lk_ne (by omega) (lk_eq hf2)
      have he4 : w4[o + 6]? = some (aI 0 0 (fun _ => 0)) := by rw [hw4, e3]; exact lk_ne (by omega) (lk_ne (by omega) he2)
      have hpo : polC w4 o (o + 2) oneP := ⟨o + 4, g, L4 _ _ (by omega) (by omega) hP, L4 _ _ (by omega) (by omega) hb, by omega, by omega, fun j hj => by rw [show j = 0 from Nat.le_zero.mp hj]; exact hg, okP_one⟩
      exact g_vret (pc := 68) dX7_init_68 ⟨rfl, by rw [hw4, List.length_set, e3, List.length_set]; exact hl2, hE4, ⟨o + 1, o + 5, h, by rw [hw4]; exact lk_eq hS3, L4 _ _ (by omega) (by omega) hh, by omega, by omega, fun i hi => ⟨o + 2, hj i (by omega), hpo⟩, ⟨o + 6, fun _ => 0, hf4, he4, by omega, by omega, fun j hj => rfl, by decide, by decide, by decide, by decide, by decide⟩⟩, he4⟩
    · exact absurd hb9 (by omega)
  | succ z ih =>
    intro i w1 h hz hl hE hS hh hj hP hb
    refine g_iload_n (pc := 31) 0 dX7_init_31 rfl rfl ?_
    refine g_bipush (pc := 32) (v := nI 8) dX7_init_32 (by decide) ?_
    refine n_icmp_ge (pc := 34) 50 dX7_init_34 (by decide) (by omega) (by omega) (fun hb9 => ?_) (fun hb9 => ?_)
    · exact absurd hb9 (by omega)
    · refine g_aload_n (pc := 37) 2 dX7_init_37 rfl rfl ?_
      refine g_get (pc := 38) dX7_init_38 fk_X7_11 hS rfl ?_
      refine g_iload_n (pc := 41) 0 dX7_init_41 rfl rfl ?_
      refine g_aload_n (pc := 42) 1 dX7_init_42 rfl rfl ?_
      refine g_aast (pc := 43) i dX7_init_43 hh (by decide) (IXn (by omega) (by omega)) hP rfl ?_
      refine n_iinc (pc := 44) (c := 1) [(2, .int (nI (i + 1))), (1, .ref (o + 2)), (0, .ref o)] 0 dX7_init_44 rfl (by decide) (by decide) rfl ?_
      refine g_goto (pc := 47) 31 dX7_init_47 (by decide) ?_
      obtain ⟨w3, hw3⟩ : ∃ w3 : Wd, w3 = w1.set (o + 1) (aR 4 8 (va_up h i (some (o + 2)))) := ⟨_, rfl⟩
      refine GP.weq w3 hw3.symm ?_
      have L3 : ∀ j c, j ≠ o + 1 → w1[j]? = some c → w3[j]? = some c := fun j c h1 h2 => by rw [hw3]; exact lk_ne (Ne.symm h1) h2
      exact GP.lsub _ (by simp) (ih (i + 1) w3 _ (by omega) (by rw [hw3, List.length_set]; exact hl) (by rw [hw3]; exact EX.stp hE hh rfl (Or.inr (by omega))) (L3 _ _ (by omega) hS) (by rw [hw3]; exact lk_eq hh) (fun j hj2 => by by_cases e : j = i; · { rw [e, vaup_s] }; · { rw [vaup_n e]; exact hj j (by omega) }) (L3 _ _ (by omega) hP) (L3 _ _ (by omega) hb))
theorem sp_newShelf2 (w : Wd) {o : Nat} (ho : o + 1 = w.length) (hH : w[o]? = some (.inr (7, [.null, .null]))) : EX7_init [.ref o] w (fun r w' => r = none ∧ w'.length = o + 7 ∧ EX (fun i => i = o) 6 18 w w' ∧ shC w' o o newS ∧ w'[o + 6]? = some (aI 0 0 (fun _ => 0))) := by
  refine EP.of (plainFor_of_name (by decide)) [(0, .ref o)] rfl (Nat.le_of_ble_eq_true rfl) (fun r wf h => by obtain ⟨rfl, -⟩ := h; trivial) ?_
  show BX7_init w _ w 0 [(0, .ref o)] []
  refine g_aload_n (pc := 0) 0 dX7_init_0 rfl rfl ?_
  refine g_oinit (pc := 1) dX7_init_1 ol_X7_3 oi_in oi_co (by decide) (Nat.le_of_ble_eq_true rfl) (by decide) ?_
  refine g_aload_n (pc := 4) 0 dX7_init_4 rfl rfl ?_
  refine g_bipush (pc := 5) (v := nI 8) dX7_init_5 (by decide) ?_
  refine g_newq (pc := 7) (k := 4) 8 dX7_init_7 cl_X7_9 (Or.inl ⟨rfl, rfl⟩) (by decide) (by decide) ?_
  refine GP.tr (o + 1) ho.symm ?_
  refine g_putF (pc := 10) [.ref (o + 1), .null] dX7_init_10 fk_X7_11 (fun _ _ _ h => by cases h; rfl) rfl (lk_app hH) (Nat.le_of_ble_eq_true rfl) rfl rfl ?_
  obtain ⟨w1, hw1⟩ : ∃ w1 : Wd, w1 = ((w ++ [aR 4 8 (fun _ => none)]).set o (.inr (7, [.ref (o + 1), .null]))) := ⟨_, rfl⟩
  refine GP.weq w1 hw1.symm ?_
  have hl1 : w1.length = o + 2 := by rw [hw1, List.length_set, List.length_append]; show w.length + 1 = _; omega
  have hE1 : EX (fun i => i = o) 1 8 w w1 := by rw [hw1]; exact EX.stp (EX.app.le (by simp) (by simp [slW, slE])) (lk_app hH) rfl (Or.inl rfl)
  have hH1 : w1[o]? = some (.inr (7, [.ref (o + 1), .null])) := by rw [hw1]; exact lk_eq (lk_app hH)
  have hf1 : w1[o + 1]? = some (aR 4 8 (fun _ => none)) := by rw [hw1, ho]; exact lk_ne (by omega) lk_new
  refine g_new (pc := 13) dX7_init_13 nk_X7_9 ?_
  refine GP.tr (o + 2) hl1 ?_
  refine g_dup (pc := 16) dX7_init_16 rfl ?_
  refine g_iconst (pc := 17) (v := nI 1) dX7_init_17 (by decide) ?_
  refine g_newaL (pc := 18) 1 dX7_init_18 acL (by decide) (by decide) ?_
  refine GP.tr (o + 3) (by rw [List.length_append, hl1]; rfl) ?_
  obtain ⟨w2, hw2⟩ : ∃ w2 : Wd, w2 = w1 ++ [.inr (6, [.int 0, .null])] ++ [aL 1 (fun _ => 0)] := ⟨_, rfl⟩
  refine GP.weq w2 hw2.symm ?_
  have hl2 : w2.length = o + 4 := by rw [hw2, List.length_append, List.length_append, hl1]; rfl
  have hp2 : w2[o + 2]? = some (.inr (6, [.int 0, .null])) := by rw [hw2, ← hl1]; exact lk_app lk_new
  have hq2 : w2[o + 3]? = some (aL 1 (fun _ => 0)) := by
    have h9 : (w1 ++ [.inr (6, [.int 0, .null])] ++ [aL 1 (fun _ => 0)])[(w1 ++ ([.inr (6, [.int 0, .null])] : Wd)).length]? = some (aL 1 (fun _ => 0)) := lk_new
    rw [List.length_append, hl1] at h9
    rw [hw2]
    exact h9
  have L2 : ∀ i c, w1[i]? = some c → w2[i]? = some c := fun i c h1 => by rw [hw2]; exact lk_app (lk_app h1)
  have hE2 : EX (fun i => i = o) 3 11 w w2 := by rw [hw2]; exact EX.le (k' := 3) (s' := 11) (EX.apd [aL 1 (fun _ => 0)] (EX.apd [.inr (6, [.int 0, .null])] hE1)) (by simp) (by simp [slW, slE])
  refine g_dup (pc := 20) dX7_init_20 rfl ?_
  refine g_iconst (pc := 21) (v := nI 0) dX7_init_21 (by decide) ?_
  refine g_lconst (pc := 22) (v := 1) dX7_init_22 (by decide) ?_
  refine g_last (pc := 23) 0 dX7_init_23 hq2 (IXn (by omega) (by omega)) ?_
  obtain ⟨w3, hw3⟩ : ∃ w3 : Wd, w3 = w2.set (o + 3) (aL 1 (vp_updL (fun _ => 0) 0 1)) := ⟨_, rfl⟩
  refine GP.weq w3 hw3.symm ?_
  have hp3 : w3[o + 2]? = some (.inr (6, [.int 0, .null])) := by rw [hw3]; exact lk_ne (by omega) hp2
  have hq3 : w3[o + 3]? = some (aL 1 (vp_updL (fun _ => 0) 0 1)) := by rw [hw3]; exact lk_eq hq2
  have h00 : (vp_updL (fun _ => (0 : Int64)) 0 1 0).toInt = 1 := by rw [upL_s]; decide
  refine g_iconst (pc := 24) (v := nI 0) dX7_init_24 (by decide) ?_
  refine g_callI (pc := 25) [.ref (o + 3), .int (nI 0)] dX7_init_25 ci_X7_17.1 ci_X7_17.2.1 ci_X7_17.2.2 rfl rfl (Nat.le_of_ble_eq_true rfl) (by decide) (by decide) (sp_newPoly _ (n := 0) hp3 hq3 (by omega) (by decide) (by decide) (by decide) (fun j hj => by rw [show j = 0 by omega, h00]; omega)) ?_
  rintro _ w4 ⟨rfl, g, hg, e4⟩
  have hl3 : w3.length = o + 4 := by rw [hw3, List.length_set]; exact hl2
  rw [hl3] at e4
  have hg0 : (g 0).toInt = 1 := by rw [hg 0 (Nat.le_refl _)]; exact h00
  have hE4 : EX (fun i => i = o) 4 12 w w4 := by
    rw [e4, hw3]
    exact EX.le (k' := 4) (s' := 12) (EX.apd [aI 0 (0 + 1) g] (EX.stp (EX.stp hE2 hq2 rfl (Or.inr (by omega))) (lk_ne (by omega) hp2) rfl (Or.inr (by omega)))) (by simp) (by simp [slW, slE])
  have L4 : ∀ i c, i ≠ o + 2 → i ≠ o + 3 → w2[i]? = some c → w4[i]? = some c := fun i c h1 h2 h3 => by rw [e4, hw3]; exact lk_app (lk_ne (Ne.symm h1) (lk_ne (Ne.symm h2) h3))
  have hb4 : w4[o + 4]? = some (aI 0 1 g) := by
    have h9 : (w3.set (o + 2) (oP 0 (o + 4)) ++ [aI 0 (0 + 1) g])[(w3.set (o + 2) (oP 0 (o + 4))).length]? = some (aI 0 (0 + 1) g) := lk_new
    rw [List.length_set, hl3] at h9
    rw [e4]
    exact h9
  refine g_astore_n (pc := 28) [(1, .ref (o + 2)), (0, .ref o)] dX7_init_28 rfl (by decide) rfl ?_
  refine g_iconst (pc := 29) (v := nI 0) dX7_init_29 (by decide) ?_
  refine g_istore_n (pc := 30) [(2, .int (nI 0)), (1, .ref (o + 2)), (0, .ref o)] dX7_init_30 rfl (by decide) rfl ?_
  exact GP.lsub _ (by simp) (sn_loop2 ho hg0 8 0 w4 (fun _ => none) (by omega) (by rw [e4, List.length_append, List.length_set, hl3]; rfl) hE4 (L4 _ _ (by omega) (by omega) (L2 _ _ hH1)) (L4 _ _ (by omega) (by omega) (L2 _ _ hf1)) (fun j hj => absurd hj (by omega)) (by rw [e4]; exact lk_app (lk_eq hp3)) hb4)
