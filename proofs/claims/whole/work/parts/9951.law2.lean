theorem law_all {nm : String} {L : Nat} {xs : Nat → Int32} (HL : AGL) (hL : L ≤ 3072) : BL nm L xs [] (fun r w' => r = some (.int 1) ∧ w'.length ≤ 600000 ∧ slW w' ≤ 7302250) [] 0 [(0, .float 0)] [] := by
  refine g_new (pc := 0) dL_law_0 nk_L_7 ?_
  refine GP.tr 0 rfl ?_
  obtain ⟨v0, e0⟩ : ∃ v : Wd, v = [] ++ [.inr (10, [.null, .null, .null, .null, .null, .null, .null, .null, .null, .null, .null, .int 0, .int 0])] := ⟨_, rfl⟩
  refine GP.weq v0 e0.symm ?_
  have l0 : v0.length = 1 := by rw [e0]; rfl
  have s0 : slW v0 = 13 := by rw [e0]; rfl
  have h0 : v0[0]? = some (.inr (10, [.null, .null, .null, .null, .null, .null, .null, .null, .null, .null, .null, .int 0, .int 0])) := by rw [e0]; rfl
  refine g_dup (pc := 3) dL_law_3 rfl ?_
  refine g_callI (pc := 4) [] dL_law_4 ci_L_9.1 ci_L_9.2.1 ci_L_9.2.2 rfl rfl (Nat.le_of_ble_eq_true rfl) (by decide) (by decide) (sp_newBox2 _ (X := 0) (by omega) h0) ?_
  rintro _ v1 ⟨rfl, l1, E1, B1, y1⟩
  refine g_astore_n (pc := 7) [(1, .ref 0), (0, .float 0)] dL_law_7 rfl (by decide) rfl ?_
  refine g_new (pc := 8) dL_law_8 nk_L_10 ?_
  refine GP.tr 146 l1 ?_
  obtain ⟨v2, e2⟩ : ∃ v : Wd, v = v1 ++ [.inr (11, .int 0 :: .int 0 :: .null :: .null :: .null :: .null :: .int 0 :: .null :: .null :: .null :: .int 0 :: .null :: .int 0 :: .null :: .null :: .null :: .null :: .int 0 :: .int 0 :: .int 0 :: .null :: .null :: .null :: .null :: .null :: .int 0 :: .int 0 :: .int 0 :: .int 0 :: .null :: .null :: .null :: .null :: [])] := ⟨_, rfl⟩
  refine GP.weq v2 e2.symm ?_
  have l2 : v2.length = 147 := by rw [e2, List.length_append, l1]; rfl
  have h2 : v2[146]? = some (.inr (11, .int 0 :: .int 0 :: .null :: .null :: .null :: .null :: .int 0 :: .null :: .null :: .null :: .int 0 :: .null :: .int 0 :: .null :: .null :: .null :: .null :: .int 0 :: .int 0 :: .int 0 :: .null :: .null :: .null :: .null :: .null :: .int 0 :: .int 0 :: .int 0 :: .int 0 :: .null :: .null :: .null :: .null :: [])) := by rw [e2]; exact lk_l l1
  have E2 : EX (fun _ => False) 1 33 v1 v2 := by rw [e2]; exact EX.app.le (by simp) (by simp [slW, slE])
  refine g_dup (pc := 11) dL_law_11 rfl ?_
  refine g_callI (pc := 12) [] dL_law_12 ci_L_12.1 ci_L_12.2.1 ci_L_12.2.2 rfl rfl (Nat.le_of_ble_eq_true rfl) (by decide) (by decide) (sp_newModel _ (Y := 146) (by omega) h2) ?_
  rintro _ v3 ⟨rfl, l3, E3, M3⟩
  refine g_astore_n (pc := 15) [(2, .ref 146), (1, .ref 0), (0, .float 0)] dL_law_15 rfl (by decide) rfl ?_
  refine g_iconst (pc := 16) (v := nI 0) dL_law_16 (by decide) ?_
  refine g_istore_n (pc := 17) [(3, .int (nI 0)), (2, .ref 146), (1, .ref 0), (0, .float 0)] dL_law_17 rfl (by decide) rfl ?_
  have E23 : EX (fun _ => False) (1 + 21) (33 + 9406) v1 v3 := EX.trn E2 E3 (fun i hi => Or.inr (by omega))
  have hI : Inv 0 v3 0 146 := by
    refine ⟨by omega, ⟨_, E23.lk (fun g => g) y1, fun fs g => (nomatch g)⟩, ⟨by omega, ?_⟩, _, _, _, _, _, _, _, _, _, _, B1.ext E23, M3⟩
    have g1 := E1.2.2.2.1
    have g2 := E23.2.2.2.1
    omega
  exact GP.lsub _ (by simp) (law_loop HL hL 512 0 v3 (by omega) hI)
