/-! Arrays.copyOf; Hunt: told -/
abbrev BJ7_copyOf_59c91 (w0 : Wd) (Post : Option Value → Wd → Prop) (w : Wd) (pc : Nat) (ls : List (Nat × Value)) (st : List Value) : Prop := GP "copyOf" RJ7 cJ7_copyOf_59c91 3 (some (.array .int)) 1 39 none w0 Post w pc ls st
abbrev EJ7_copyOf_59c91 (As : List Value) (w : Wd) (Post : Option Value → Wd → Prop) : Prop := EP yJ7_copyOf_59c91 cJ7_copyOf_59c91 3 (some (.array .int)) 1 As w Post
theorem sp_copyOf (w : Wd) {o n k : Nat} {f : Nat → Int32} (ho : w[o]? = some (aI 0 n f)) (hn : n ≤ 100000) (hk : k ≤ n) : EJ7_copyOf_59c91 [.ref o, .int (nI k)] w (fun r w' => r = some (.ref w.length) ∧ ∃ g : Nat → Int32, (∀ j, j < k → g j = f j) ∧ w' = w ++ [aI 0 k g]) := by
  refine EP.of (plainFor_of_name (by decide)) [(0, .ref o), (1, .int (nI k))] rfl (Nat.le_of_ble_eq_true rfl) (fun r wf h => by obtain ⟨rfl, -⟩ := h; trivial) ?_
  show BJ7_copyOf_59c91 w _ w 0 [(0, .ref o), (1, .int (nI k))] []
  refine g_iload_n (pc := 0) 1 dJ7_copyOf_59c91_0 rfl rfl ?_
  refine g_aload_n (pc := 1) 0 dJ7_copyOf_59c91_1 rfl rfl ?_
  refine g_alen (pc := 2) dJ7_copyOf_59c91_2 ho (by decide) ?_
  refine n_icmp_ne (pc := 3) 14 dJ7_copyOf_59c91_3 (by decide) (by omega) (by omega) (fun hc => ?_) (fun hc => ?_)
  · refine g_iload_n (pc := 14) 1 dJ7_copyOf_59c91_14 rfl rfl ?_
    refine g_newaI (pc := 15) k dJ7_copyOf_59c91_15 acI (nI_toInt (by omega)) (by omega) ?_
    refine g_astore_n (pc := 17) [(2, .ref w.length), (0, .ref o), (1, .int (nI k))] dJ7_copyOf_59c91_17 rfl (by decide) rfl ?_
    refine g_aload_n (pc := 18) 1 dJ7_copyOf_59c91_18 rfl rfl ?_
    refine g_iconst (pc := 19) (v := nI 0) dJ7_copyOf_59c91_19 (by decide) ?_
    refine g_aload_n (pc := 20) 0 dJ7_copyOf_59c91_20 rfl rfl ?_
    refine g_iconst (pc := 21) (v := nI 0) dJ7_copyOf_59c91_21 (by decide) ?_
    refine g_aload_n (pc := 22) 1 dJ7_copyOf_59c91_22 rfl rfl ?_
    refine g_alen (pc := 23) dJ7_copyOf_59c91_23 (lk_app ho) (by decide) ?_
    refine g_iload_n (pc := 24) 2 dJ7_copyOf_59c91_24 rfl rfl ?_
    refine g_callS (pc := 25) [.int (nI n), .int (nI k)] dJ7_copyOf_59c91_25 cs_J7_304.1 cs_J7_304.2 rfl rfl (Nat.le_of_ble_eq_true rfl) (by decide) (by decide) (sp_minI _ (nI n) (nI k)) ?_
    rintro _ w9 ⟨rfl, e9⟩
    refine GP.weq _ e9 ?_
    refine GP.ti (nI k) (by rw [minN (by omega) (by omega)]; congr 1; omega) ?_
    refine g_copyI (pc := 28) (sp := 0) (dp := 0) (n := k) dJ7_copyOf_59c91_28 nl_J7_150 tw_652 tw_651 tw_85 (lk_app ho) lk_new (by omega) (by omega) (by omega) (by omega) (Nat.le_of_ble_eq_true rfl) (by decide) (by decide) ?_
    refine GP.weq (w ++ [aI 0 k (va_cpy f (fun _ => 0) 0 0 k)]) set_new ?_
    refine g_aload_n (pc := 31) 0 dJ7_copyOf_59c91_31 rfl rfl ?_
    exact g_aret (pc := 32) dJ7_copyOf_59c91_32 ⟨rfl, _, fun j hj => by simp only [va_cpy]; rw [if_pos (by omega)]; simp, rfl⟩
  · have hkn : k = n := by omega
    subst hkn
    refine g_aload_n (pc := 6) 0 dJ7_copyOf_59c91_6 rfl rfl ?_
    refine g_clone (pc := 7) dJ7_copyOf_59c91_7 nl_J7_316 ho (by decide) (by decide) (by decide) ?_
    refine g_castI (pc := 10) dJ7_copyOf_59c91_10 cl_J7_317 lk_new ?_
    exact g_aret (pc := 13) dJ7_copyOf_59c91_13 ⟨rfl, f, fun _ _ => rfl, rfl⟩
abbrev BX3_told (w0 : Wd) (Post : Option Value → Wd → Prop) (w : Wd) (pc : Nat) (ls : List (Nat × Value)) (st : List Value) : Prop := GP "told" RX3 cX3_told 2 (some (.object "MahlerBox$Found")) 2 78 none w0 Post w pc ls st
abbrev EX3_told (As : List Value) (w : Wd) (Post : Option Value → Wd → Prop) : Prop := EP yX3_told cX3_told 2 (some (.object "MahlerBox$Found")) 2 As w Post
theorem sp_told (w : Wd) {H n h lv ia lk on : Nat} {en : Nat → Int32} (hH : w[H]? = some (oH H n h lv ia lk on)) (hE : w[H + 5]? = some (aI 0 480 en)) (hia : ia < 10000) : EX3_told [.ref H] w (fun r w' => r = some (.ref w.length) ∧ ∃ g : Nat → Int32, (∀ j, j < min ia 30 * 16 → g j = en j) ∧ w' = w ++ [oF n ia lk on (min ia 30) (w.length + 1), aI 0 (min ia 30 * 16) g]) := by
  refine EP.of (plainFor_of_name (by decide)) [(0, .ref H)] rfl (Nat.le_of_ble_eq_true rfl) (fun r wf h => by obtain ⟨rfl, -⟩ := h; trivial) ?_
  show BX3_told w _ w 0 [(0, .ref H)] []
  refine g_aload_n (pc := 0) 0 dX3_told_0 rfl rfl ?_
  refine g_get (pc := 1) dX3_told_1 fk_X3_44 hH rfl ?_
  refine g_bipush (pc := 4) (v := nI 30) dX3_told_4 (by decide) ?_
  refine g_callS (pc := 6) [.int (nI ia), .int (nI 30)] dX3_told_6 cs_X3_53.1 cs_X3_53.2 rfl rfl (Nat.le_of_ble_eq_true rfl) (by decide) (by decide) (sp_minI _ (nI ia) (nI 30)) ?_
  rintro _ w9 ⟨rfl, e9⟩
  refine GP.weq _ e9 ?_
  refine GP.ti (nI (min ia 30)) (minN (by omega) (by omega)) ?_
  refine g_istore_n (pc := 9) [(1, .int (nI (min ia 30))), (0, .ref H)] dX3_told_9 rfl (by decide) rfl ?_
  refine g_new (pc := 10) dX3_told_10 nk_X3_28 ?_
  refine g_dup (pc := 13) dX3_told_13 rfl ?_
  refine g_aload_n (pc := 14) 1 dX3_told_14 rfl rfl ?_
  refine g_get (pc := 15) dX3_told_15 fk_X3_34 (lk_app hH) rfl ?_
  refine g_aload_n (pc := 18) 1 dX3_told_18 rfl rfl ?_
  refine g_get (pc := 19) dX3_told_19 fk_X3_44 (lk_app hH) rfl ?_
  refine g_aload_n (pc := 22) 1 dX3_told_22 rfl rfl ?_
  refine g_get (pc := 23) dX3_told_23 fk_X3_47 (lk_app hH) rfl ?_
  refine g_aload_n (pc := 26) 1 dX3_told_26 rfl rfl ?_
  refine g_get (pc := 27) dX3_told_27 fk_X3_50 (lk_app hH) rfl ?_
  refine g_aload_n (pc := 30) 1 dX3_told_30 rfl rfl ?_
  refine g_get (pc := 31) dX3_told_31 fk_X3_30 (lk_app hH) rfl ?_
  refine g_iload_n (pc := 34) 0 dX3_told_34 rfl rfl ?_
  refine g_bipush (pc := 35) (v := nI 16) dX3_told_35 (by decide) ?_
  refine n_imul (pc := 37) dX3_told_37 ?_
  refine g_callS (pc := 38) [.ref (H + 5), .int (nI ((min ia 30) * 16))] dX3_told_38 cs_X3_118.1 cs_X3_118.2 rfl rfl (Nat.le_of_ble_eq_true rfl) (by decide) (by decide) (sp_copyOf _ (k := min ia 30 * 16) (lk_app hE) (by decide) (by omega)) ?_
  rintro _ w9 ⟨rfl, g, hg, e9⟩
  rw [List.length_append, show ([.inr (1, [.int 0, .int 0, .int 0, .int 0, .int 0, .null])] : Wd).length = 1 from rfl]
  refine GP.weq (w ++ [.inr (1, [.int 0, .int 0, .int 0, .int 0, .int 0, .null]), aI 0 (min ia 30 * 16) g]) (e9.trans (by rw [List.append_assoc]; rfl)) ?_
  refine g_callI (pc := 41) [.int (nI n), .int (nI ia), .int (nI lk), .int (nI on), .ref (w.length + 1)] dX3_told_41 ci_X3_122.1 ci_X3_122.2.1 ci_X3_122.2.2 rfl rfl (Nat.le_of_ble_eq_true rfl) (by decide) (by decide) (sp_newFound _ (kp := min ia 30) lk_1 lk_2 (by omega) (by omega) (by omega)) ?_
  rintro _ w9 ⟨rfl, e9⟩
  refine GP.weq (w ++ [oF n ia lk on (min ia 30) (w.length + 1), aI 0 (min ia 30 * 16) g]) (e9.trans (by rw [List.set_append_right _ _ (Nat.le_refl _), Nat.sub_self]; rfl)) ?_
  exact g_aret (pc := 44) dX3_told_44 ⟨rfl, g, hg, rfl⟩
