/-! Gauge: its constructor, thousands and all -/
theorem tho_lim {t : Nat} (h : t ≤ 6) : ((1000 ^ (2 ^ t) : Nat) : Int) < 268435456 ^ 23 := by
  have h1 : (1000 ^ (2 ^ t) : Nat) ≤ 1000 ^ (2 ^ 6) := Nat.pow_le_pow_right (by decide) (Nat.pow_le_pow_right (by decide) h)
  have h2 : (1000 ^ (2 ^ 6) : Nat) < 268435456 ^ 23 := by decide
  have h3 : (1000 ^ (2 ^ t) : Nat) < 268435456 ^ 23 := Nat.lt_of_le_of_lt h1 h2
  have h4 : (((1000 ^ (2 ^ t) : Nat)) : Int) < ((268435456 ^ 23 : Nat) : Int) := Int.ofNat_lt.mpr h3
  exact h4
theorem tho_sq {t : Nat} : ((1000 ^ (2 ^ t) : Nat) : Int) * ((1000 ^ (2 ^ t) : Nat) : Int) = ((1000 ^ (2 ^ (t + 1)) : Nat) : Int) := by
  rw [← Int.natCast_mul, ← Nat.pow_add, show 2 ^ t + 2 ^ t = 2 ^ (t + 1) by rw [Nat.pow_succ]; omega]
theorem wh_keep {w w1 : Wd} {i N : Nat} (h : whC w i N) (h1 : ∀ c, w[i]? = some c → w1[i]? = some c) (h2 : ∀ c, w[i + 1]? = some c → w1[i + 1]? = some c) : whC w1 i N := by
  obtain ⟨n, ds, a, b⟩ := h
  exact ⟨n, ds, h1 _ a, h2 _ b⟩
theorem wh_keepV {w w1 : Wd} {i N : Nat} {v : Int} (h : whV w i N v) (h1 : ∀ c, w[i]? = some c → w1[i]? = some c) (h2 : ∀ c, w[i + 1]? = some c → w1[i + 1]? = some c) : whV w1 i N v := by
  obtain ⟨n, ds, a, b, c⟩ := h
  exact ⟨n, ds, h1 _ a, h2 _ b, c⟩
def gauT (w : Wd) (o t : Nat) : Prop := w.length = o + 26 + 2 * t ∧ w[o]? = some (oG o (nI 0) (nI 0)) ∧ (∃ tf, w[o + 1]? = some (aR 6 8 tf) ∧ ∀ s, s ≤ t → tf s = some (o + 24 + 2 * s)) ∧ (∀ s, s ≤ t → ∃ N, N < 100 ∧ whV w (o + 24 + 2 * s) N ((1000 ^ (2 ^ s) : Nat) : Int)) ∧ (∃ yf, w[o + 2]? = some (aR 8 13 yf) ∧ ∀ n, n < 13 → yf n = some (o + 3 + n)) ∧ wayI w o 0 0 ∧ whC w (o + 16) 8 ∧ whC w (o + 18) 64 ∧ whC w (o + 20) 128 ∧ whC w (o + 22) 128
theorem gt_loop {w0 w : Wd} {o : Nat} (ho : o + 1 = w.length) : ∀ (z t : Nat) (w1 : Wd), 7 = t + z → gauT w1 o t → EX (fun i => i = o) (25 + 2 * t) (545 + 48 * t) w w1 → BX2_init w0 (fun r w' => r = none ∧ w'.length = o + 40 ∧ EX (fun i => i = o) 39 900 w w' ∧ gauC w' o (nI 0) (nI 0)) w1 114 [(2, .int (nI (t + 1))), (1, .ref (o + 24 + 2 * t)), (0, .ref o)] [] := by
  intro z
  induction z with
  | zero =>
    intro t w1 hz hI hE
    have hI9 := hI
    obtain ⟨hl, hH, ⟨tf, ht1, ht2⟩, hts, ⟨yf, hy1, hy2⟩, hw, hc1, hc2, hc3, hc4⟩ := hI9
    refine g_iload_n (pc := 114) 0 dX2_init_114 rfl rfl ?_
    refine g_aload_n (pc := 115) 2 dX2_init_115 rfl rfl ?_
    refine g_get (pc := 116) dX2_init_116 fk_X2_11 hH rfl ?_
    refine g_alen (pc := 119) dX2_init_119 ht1 (by decide) ?_
    refine n_icmp_ge (pc := 120) 157 dX2_init_120 (by decide) (by omega) (by omega) (fun hb9 => ?_) (fun hb9 => ?_)
    · refine g_iconst (pc := 157) (v := nI 0) dX2_init_157 (by decide) ?_
      refine g_istore_n (pc := 158) [(2, .int (nI 0)), (1, .ref (o + 24 + 2 * t)), (0, .ref o)] dX2_init_158 rfl (by decide) rfl ?_
      exact GP.lsub _ (by simp) (gw_out ho 13 0 w1 (by omega) (by omega) (hE.le (by omega) (by omega)) hH ⟨⟨⟨tf, ht1, fun s hs => ht2 s (by omega)⟩, fun s hs => hts s (by omega)⟩, ⟨yf, hy1, hy2⟩, hc1, hc2, hc3, hc4⟩ hw)
    · exact absurd hb9 (by omega)
  | succ z ih =>
    intro t w1 hz hI hE
    have hI9 := hI
    obtain ⟨hl, hH, ⟨tf, ht1, ht2⟩, hts, ⟨yf, hy1, hy2⟩, hw, hc1, hc2, hc3, hc4⟩ := hI9
    obtain ⟨M, hM, n, ds, q1, q2, q3, q4, q5⟩ := hts t (Nat.le_refl _)
    have hn : n ≤ 23 := wh_lim q4 (by rw [q5]; exact tho_lim (by omega))
    have hvn : ((1000 ^ (2 ^ t) : Nat) : Int) < 268435456 ^ n := by rw [← q5]; exact vl_lt q4.1
    refine g_iload_n (pc := 114) 0 dX2_init_114 rfl rfl ?_
    refine g_aload_n (pc := 115) 2 dX2_init_115 rfl rfl ?_
    refine g_get (pc := 116) dX2_init_116 fk_X2_11 hH rfl ?_
    refine g_alen (pc := 119) dX2_init_119 ht1 (by decide) ?_
    refine n_icmp_ge (pc := 120) 157 dX2_init_120 (by decide) (by omega) (by omega) (fun hb9 => ?_) (fun hb9 => ?_)
    · exact absurd hb9 (by omega)
    · refine g_new (pc := 123) dX2_init_123 nk_X2_1 ?_
      refine GP.tr (o + 24 + 2 * (t + 1)) (by omega) ?_
      refine g_dup (pc := 126) dX2_init_126 rfl ?_
      refine g_iconst (pc := 127) (v := nI 2) dX2_init_127 (by decide) ?_
      refine g_aload_n (pc := 128) 1 dX2_init_128 rfl rfl ?_
      refine g_get (pc := 129) dX2_init_129 fk_X2_48 (lk_app q1) rfl ?_
      refine n_imul (pc := 132) dX2_init_132 ?_
      refine g_callI (pc := 133) [.int (nI (2 * n))] dX2_init_133 ci_X2_22.1 ci_X2_22.2.1 ci_X2_22.2.2 rfl rfl (Nat.le_of_ble_eq_true rfl) (by decide) (by decide) (sp_newWhole _ (o + 24 + 2 * (t + 1)) (2 * n) (by rw [show o + 24 + 2 * (t + 1) = w1.length by omega]; exact lk_new) (by omega)) ?_
      rintro _ w9 ⟨rfl, e9⟩
      rw [List.length_append, show ([.inr (9, [.null, .int 0])] : Wd).length = 1 from rfl, show o + 24 + 2 * (t + 1) = w1.length by omega] at e9
      obtain ⟨w2, hw2⟩ : ∃ w2 : Wd, w2 = w1 ++ [oW (w1.length + 1) 0, aL (max 1 (2 * n)) (fun _ => 0)] := ⟨_, rfl⟩
      refine GP.weq w2 ((e9.trans two_new).trans hw2.symm) ?_
      have hl2 : w2.length = o + 26 + 2 * (t + 1) := by rw [hw2, List.length_append]; show w1.length + 2 = _; omega
      have hE2 : EX (fun i => i = o) (25 + 2 * (t + 1)) (545 + 48 * (t + 1)) w w2 := by rw [hw2]; exact (hE.apd _).le (by simp; omega) (by simp [slW, slE]; omega)
      have hn1 : w2[(o + 24 + 2 * (t + 1))]? = some (oW ((o + 24 + 2 * (t + 1)) + 1) 0) := by rw [hw2, show o + 24 + 2 * (t + 1) = w1.length by omega]; exact lk_1
      have hn2 : w2[(o + 24 + 2 * (t + 1)) + 1]? = some (aL (max 1 (2 * n)) (fun _ => 0)) := by rw [hw2, show o + 24 + 2 * (t + 1) = w1.length by omega]; exact lk_2
      have L2 : ∀ i c, w1[i]? = some c → w2[i]? = some c := fun i c a => by rw [hw2]; exact lk_app a
      refine g_astore_n (pc := 136) [(3, .ref (o + 24 + 2 * (t + 1))), (2, .int (nI (t + 1))), (1, .ref (o + 24 + 2 * t)), (0, .ref o)] dX2_init_136 rfl (by decide) rfl ?_
      refine g_aload_n (pc := 137) 0 dX2_init_137 rfl rfl ?_
      refine g_aload_n (pc := 138) 2 dX2_init_138 rfl rfl ?_
      refine g_callV (pc := 139) [.ref (o + 24 + 2 * t)] dX2_init_139 cv_X2_51.1 cv_X2_51.2.1 cv_X2_51.2.2.1 cv_X2_51.2.2.2 hn1 rfl rfl (Nat.le_of_ble_eq_true rfl) (by decide) (by decide) (wh_square _ (o := (o + 24 + 2 * (t + 1))) (p := o + 24 + 2 * t) (N := max 1 (2 * n)) (M := M) (k := n) ⟨0, _, hn1, hn2⟩ ⟨n, ds, L2 _ _ q1, L2 _ _ q2, q3, q4, q5⟩ (by omega) (by omega) (by omega) hvn (by omega) (by omega)) ?_
      rintro _ w3 ⟨rfl, hV, hF⟩
      have L3 : ∀ i c, i < o + 26 + 2 * t → w1[i]? = some c → w3[i]? = some c := fun i c a b => hF.lk (by unfold wS; omega) (L2 _ _ b)
      rw [tho_sq] at hV
      have hV9 := hV
      obtain ⟨n3, ds3, v3, -⟩ := hV9
      refine g_aload_n (pc := 142) 3 dX2_init_142 rfl rfl ?_
      refine g_get (pc := 143) dX2_init_143 fk_X2_11 (L3 _ _ (by omega) hH) rfl ?_
      refine g_iload_n (pc := 146) 1 dX2_init_146 rfl rfl ?_
      refine g_aload_n (pc := 147) 0 dX2_init_147 rfl rfl ?_
      refine g_aast (pc := 148) (t + 1) dX2_init_148 (L3 _ _ (by omega) ht1) (by decide) (IXn (by omega) (by omega)) v3 rfl ?_
      refine g_aload_n (pc := 149) 0 dX2_init_149 rfl rfl ?_
      refine g_astore_n (pc := 150) [(1, .ref (o + 24 + 2 * (t + 1))), (3, .ref (o + 24 + 2 * (t + 1))), (2, .int (nI (t + 1))), (0, .ref o)] dX2_init_150 rfl (by decide) rfl ?_
      refine n_iinc (pc := 151) (c := 1) [(2, .int (nI ((t + 1) + 1))), (1, .ref (o + 24 + 2 * (t + 1))), (3, .ref (o + 24 + 2 * (t + 1))), (0, .ref o)] 2 dX2_init_151 rfl (by decide) (by decide) rfl ?_
      refine g_goto (pc := 154) 114 dX2_init_154 (by decide) ?_
      obtain ⟨w4, hw4⟩ : ∃ w4 : Wd, w4 = w3.set (o + 1) (aR 6 8 (va_up tf (t + 1) (some (o + 24 + 2 * (t + 1))))) := ⟨_, rfl⟩
      refine GP.weq w4 hw4.symm ?_
      have L34 : ∀ i c, i ≠ o + 1 → w3[i]? = some c → w4[i]? = some c := fun i c a b => by rw [hw4]; exact lk_ne (Ne.symm a) b
      have L4 : ∀ i c, i ≠ o + 1 → i < o + 26 + 2 * t → w1[i]? = some c → w4[i]? = some c := fun i c a b g => L34 i c a (L3 i c b g)
      have hE3 : EX (fun i => i = o) (25 + 2 * (t + 1)) (545 + 48 * (t + 1)) w w3 := (hE2.trn (EX.of hF (fun i hi => hi)) (fun i hi => Or.inr (by unfold wS at hi; omega))).le (by omega) (by omega)
      have hE4 : EX (fun i => i = o) (25 + 2 * (t + 1)) (545 + 48 * (t + 1)) w w4 := by rw [hw4]; exact hE3.stp (L3 _ _ (by omega) ht1) rfl (Or.inr (by omega))
      have WC : ∀ i N, o + 2 < i → i + 1 < o + 26 + 2 * t → whC w1 i N → whC w4 i N := fun i N a b g => wh_keep g (fun c h => L4 _ _ (by omega) (by omega) h) (fun c h => L4 _ _ (by omega) (by omega) h)
      refine GP.lsub _ (by simp) (ih (t + 1) w4 (by omega) ⟨by rw [hw4, List.length_set, hF.1]; exact hl2, L4 _ _ (by omega) (by omega) hH, ⟨_, by rw [hw4]; exact lk_eq (L3 _ _ (by omega) ht1), fun s hs => ?_⟩, fun s hs => ?_, ⟨yf, L4 _ _ (by omega) (by omega) hy1, hy2⟩, hw.fr (fun i c a b g => L4 _ _ (by omega) (by omega) g), WC _ _ (by omega) (by omega) hc1, WC _ _ (by omega) (by omega) hc2, WC _ _ (by omega) (by omega) hc3, WC _ _ (by omega) (by omega) hc4⟩ hE4)
      · by_cases e : s = t + 1
        · rw [e, vaup_s]
        · rw [vaup_n e]
          exact ht2 s (by omega)
      · by_cases e : s = t + 1
        · rw [e]
          exact ⟨_, by omega, wh_keepV hV (fun c h => L34 _ _ (by omega) h) (fun c h => L34 _ _ (by omega) h)⟩
        · obtain ⟨N, hN, hv⟩ := hts s (by omega)
          exact ⟨N, hN, wh_keepV hv (fun c h => L4 _ _ (by omega) (by omega) h) (fun c h => L4 _ _ (by omega) (by omega) h)⟩
theorem sp_newGauge (w : Wd) {o : Nat} (ho : o + 1 = w.length) (hH : w[o]? = some (.inr (2, [.null, .null, .null, .null, .null, .null, .int 0, .int 0]))) : EX2_init [.ref o] w (fun r w' => r = none ∧ w'.length = o + 40 ∧ EX (fun i => i = o) 39 900 w w' ∧ gauC w' o (nI 0) (nI 0)) := by
  refine EP.of (plainFor_of_name (by decide)) [(0, .ref o)] rfl (Nat.le_of_ble_eq_true rfl) (fun r wf h => by obtain ⟨rfl, -⟩ := h; trivial) ?_
  show BX2_init w _ w 0 [(0, .ref o)] []
  refine g_aload_n (pc := 0) 0 dX2_init_0 rfl rfl ?_
  refine g_oinit (pc := 1) dX2_init_1 ol_X2_5 oi_in oi_co (by decide) (Nat.le_of_ble_eq_true rfl) (by decide) ?_
  refine g_aload_n (pc := 4) 0 dX2_init_4 rfl rfl ?_
  refine g_bipush (pc := 5) (v := nI 8) dX2_init_5 (by decide) ?_
  refine g_newq (pc := 7) (k := 6) 8 dX2_init_7 cl_X2_1 (Or.inr (Or.inr ⟨rfl, rfl⟩)) (by decide) (by decide) ?_
  refine GP.tr (o + 1) ho.symm ?_
  refine g_putF (pc := 10) [.ref (o + 1), .null, .null, .null, .null, .null, .int 0, .int 0] dX2_init_10 fk_X2_11 (fun _ _ _ h => by cases h; rfl) rfl (lk_app hH) (Nat.le_of_ble_eq_true rfl) rfl rfl ?_
  obtain ⟨w1, hw1⟩ : ∃ w9 : Wd, w9 = ((w ++ [aR 6 8 (fun _ => none)]).set o (.inr (2, [.ref (o + 1), .null, .null, .null, .null, .null, .int 0, .int 0]))) := ⟨_, rfl⟩
  refine GP.weq w1 hw1.symm ?_
  have hl1 : w1.length = o + 2 := by rw [hw1, List.length_set, List.length_append]; show w.length + 1 = _; omega
  have hE1 : EX (fun i => i = o) 1 8 w w1 := by rw [hw1]; exact EX.stp (EX.app.le (by simp) (by simp [slW, slE])) (lk_app hH) rfl (Or.inl rfl)
  have hH1 : w1[o]? = some (.inr (2, [.ref (o + 1), .null, .null, .null, .null, .null, .int 0, .int 0])) := by rw [hw1]; exact lk_eq (lk_app hH)
  have a1 : w1[o + 1]? = some (aR 6 8 (fun _ => none)) := by rw [hw1, ho]; exact lk_ne (by omega) lk_new
  refine g_aload_n (pc := 13) 0 dX2_init_13 rfl rfl ?_
  refine g_bipush (pc := 14) (v := nI 13) dX2_init_14 (by decide) ?_
  refine g_bipush (pc := 16) (v := nI 13) dX2_init_16 (by decide) ?_
  refine g_mnaI (pc := 18) 13 13 dX2_init_18 cl_X2_17 (by decide) (by decide) (by decide) (by decide) ?_
  refine GP.tr (o + 2) hl1 ?_
  refine g_putF (pc := 22) [.ref (o + 1), .ref (o + 2), .null, .null, .null, .null, .int 0, .int 0] dX2_init_22 fk_X2_19 (fun _ _ _ h => by cases h; rfl) rfl (lk_app hH1) (Nat.le_of_ble_eq_true rfl) rfl rfl ?_
  obtain ⟨w2, hw2⟩ : ∃ w9 : Wd, w9 = ((w1 ++ mnaT 8 w1.length 13 (aI 0 13 (fun _ => 0))).set o (.inr (2, [.ref (o + 1), .ref (o + 2), .null, .null, .null, .null, .int 0, .int 0]))) := ⟨_, rfl⟩
  refine GP.weq w2 hw2.symm ?_
  have hl2 : w2.length = o + 16 := by rw [hw2, List.length_set, List.length_append, mnaT_len]; omega
  have hE2 : EX (fun i => i = o) 15 190 w w2 := by rw [hw2]; exact EX.stp (EX.le (k' := 15) (s' := 190) (EX.apd (mnaT 8 w1.length 13 (aI 0 13 (fun _ => 0))) hE1) (by rw [mnaT_len]; omega) (by rw [mnaT_sl]; decide)) (lk_app hH1) rfl (Or.inl rfl)
  have hH2 : w2[o]? = some (.inr (2, [.ref (o + 1), .ref (o + 2), .null, .null, .null, .null, .int 0, .int 0])) := by rw [hw2]; exact lk_eq (lk_app hH1)
  have L2 : ∀ i c, i ≠ o → w1[i]? = some c → w2[i]? = some c := fun i c a b => by rw [hw2]; exact lk_ne (Ne.symm a) (lk_app b)
  have y2 : w2[o + 2]? = some (aR 8 13 (fun i => if i < 13 then some (w1.length + 1 + i) else none)) := by rw [hw2, ← hl1]; exact lk_ne (by omega) mnaT_get0
  have r2 : ∀ m, m < 13 → w2[o + 3 + m]? = some (aI 0 13 (fun _ => 0)) := fun m hm => by rw [hw2, show o + 3 + m = w1.length + 1 + m by omega]; exact lk_ne (by omega) (mnaT_get hm)
  refine g_aload_n (pc := 25) 0 dX2_init_25 rfl rfl ?_
  refine g_new (pc := 26) dX2_init_26 nk_X2_1 ?_
  refine GP.tr (o + 16) hl2 ?_
  refine g_dup (pc := 29) dX2_init_29 rfl ?_
  refine g_bipush (pc := 30) (v := nI 8) dX2_init_30 (by decide) ?_
  refine g_callI (pc := 32) [.int (nI 8)] dX2_init_32 ci_X2_22.1 ci_X2_22.2.1 ci_X2_22.2.2 rfl rfl (Nat.le_of_ble_eq_true rfl) (by decide) (by decide) (sp_newWhole _ (o + 16) 8 (by rw [← hl2]; exact lk_new) (by decide)) ?_
  rintro _ w9 ⟨rfl, e9⟩
  rw [List.length_append, show ([.inr (9, [.null, .int 0])] : Wd).length = 1 from rfl, ← hl2] at e9
  obtain ⟨v2, hv2⟩ : ∃ w9 : Wd, w9 = w2 ++ [oW (w2.length + 1) 0, aL (max 1 8) (fun _ => 0)] := ⟨_, rfl⟩
  refine GP.weq v2 ((e9.trans two_new).trans hv2.symm) ?_
  have hHv2 : v2[o]? = some (.inr (2, [.ref (o + 1), .ref (o + 2), .null, .null, .null, .null, .int 0, .int 0])) := by rw [hv2]; exact lk_app hH2
  refine g_putF (pc := 35) [.ref (o + 1), .ref (o + 2), .ref (o + 16), .null, .null, .null, .int 0, .int 0] dX2_init_35 fk_X2_25 (fun _ _ _ h => by cases h; rfl) rfl hHv2 (Nat.le_of_ble_eq_true rfl) rfl rfl ?_
  obtain ⟨w3, hw3⟩ : ∃ w9 : Wd, w9 = (v2.set o (.inr (2, [.ref (o + 1), .ref (o + 2), .ref (o + 16), .null, .null, .null, .int 0, .int 0]))) := ⟨_, rfl⟩
  refine GP.weq w3 hw3.symm ?_
  have hl3 : w3.length = o + 18 := by rw [hw3, List.length_set, hv2, List.length_append]; show w2.length + 2 = _; omega
  have hE3 : EX (fun i => i = o) 17 200 w w3 := by rw [hw3]; exact EX.stp (by rw [hv2]; exact EX.le (k' := 17) (s' := 200) (EX.apd _ hE2) (by simp) (by simp [slW, slE])) hHv2 rfl (Or.inl rfl)
  have hH3 : w3[o]? = some (.inr (2, [.ref (o + 1), .ref (o + 2), .ref (o + 16), .null, .null, .null, .int 0, .int 0])) := by rw [hw3]; exact lk_eq hHv2
  have L3 : ∀ i c, i ≠ o → w2[i]? = some c → w3[i]? = some c := fun i c g h => by rw [hw3, hv2]; exact lk_ne (Ne.symm g) (lk_app h)
  have c3 : whC w3 (o + 16) 8 := ⟨0, fun _ => 0, by rw [hw3, hv2, ← hl2]; exact lk_ne (by omega) lk_1, by rw [hw3, hv2, ← hl2]; exact lk_ne (by omega) lk_2⟩
  refine g_aload_n (pc := 38) 0 dX2_init_38 rfl rfl ?_
  refine g_new (pc := 39) dX2_init_39 nk_X2_1 ?_
  refine GP.tr (o + 18) hl3 ?_
  refine g_dup (pc := 42) dX2_init_42 rfl ?_
  refine g_bipush (pc := 43) (v := nI 64) dX2_init_43 (by decide) ?_
  refine g_callI (pc := 45) [.int (nI 64)] dX2_init_45 ci_X2_22.1 ci_X2_22.2.1 ci_X2_22.2.2 rfl rfl (Nat.le_of_ble_eq_true rfl) (by decide) (by decide) (sp_newWhole _ (o + 18) 64 (by rw [← hl3]; exact lk_new) (by decide)) ?_
  rintro _ w9 ⟨rfl, e9⟩
  rw [List.length_append, show ([.inr (9, [.null, .int 0])] : Wd).length = 1 from rfl, ← hl3] at e9
  obtain ⟨v3, hv3⟩ : ∃ w9 : Wd, w9 = w3 ++ [oW (w3.length + 1) 0, aL (max 1 64) (fun _ => 0)] := ⟨_, rfl⟩
  refine GP.weq v3 ((e9.trans two_new).trans hv3.symm) ?_
  have hHv3 : v3[o]? = some (.inr (2, [.ref (o + 1), .ref (o + 2), .ref (o + 16), .null, .null, .null, .int 0, .int 0])) := by rw [hv3]; exact lk_app hH3
  refine g_putF (pc := 48) [.ref (o + 1), .ref (o + 2), .ref (o + 16), .ref (o + 18), .null, .null, .int 0, .int 0] dX2_init_48 fk_X2_29 (fun _ _ _ h => by cases h; rfl) rfl hHv3 (Nat.le_of_ble_eq_true rfl) rfl rfl ?_
  obtain ⟨w4, hw4⟩ : ∃ w9 : Wd, w9 = (v3.set o (.inr (2, [.ref (o + 1), .ref (o + 2), .ref (o + 16), .ref (o + 18), .null, .null, .int 0, .int 0]))) := ⟨_, rfl⟩
  refine GP.weq w4 hw4.symm ?_
  have hl4 : w4.length = o + 20 := by rw [hw4, List.length_set, hv3, List.length_append]; show w3.length + 2 = _; omega
  have hE4 : EX (fun i => i = o) 19 266 w w4 := by rw [hw4]; exact EX.stp (by rw [hv3]; exact EX.le (k' := 19) (s' := 266) (EX.apd _ hE3) (by simp) (by simp [slW, slE])) hHv3 rfl (Or.inl rfl)
  have hH4 : w4[o]? = some (.inr (2, [.ref (o + 1), .ref (o + 2), .ref (o + 16), .ref (o + 18), .null, .null, .int 0, .int 0])) := by rw [hw4]; exact lk_eq hHv3
  have L4 : ∀ i c, i ≠ o → w3[i]? = some c → w4[i]? = some c := fun i c g h => by rw [hw4, hv3]; exact lk_ne (Ne.symm g) (lk_app h)
  have c4 : whC w4 (o + 18) 64 := ⟨0, fun _ => 0, by rw [hw4, hv3, ← hl3]; exact lk_ne (by omega) lk_1, by rw [hw4, hv3, ← hl3]; exact lk_ne (by omega) lk_2⟩
  refine g_aload_n (pc := 51) 0 dX2_init_51 rfl rfl ?_
  refine g_new (pc := 52) dX2_init_52 nk_X2_1 ?_
  refine GP.tr (o + 20) hl4 ?_
  refine g_dup (pc := 55) dX2_init_55 rfl ?_
  refine g_sipush (pc := 56) (v := nI 128) dX2_init_56 (by decide) ?_
  refine g_callI (pc := 59) [.int (nI 128)] dX2_init_59 ci_X2_22.1 ci_X2_22.2.1 ci_X2_22.2.2 rfl rfl (Nat.le_of_ble_eq_true rfl) (by decide) (by decide) (sp_newWhole _ (o + 20) 128 (by rw [← hl4]; exact lk_new) (by decide)) ?_
  rintro _ w9 ⟨rfl, e9⟩
  rw [List.length_append, show ([.inr (9, [.null, .int 0])] : Wd).length = 1 from rfl, ← hl4] at e9
  obtain ⟨v4, hv4⟩ : ∃ w9 : Wd, w9 = w4 ++ [oW (w4.length + 1) 0, aL (max 1 128) (fun _ => 0)] := ⟨_, rfl⟩
  refine GP.weq v4 ((e9.trans two_new).trans hv4.symm) ?_
  have hHv4 : v4[o]? = some (.inr (2, [.ref (o + 1), .ref (o + 2), .ref (o + 16), .ref (o + 18), .null, .null, .int 0, .int 0])) := by rw [hv4]; exact lk_app hH4
  refine g_putF (pc := 62) [.ref (o + 1), .ref (o + 2), .ref (o + 16), .ref (o + 18), .ref (o + 20), .null, .int 0, .int 0] dX2_init_62 fk_X2_32 (fun _ _ _ h => by cases h; rfl) rfl hHv4 (Nat.le_of_ble_eq_true rfl) rfl rfl ?_
  obtain ⟨w5, hw5⟩ : ∃ w9 : Wd, w9 = (v4.set o (.inr (2, [.ref (o + 1), .ref (o + 2), .ref (o + 16), .ref (o + 18), .ref (o + 20), .null, .int 0, .int 0]))) := ⟨_, rfl⟩
  refine GP.weq w5 hw5.symm ?_
  have hl5 : w5.length = o + 22 := by rw [hw5, List.length_set, hv4, List.length_append]; show w4.length + 2 = _; omega
  have hE5 : EX (fun i => i = o) 21 396 w w5 := by rw [hw5]; exact EX.stp (by rw [hv4]; exact EX.le (k' := 21) (s' := 396) (EX.apd _ hE4) (by simp) (by simp [slW, slE])) hHv4 rfl (Or.inl rfl)
  have hH5 : w5[o]? = some (.inr (2, [.ref (o + 1), .ref (o + 2), .ref (o + 16), .ref (o + 18), .ref (o + 20), .null, .int 0, .int 0])) := by rw [hw5]; exact lk_eq hHv4
  have L5 : ∀ i c, i ≠ o → w4[i]? = some c → w5[i]? = some c := fun i c g h => by rw [hw5, hv4]; exact lk_ne (Ne.symm g) (lk_app h)
  have c5 : whC w5 (o + 20) 128 := ⟨0, fun _ => 0, by rw [hw5, hv4, ← hl4]; exact lk_ne (by omega) lk_1, by rw [hw5, hv4, ← hl4]; exact lk_ne (by omega) lk_2⟩
  refine g_aload_n (pc := 65) 0 dX2_init_65 rfl rfl ?_
  refine g_new (pc := 66) dX2_init_66 nk_X2_1 ?_
  refine GP.tr (o + 22) hl5 ?_
  refine g_dup (pc := 69) dX2_init_69 rfl ?_
  refine g_sipush (pc := 70) (v := nI 128) dX2_init_70 (by decide) ?_
  refine g_callI (pc := 73) [.int (nI 128)] dX2_init_73 ci_X2_22.1 ci_X2_22.2.1 ci_X2_22.2.2 rfl rfl (Nat.le_of_ble_eq_true rfl) (by decide) (by decide) (sp_newWhole _ (o + 22) 128 (by rw [← hl5]; exact lk_new) (by decide)) ?_
  rintro _ w9 ⟨rfl, e9⟩
  rw [List.length_append, show ([.inr (9, [.null, .int 0])] : Wd).length = 1 from rfl, ← hl5] at e9
  obtain ⟨v5, hv5⟩ : ∃ w9 : Wd, w9 = w5 ++ [oW (w5.length + 1) 0, aL (max 1 128) (fun _ => 0)] := ⟨_, rfl⟩
  refine GP.weq v5 ((e9.trans two_new).trans hv5.symm) ?_
  have hHv5 : v5[o]? = some (.inr (2, [.ref (o + 1), .ref (o + 2), .ref (o + 16), .ref (o + 18), .ref (o + 20), .null, .int 0, .int 0])) := by rw [hv5]; exact lk_app hH5
  refine g_putF (pc := 76) [.ref (o + 1), .ref (o + 2), .ref (o + 16), .ref (o + 18), .ref (o + 20), .ref (o + 22), .int 0, .int 0] dX2_init_76 fk_X2_35 (fun _ _ _ h => by cases h; rfl) rfl hHv5 (Nat.le_of_ble_eq_true rfl) rfl rfl ?_
  obtain ⟨w6, hw6⟩ : ∃ w9 : Wd, w9 = (v5.set o (.inr (2, [.ref (o + 1), .ref (o + 2), .ref (o + 16), .ref (o + 18), .ref (o + 20), .ref (o + 22), .int 0, .int 0]))) := ⟨_, rfl⟩
  refine GP.weq w6 hw6.symm ?_
  have hl6 : w6.length = o + 24 := by rw [hw6, List.length_set, hv5, List.length_append]; show w5.length + 2 = _; omega
  have hE6 : EX (fun i => i = o) 23 526 w w6 := by rw [hw6]; exact EX.stp (by rw [hv5]; exact EX.le (k' := 23) (s' := 526) (EX.apd _ hE5) (by simp) (by simp [slW, slE])) hHv5 rfl (Or.inl rfl)
  have hH6 : w6[o]? = some (.inr (2, [.ref (o + 1), .ref (o + 2), .ref (o + 16), .ref (o + 18), .ref (o + 20), .ref (o + 22), .int 0, .int 0])) := by rw [hw6]; exact lk_eq hHv5
  have L6 : ∀ i c, i ≠ o → w5[i]? = some c → w6[i]? = some c := fun i c g h => by rw [hw6, hv5]; exact lk_ne (Ne.symm g) (lk_app h)
  have c6 : whC w6 (o + 22) 128 := ⟨0, fun _ => 0, by rw [hw6, hv5, ← hl5]; exact lk_ne (by omega) lk_1, by rw [hw6, hv5, ← hl5]; exact lk_ne (by omega) lk_2⟩
  refine g_aload_n (pc := 79) 0 dX2_init_79 rfl rfl ?_
  refine g_iconst (pc := 80) (v := nI 0) dX2_init_80 (by decide) ?_
  refine g_put (pc := 81) [.ref (o + 1), .ref (o + 2), .ref (o + 16), .ref (o + 18), .ref (o + 20), .ref (o + 22), .int (nI 0), .int 0] dX2_init_81 fk_X2_38 hH6 (Nat.le_of_ble_eq_true rfl) rfl rfl ?_
  refine g_aload_n (pc := 84) 0 dX2_init_84 rfl rfl ?_
  refine g_iconst (pc := 85) (v := nI 0) dX2_init_85 (by decide) ?_
  refine g_put (pc := 86) [.ref (o + 1), .ref (o + 2), .ref (o + 16), .ref (o + 18), .ref (o + 20), .ref (o + 22), .int (nI 0), .int (nI 0)] dX2_init_86 fk_X2_42 (lk_eq hH6) (Nat.le_of_ble_eq_true rfl) rfl rfl ?_
  refine GP.weq (w6.set o (.inr (2, [.ref (o + 1), .ref (o + 2), .ref (o + 16), .ref (o + 18), .ref (o + 20), .ref (o + 22), .int (nI 0), .int (nI 0)]))) (by rw [List.set_set]) ?_
  obtain ⟨w7, hw7⟩ : ∃ w9 : Wd, w9 = (w6.set o (.inr (2, [.ref (o + 1), .ref (o + 2), .ref (o + 16), .ref (o + 18), .ref (o + 20), .ref (o + 22), .int (nI 0), .int (nI 0)]))) := ⟨_, rfl⟩
  refine GP.weq w7 hw7.symm ?_
  have hl7 : w7.length = o + 24 := by rw [hw7, List.length_set]; exact hl6
  have hE7 : EX (fun i => i = o) 23 526 w w7 := by rw [hw7]; exact EX.stp hE6 hH6 rfl (Or.inl rfl)
  have hH7 : w7[o]? = some (oG o (nI 0) (nI 0)) := by rw [hw7]; exact lk_eq hH6
  have L7 : ∀ i c, i ≠ o → w6[i]? = some c → w7[i]? = some c := fun i c g h => by rw [hw7]; exact lk_ne (Ne.symm g) h
  refine g_new (pc := 89) dX2_init_89 nk_X2_1 ?_
  refine GP.tr (o + 24) hl7 ?_
  refine g_dup (pc := 92) dX2_init_92 rfl ?_
  refine g_iconst (pc := 93) (v := nI 1) dX2_init_93 (by decide) ?_
  refine g_callI (pc := 94) [.int (nI 1)] dX2_init_94 ci_X2_22.1 ci_X2_22.2.1 ci_X2_22.2.2 rfl rfl (Nat.le_of_ble_eq_true rfl) (by decide) (by decide) (sp_newWhole _ (o + 24) 1 (by rw [← hl7]; exact lk_new) (by decide)) ?_
  rintro _ w9 ⟨rfl, e9⟩
  rw [List.length_append, show ([.inr (9, [.null, .int 0])] : Wd).length = 1 from rfl, ← hl7] at e9
  obtain ⟨w8, hw8⟩ : ∃ w9 : Wd, w9 = w7 ++ [oW (w7.length + 1) 0, aL (max 1 1) (fun _ => 0)] := ⟨_, rfl⟩
  refine GP.weq w8 ((e9.trans two_new).trans hw8.symm) ?_
  have hl8 : w8.length = o + 26 := by rw [hw8, List.length_append]; show w7.length + 2 = _; omega
  have hE8 : EX (fun i => i = o) 25 529 w w8 := by rw [hw8]; exact EX.le (k' := 25) (s' := 529) (EX.apd _ hE7) (by simp) (by simp [slW, slE])
  have L8 : ∀ i c, w7[i]? = some c → w8[i]? = some c := fun i c h => by rw [hw8]; exact lk_app h
  have c8 : whC w8 (o + 24) 1 := ⟨0, fun _ => 0, by rw [hw8, ← hl7]; exact lk_1, by rw [hw8, ← hl7]; exact lk_2⟩
  have n8 : w8[o + 24]? = some (oW (o + 24 + 1) 0) := by rw [hw8, ← hl7]; exact lk_1
  refine g_astore_n (pc := 97) [(1, .ref (o + 24)), (0, .ref o)] dX2_init_97 rfl (by decide) rfl ?_
  refine g_aload_n (pc := 98) 0 dX2_init_98 rfl rfl ?_
  refine g_sipush (pc := 99) (v := nI 1000) dX2_init_99 (by decide) ?_
  refine g_callV (pc := 102) [.int (nI 1000)] dX2_init_102 cv_X2_45.1 cv_X2_45.2.1 cv_X2_45.2.2.1 cv_X2_45.2.2.2 n8 rfl rfl (Nat.le_of_ble_eq_true rfl) (by decide) (by decide) (wh_small _ (x := 1000) c8 (by decide) (by decide) (by decide)) ?_
  rintro _ wa ⟨rfl, hV, hF⟩
  have La : ∀ i c, i < o + 24 → w8[i]? = some c → wa[i]? = some c := fun i c g h => hF.lk (by unfold wS; omega) h
  have t8 : wa[o + 1]? = some (aR 6 8 (fun _ => none)) := La _ _ (by omega) (L8 _ _ (L7 _ _ (by omega) (L6 _ _ (by omega) (L5 _ _ (by omega) (L4 _ _ (by omega) (L3 _ _ (by omega) (L2 _ _ (by omega) a1)))))))
  have hV9 := hV
  obtain ⟨n3, ds3, v3, -⟩ := hV9
  refine g_aload_n (pc := 105) 1 dX2_init_105 rfl rfl ?_
  refine g_get (pc := 106) dX2_init_106 fk_X2_11 (La _ _ (by omega) (L8 _ _ hH7)) rfl ?_
  refine g_iconst (pc := 109) (v := nI 0) dX2_init_109 (by decide) ?_
  refine g_aload_n (pc := 110) 0 dX2_init_110 rfl rfl ?_
  refine g_aast (pc := 111) 0 dX2_init_111 t8 (by decide) (IXn (by omega) (by omega)) v3 rfl ?_
  refine g_iconst (pc := 112) (v := nI 1) dX2_init_112 (by decide) ?_
  refine g_istore_n (pc := 113) [(2, .int (nI 1)), (1, .ref (o + 24)), (0, .ref o)] dX2_init_113 rfl (by decide) rfl ?_
  obtain ⟨wb, hwb⟩ : ∃ w9 : Wd, w9 = wa.set (o + 1) (aR 6 8 (va_up (fun _ => none) 0 (some (o + 24)))) := ⟨_, rfl⟩
  refine GP.weq wb hwb.symm ?_
  have Lab : ∀ i c, i ≠ o + 1 → wa[i]? = some c → wb[i]? = some c := fun i c g h => by rw [hwb]; exact lk_ne (Ne.symm g) h
  have Lb : ∀ i c, i ≠ o → i ≠ o + 1 → i < o + 24 → w6[i]? = some c → wb[i]? = some c := fun i c g1 g2 g3 h => Lab i c g2 (La _ _ g3 (L8 _ _ (L7 _ _ g1 h)))
  have Lc : ∀ i c, o + 1 < i → i < o + 16 → w2[i]? = some c → wb[i]? = some c := fun i c g1 g2 h => Lb i c (by omega) (by omega) (by omega) (L6 _ _ (by omega) (L5 _ _ (by omega) (L4 _ _ (by omega) (L3 _ _ (by omega) h))))
  have hEa : EX (fun i => i = o) 25 529 w wa := (hE8.trn (EX.of hF (fun i hi => hi)) (fun i hi => Or.inr (by unfold wS at hi; omega))).le (by omega) (by omega)
  have hEb : EX (fun i => i = o) (25 + 2 * 0) (545 + 48 * 0) w wb := by rw [hwb]; exact EX.stp (hEa.le (by omega) (by omega)) t8 rfl (Or.inr (by omega))
  have K3 : ∀ i N, o + 1 < i → i + 1 < o + 24 → whC w6 i N → whC wb i N := fun i N a b g => wh_keep g (fun c h => Lb _ _ (by omega) (by omega) (by omega) h) (fun c h => Lb _ _ (by omega) (by omega) (by omega) h)
  have K6 : ∀ i N, o + 1 < i → whC w5 i N → whC w6 i N := fun i N a g => wh_keep g (fun c h => L6 _ _ (by omega) h) (fun c h => L6 _ _ (by omega) h)
  have K5 : ∀ i N, o + 1 < i → whC w4 i N → whC w5 i N := fun i N a g => wh_keep g (fun c h => L5 _ _ (by omega) h) (fun c h => L5 _ _ (by omega) h)
  have K4 : ∀ i N, o + 1 < i → whC w3 i N → whC w4 i N := fun i N a g => wh_keep g (fun c h => L4 _ _ (by omega) h) (fun c h => L4 _ _ (by omega) h)
  refine GP.lsub _ (by simp) (gt_loop ho 7 0 wb (by omega) ⟨by rw [hwb, List.length_set, hF.1]; exact hl8, Lab _ _ (by omega) (La _ _ (by omega) (L8 _ _ hH7)), ⟨_, by rw [hwb]; exact lk_eq t8, fun s hs => by rw [show s = 0 by omega]; exact vaup_s⟩, fun s hs => ?_, ⟨_, Lc _ _ (by omega) (by omega) y2, fun n hn => ?_⟩, fun m hm => ⟨_, Lc _ _ (by omega) (by omega) (r2 m hm), fun i hi => by rw [if_neg (by omega)]⟩, K3 _ _ (by omega) (by omega) (K6 _ _ (by omega) (K5 _ _ (by omega) (K4 _ _ (by omega) c3))), K3 _ _ (by omega) (by omega) (K6 _ _ (by omega) (K5 _ _ (by omega) c4)), K3 _ _ (by omega) (by omega) (K6 _ _ (by omega) c5), K3 _ _ (by omega) (by omega) c6⟩ hEb)
  · rw [show s = 0 by omega]
    exact ⟨1, by omega, wh_keepV hV (fun c h => Lab _ _ (by omega) h) (fun c h => Lab _ _ (by omega) h)⟩
  · show (if n < 13 then some (w1.length + 1 + n) else none) = _
    rw [if_pos hn, hl1]
