/-! Ladder: climb, climbRow -/
theorem topL_congr {a b : Nat → Int} {n k T : Nat} (h : ∀ t, t ≤ n → a t = b t) (g : topL a n k T) : topL b n k T := by
  have hs : ∀ t, sqd (lvs a n t) n ↔ sqd (lvs b n t) n := fun t => sqd_congr (lvs_congr h t)
  exact ⟨g.1, fun t ht => (hs t).mp (g.2.1 t ht), fun ht g9 => g.2.2 ht ((hs T).mpr g9)⟩
theorem ladC_first {w w2 : Wd} {lo O n tp n' : Nat} {R : Nat → Nat → Int64} {g : Nat → Int64} (hL : ladC w lo O n tp R) (hne : lo < O ∨ O + 7 < lo) (hw : w2 = (w.set (O + 1 + 0) (aL 13 g)).set lo (.inr (4, [.ref O, .int (nI n'), .int (nI tp)]))) : ladC w2 lo O n' tp (fun t => if t = 0 then g else R t) ∧ FR (ladS lo O) w w2 := by
  obtain ⟨hlo, ⟨rf, hO, hrf⟩, hrows⟩ := hL
  have hr0 := hrows 0 (by omega)
  subst hw
  refine ⟨⟨lk_eq (lk_ne (by omega) hlo), ⟨rf, lk_ne (by omega) (lk_ne (by omega) hO), hrf⟩, fun t ht => ?_⟩, (show FR (ladS lo O) w (w.set (O + 1 + 0) (aL 13 g)) from FR.set hr0 rfl (Or.inr ⟨by omega, by omega⟩)).tr (FR.set (lk_ne (by omega) hlo) rfl (Or.inl rfl))⟩
  show _ = some (aL 13 (if t = 0 then g else R t))
  refine lk_ne (by omega) ?_
  by_cases ht0 : t = 0
  · subst ht0; rw [if_pos rfl]; exact lk_eq hr0
  · rw [if_neg ht0]; exact lk_ne (by omega) (hrows t ht)
/-- LEVELS 0 .. T of F lie in the ladder -/
def lvF (R : Nat → Nat → Int64) (F : Nat → Int) (n T : Nat) : Prop := ∀ t, t ≤ T → ∀ j, j ≤ n → (R t j).toInt = lvs F n t j
theorem lvF_of {R : Nat → Nat → Int64} {F : Nat → Int} {n T : Nat} (h : lvR R n T) (h0 : ∀ j, j ≤ n → (R 0 j).toInt = F j) : lvF R F n T := fun t ht j hj => by rw [h t ht j hj]; exact lvs_congr h0 t j hj
abbrev BX4_climb (w0 : Wd) (Post : Option Value → Wd → Prop) (w : Wd) (pc : Nat) (ls : List (Nat × Value)) (st : List Value) : Prop := GP "climb" RX4 cX4_climb 3 (some .int) 4 156 none w0 Post w pc ls st
abbrev EX4_climb (As : List Value) (w : Wd) (Post : Option Value → Wd → Prop) : Prop := EP yX4_climb cX4_climb 3 (some .int) 4 As w Post
theorem sp_climb (w : Wd) {lo O n0 n k tp o b : Nat} {R : Nat → Nat → Int64} {f : Nat → Int32} (hL : ladC w lo O n0 tp R) (hn : n ≤ 12) (hk : k ≤ 6) (hne : lo < O ∨ O + 7 < lo) (ho : w[o]? = some (oP n b)) (hb : w[b]? = some (aI 0 (n + 1) f)) (ho2 : o ≤ O ∨ O + 7 < o) (hb2 : b ≤ O ∨ O + 7 < b) : EX4_climb [.ref lo, .ref o, .int (nI k)] w (fun r w' => ∃ T R', r = some (.int (nI T)) ∧ topL (toJ f) n k T ∧ lvF R' (toJ f) n T ∧ ladC w' lo O n T R' ∧ FR (ladS lo O) w w') := by
  have hL' := hL
  obtain ⟨hlo, ⟨rf, hO, hrf⟩, hrows⟩ := hL'
  have hr0 := hrows 0 (by omega)
  refine EP.of (plainFor_of_name (by decide)) [(0, .ref lo), (1, .ref o), (2, .int (nI k))] rfl (Nat.le_of_ble_eq_true rfl) (fun r wf h => by obtain ⟨T, R', rfl, -⟩ := h; trivial) ?_
  show BX4_climb w _ w 0 [(0, .ref lo), (1, .ref o), (2, .int (nI k))] []
  refine g_aload_n (pc := 0) 1 dX4_climb_0 rfl rfl ?_
  refine g_aload_n (pc := 1) 0 dX4_climb_1 rfl rfl ?_
  refine g_get (pc := 2) dX4_climb_2 fk_X4_11 hlo rfl ?_
  refine g_iconst (pc := 5) (v := nI 0) dX4_climb_5 (by decide) ?_
  refine g_aald (pc := 6) (v := .ref (O + 1 + 0)) 0 dX4_climb_6 hO (by decide) (IXn (by omega) (by omega)) (rf_some (w := w) hrf (by omega)) ?_
  refine g_callV (pc := 7) [.ref (O + 1 + 0)] dX4_climb_7 cv_X4_23.1 cv_X4_23.2.1 cv_X4_23.2.2.1 cv_X4_23.2.2.2 ho rfl rfl (Nat.le_of_ble_eq_true rfl) (by decide) (by decide) (sp_writeTo _ ho hb hr0 (by omega) (by omega) (by decide) (by omega)) ?_
  rintro _ w9 ⟨rfl, g', hg, e9⟩
  refine GP.weq _ e9 ?_
  refine g_aload_n (pc := 10) 0 dX4_climb_10 rfl rfl ?_
  refine g_aload_n (pc := 11) 1 dX4_climb_11 rfl rfl ?_
  refine g_get (pc := 12) dX4_climb_12 fk_X4_29 (lk_ne (by omega) ho) rfl ?_
  refine g_put (pc := 15) [.ref O, .int (nI n), .int (nI tp)] dX4_climb_15 fk_X4_16 (lk_ne (by omega) hlo) (Nat.le_of_ble_eq_true rfl) rfl rfl ?_
  refine g_aload_n (pc := 18) 0 dX4_climb_18 rfl rfl ?_
  refine g_iload_n (pc := 19) 2 dX4_climb_19 rfl rfl ?_
  obtain ⟨w2, hw2⟩ : ∃ w2 : Wd, w2 = ((w.set (O + 1 + 0) (aL 13 g')).set lo (.inr (4, [.ref O, .int (nI n), .int (nI tp)]))) := ⟨_, rfl⟩
  refine GP.weq w2 hw2.symm ?_
  obtain ⟨hL2, hF2⟩ := ladC_first hL hne hw2
  refine g_callV (pc := 20) [.int (nI k)] dX4_climb_20 cv_X4_30.1 cv_X4_30.2.1 cv_X4_30.2.2.1 cv_X4_30.2.2.2 hL2.1 rfl rfl (Nat.le_of_ble_eq_true rfl) (by decide) (by decide) (sp_climbFromFirst _ hL2 hn hk hne) ?_
  rintro _ w9 ⟨T, R', rfl, hT, hR0, hlv, hL9, hF9⟩
  have hz : ∀ j, j ≤ n → toI (if 0 = 0 then g' else R 0) j = toJ f j := fun j hj => by rw [if_pos rfl]; show (g' j).toInt = _; rw [hg j (by omega), if_pos hj]; rfl
  exact g_iret (pc := 23) dX4_climb_23 ⟨T, R', rfl, topL_congr hz hT, lvF_of hlv (fun j hj => by rw [hR0]; exact hz j hj), hL9, hF2.tr hF9⟩
abbrev BX4_climbRow (w0 : Wd) (Post : Option Value → Wd → Prop) (w : Wd) (pc : Nat) (ls : List (Nat × Value)) (st : List Value) : Prop := GP "climbRow" RX4 cX4_climbRow 4 (some .int) 4 156 none w0 Post w pc ls st
abbrev EX4_climbRow (As : List Value) (w : Wd) (Post : Option Value → Wd → Prop) : Prop := EP yX4_climbRow cX4_climbRow 4 (some .int) 4 As w Post
theorem sp_climbRow (w : Wd) {lo O n0 n k tp q K : Nat} {R : Nat → Nat → Int64} {g : Nat → Int64} (hL : ladC w lo O n0 tp R) (hn : n ≤ 12) (hk : k ≤ 6) (hne : lo < O ∨ O + 7 < lo) (hq : w[q]? = some (aL K g)) (hnK : n < K) (hK : K ≤ 100) (hqlo : q ≠ lo) (hq2 : q ≤ O ∨ O + 7 < q) : EX4_climbRow [.ref lo, .ref q, .int (nI n), .int (nI k)] w (fun r w' => ∃ T R', r = some (.int (nI T)) ∧ topL (toI g) n k T ∧ lvF R' (toI g) n T ∧ ladC w' lo O n T R' ∧ FR (ladS lo O) w w') := by
  have hL' := hL
  obtain ⟨hlo, ⟨rf, hO, hrf⟩, hrows⟩ := hL'
  have hr0 := hrows 0 (by omega)
  refine EP.of (plainFor_of_name (by decide)) [(0, .ref lo), (1, .ref q), (2, .int (nI n)), (3, .int (nI k))] rfl (Nat.le_of_ble_eq_true rfl) (fun r wf h => by obtain ⟨T, R', rfl, -⟩ := h; trivial) ?_
  show BX4_climbRow w _ w 0 [(0, .ref lo), (1, .ref q), (2, .int (nI n)), (3, .int (nI k))] []
  refine g_aload_n (pc := 0) 0 dX4_climbRow_0 rfl rfl ?_
  refine g_iconst (pc := 1) (v := nI 0) dX4_climbRow_1 (by decide) ?_
  refine g_iload_n (pc := 2) 2 dX4_climbRow_2 rfl rfl ?_
  refine g_aload_n (pc := 3) 1 dX4_climbRow_3 rfl rfl ?_
  refine g_alen (pc := 4) dX4_climbRow_4 hq (by decide) ?_
  refine g_bipush (pc := 5) (v := nI 13) dX4_climbRow_5 (by decide) ?_
  refine g_callS (pc := 7) [.int (nI K), .int (nI 13)] dX4_climbRow_7 cs_X4_34.1 cs_X4_34.2 rfl rfl (Nat.le_of_ble_eq_true rfl) (by decide) (by decide) (sp_minI _ (nI K) (nI 13)) ?_
  rintro _ w9 ⟨rfl, e9⟩
  refine GP.weq _ e9 ?_
  refine GP.ti (nI (min K 13)) (minN (by omega) (by omega)) ?_
  refine g_iconst (pc := 10) (v := nI 1) dX4_climbRow_10 (by decide) ?_
  refine n_isub (pc := 11) dX4_climbRow_11 (by omega) ?_
  refine g_callS (pc := 12) [.int (nI n), .int (nI ((min K 13) - 1))] dX4_climbRow_12 cs_X4_34.1 cs_X4_34.2 rfl rfl (Nat.le_of_ble_eq_true rfl) (by decide) (by decide) (sp_minI _ (nI n) (nI (min K 13 - 1))) ?_
  rintro _ w9 ⟨rfl, e9⟩
  refine GP.weq _ e9 ?_
  refine GP.ti (nI n) (by rw [minN (by omega) (by omega)]; congr 1; omega) ?_
  refine g_callS (pc := 15) [.int (nI 0), .int (nI n)] dX4_climbRow_15 cs_X4_40.1 cs_X4_40.2 rfl rfl (Nat.le_of_ble_eq_true rfl) (by decide) (by decide) (sp_maxI _ (nI 0) (nI n)) ?_
  rintro _ w9 ⟨rfl, e9⟩
  refine GP.weq _ e9 ?_
  refine GP.ti (nI n) (by rw [maxN (by omega) (by omega), Nat.zero_max]) ?_
  refine g_put (pc := 18) [.ref O, .int (nI n), .int (nI tp)] dX4_climbRow_18 fk_X4_16 hlo (Nat.le_of_ble_eq_true rfl) rfl rfl ?_
  refine g_aload_n (pc := 21) 1 dX4_climbRow_21 rfl rfl ?_
  refine g_iconst (pc := 22) (v := nI 0) dX4_climbRow_22 (by decide) ?_
  refine g_aload_n (pc := 23) 0 dX4_climbRow_23 rfl rfl ?_
  refine g_get (pc := 24) dX4_climbRow_24 fk_X4_11 (lk_eq hlo) rfl ?_
  refine g_iconst (pc := 27) (v := nI 0) dX4_climbRow_27 (by decide) ?_
  refine g_aald (pc := 28) (v := .ref (O + 1 + 0)) 0 dX4_climbRow_28 (lk_ne (by omega) hO) (by decide) (IXn (by omega) (by omega)) (rf_some (w := w) hrf (by omega)) ?_
  refine g_iconst (pc := 29) (v := nI 0) dX4_climbRow_29 (by decide) ?_
  refine g_aload_n (pc := 30) 0 dX4_climbRow_30 rfl rfl ?_
  refine g_get (pc := 31) dX4_climbRow_31 fk_X4_16 (lk_eq hlo) rfl ?_
  refine g_iconst (pc := 34) (v := nI 1) dX4_climbRow_34 (by decide) ?_
  refine n_iadd (pc := 35) dX4_climbRow_35 ?_
  refine g_copyL (pc := 36) (sp := 0) (dp := 0) (n := n + 1) dX4_climbRow_36 nl_X4_43 tw_652 tw_651 tw_85 (lk_ne (by omega) hq) (lk_ne (by omega) hr0) (by omega) (by omega) (by omega) (by decide) (Nat.le_of_ble_eq_true rfl) (by decide) (by decide) ?_
  refine GP.weq ((w.set (O + 1 + 0) (aL 13 (va_cpy g (R 0) 0 0 (n + 1)))).set lo (.inr (4, [.ref O, .int (nI n), .int (nI tp)]))) (by rw [List.set_comm _ _ (by omega)]) ?_
  obtain ⟨w2, hw2⟩ : ∃ w2 : Wd, w2 = (w.set (O + 1 + 0) (aL 13 (va_cpy g (R 0) 0 0 (n + 1)))).set lo (.inr (4, [.ref O, .int (nI n), .int (nI tp)])) := ⟨_, rfl⟩
  refine GP.weq w2 hw2.symm ?_
  obtain ⟨hL2, hF2⟩ := ladC_first hL hne hw2
  refine g_aload_n (pc := 39) 0 dX4_climbRow_39 rfl rfl ?_
  refine g_iload_n (pc := 40) 3 dX4_climbRow_40 rfl rfl ?_
  refine g_callV (pc := 41) [.int (nI k)] dX4_climbRow_41 cv_X4_30.1 cv_X4_30.2.1 cv_X4_30.2.2.1 cv_X4_30.2.2.2 hL2.1 rfl rfl (Nat.le_of_ble_eq_true rfl) (by decide) (by decide) (sp_climbFromFirst _ hL2 hn hk hne) ?_
  rintro _ w9 ⟨T, R', rfl, hT, hR0, hlv, hL9, hF9⟩
  have hz : ∀ j, j ≤ n → toI (if 0 = 0 then va_cpy g (R 0) 0 0 (n + 1) else R 0) j = toI g j := fun j hj => by rw [if_pos rfl]; show (va_cpy g (R 0) 0 0 (n + 1) j).toInt = _; simp only [va_cpy]; rw [if_pos (by omega)]; simp [toI]
  exact g_iret (pc := 44) dX4_climbRow_44 ⟨T, R', rfl, topL_congr hz hT, lvF_of hlv (fun j hj => by rw [hR0]; exact hz j hj), hL9, hF2.tr hF9⟩
