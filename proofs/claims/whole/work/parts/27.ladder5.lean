/-! what a call leaves as it was; LEVELS -/
def FR (S : Nat → Prop) (w w' : Wd) : Prop := w'.length = w.length ∧ slW w' = slW w ∧ ∀ i, ¬ S i → w'[i]? = w[i]?
theorem FR.rf {S : Nat → Prop} {w : Wd} : FR S w w := ⟨rfl, rfl, fun _ _ => rfl⟩
theorem FR.tr {S : Nat → Prop} {w w1 w2 : Wd} (h1 : FR S w w1) (h2 : FR S w1 w2) : FR S w w2 := ⟨h2.1.trans h1.1, h2.2.1.trans h1.2.1, fun i hi => (h2.2.2 i hi).trans (h1.2.2 i hi)⟩
theorem FR.mono {S S' : Nat → Prop} {w w' : Wd} (h : FR S w w') (hs : ∀ i, S i → S' i) : FR S' w w' := ⟨h.1, h.2.1, fun i hi => h.2.2 i (fun g => hi (hs i g))⟩
theorem FR.set {S : Nat → Prop} {w : Wd} {o : Nat} {c c' : Ce} (h : w[o]? = some c) (hs : slE c' = slE c) (ho : S o) : FR S w (w.set o c') := ⟨by simp, slW_set h hs, fun i hi => List.getElem?_set_ne (fun (e : o = i) => hi (by rw [← e]; exact ho))⟩
theorem FR.lk {S : Nat → Prop} {w w' : Wd} {i : Nat} {c : Ce} (h : FR S w w') (hi : ¬ S i) (hc : w[i]? = some c) : w'[i]? = some c := (h.2.2 i hi).trans hc
theorem grt_congr {a b : Nat → Int} {n j i : Nat} (h : ∀ t, t ≤ n → a t = b t) (hi : i ≤ n) (hl : 2 * j - i ≤ n) : grt a n j i = grt b n j i := by
  unfold grt
  rw [h i hi, h _ hl]
theorem grp_congr {a b : Nat → Int} {n j : Nat} (hj : j ≤ n) (h : ∀ t, t ≤ n → a t = b t) : ∀ c, c ≤ gcnt n j → grp a n j c = grp b n j c
  | 0, _ => rfl
  | c + 1, hc => by
    have hcn : gcnt n j = min n (2 * j) + 1 - (2 * j - n) := rfl
    show grp a n j c + _ = grp b n j c + _
    rw [grp_congr hj h c (by omega), grt_congr h (by omega) (by omega)]
theorem gco_congr {a b : Nat → Int} {n j : Nat} (hj : j ≤ n) (h : ∀ t, t ≤ n → a t = b t) : gco a n j = gco b n j := grp_congr hj h _ (Nat.le_refl _)
theorem gfit_congr {a b : Nat → Int} {n j : Nat} (hj : j ≤ n) (h : ∀ t, t ≤ n → a t = b t) : gfit a n j → gfit b n j := by
  intro hg c hc
  have hcn : gcnt n j = min n (2 * j) + 1 - (2 * j - n) := rfl
  have := hg c hc
  rw [h _ (by omega), h (2 * j - (2 * j - n + c)) (by omega), grp_congr hj h (c + 1) (by omega)] at this
  exact this
theorem sqd_congr {a b : Nat → Int} {n : Nat} (h : ∀ t, t ≤ n → a t = b t) : sqd a n ↔ sqd b n := ⟨fun g j hj => gfit_congr hj h (g j hj), fun g j hj => gfit_congr hj (fun t ht => (h t ht).symm) (g j hj)⟩
/-- LEVEL k -/
def lvs (a : Nat → Int) (n : Nat) : Nat → Nat → Int
  | 0 => a
  | k + 1 => gco (lvs a n k) n
/-- T is the greatest LEVEL up to k that is not BEYOND -/
def topL (a : Nat → Int) (n k T : Nat) : Prop := T ≤ k ∧ (∀ t, t < T → sqd (lvs a n t) n) ∧ (T < k → ¬ sqd (lvs a n T) n)
theorem topL_u {a : Nat → Int} {n k T T' : Nat} (h : topL a n k T) (h' : topL a n k T') : T = T' := by
  rcases Nat.lt_trichotomy T T' with g | g | g
  · exact absurd (h'.2.1 T g) (h.2.2 (Nat.lt_of_lt_of_le g h'.1))
  · exact g
  · exact absurd (h.2.1 T' g) (h'.2.2 (Nat.lt_of_lt_of_le g h.1))
theorem lvs_congr {a b : Nat → Int} {n : Nat} (h : ∀ t, t ≤ n → a t = b t) : ∀ k j, j ≤ n → lvs a n k j = lvs b n k j
  | 0, j, hj => h j hj
  | k + 1, j, hj => gco_congr hj (fun t ht => lvs_congr h k t ht)
/-- the ladder's cells: the object lo, its outer row O, seven rows behind that -/
def ladC (w : Wd) (lo O n tp : Nat) (R : Nat → Nat → Int64) : Prop := w[lo]? = some (.inr (4, [.ref O, .int (nI n), .int (nI tp)])) ∧ (∃ rf, w[O]? = some (aR 7 7 rf) ∧ ∀ t, t < 7 → rf t = some (O + 1 + t)) ∧ ∀ t, t < 7 → w[O + 1 + t]? = some (aL 13 (R t))
abbrev ladS (lo O : Nat) : Nat → Prop := fun i => i = lo ∨ (O < i ∧ i ≤ O + 7)
/-- rows that hold LEVELS 0 .. T of what row 0 holds -/
def lvR (R : Nat → Nat → Int64) (n T : Nat) : Prop := ∀ t, t ≤ T → ∀ j, j ≤ n → (R t j).toInt = lvs (toI (R 0)) n t j
theorem rf_some {w : Wd} {O t : Nat} {rf : Nat → Option Nat} (h : ∀ t, t < 7 → rf t = some (O + 1 + t)) (ht : t < 7) : rfV (rf t) = .ref (O + 1 + t) := by rw [h t ht]; rfl
abbrev BX4_climbFromFirst (w0 : Wd) (Post : Option Value → Wd → Prop) (w : Wd) (pc : Nat) (ls : List (Nat × Value)) (st : List Value) : Prop := GP "climbFromFirst" RX4 cX4_climbFromFirst 2 (some .int) 3 117 none w0 Post w pc ls st
abbrev EX4_climbFromFirst (As : List Value) (w : Wd) (Post : Option Value → Wd → Prop) : Prop := EP yX4_climbFromFirst cX4_climbFromFirst 2 (some .int) 3 As w Post
theorem cl_loop {w0 w : Wd} {lo O n k : Nat} {R : Nat → Nat → Int64} (hn : n ≤ 12) (hk : k ≤ 6) (hne : lo < O ∨ O + 7 < lo) : ∀ (z tp : Nat) (w1 : Wd) (R1 : Nat → Nat → Int64), k = tp + z → R1 0 = R 0 → (∀ t, t < tp → sqd (lvs (toI (R 0)) n t) n) → lvR R1 n tp → ladC w1 lo O n tp R1 → FR (ladS lo O) w w1 → BX4_climbFromFirst w0 (fun r w' => ∃ T R', r = some (.int (nI T)) ∧ topL (toI (R 0)) n k T ∧ R' 0 = R 0 ∧ lvR R' n T ∧ ladC w' lo O n T R' ∧ FR (ladS lo O) w w') w1 5 [(0, .ref lo), (1, .int (nI k))] [] := by
  intro z
  induction z with
  | zero =>
    intro tp w1 R1 hz hR0 hsq hlv hL hF
    have hL' := hL
    obtain ⟨hlo, ⟨rf, hO, hrf⟩, hrows⟩ := hL'
    refine g_aload_n (pc := 5) 0 dX4_climbFromFirst_5 rfl rfl ?_
    refine g_get (pc := 6) dX4_climbFromFirst_6 fk_X4_20 hlo rfl ?_
    refine g_iload_n (pc := 9) 1 dX4_climbFromFirst_9 rfl rfl ?_
    refine n_icmp_ge (pc := 10) 65 dX4_climbFromFirst_10 (by decide) (by omega) (by omega) (fun hz1 => ?_) (fun hz1 => ?_)
    · refine g_aload_n (pc := 65) 0 dX4_climbFromFirst_65 rfl rfl ?_
      refine g_get (pc := 66) dX4_climbFromFirst_66 fk_X4_20 hlo rfl ?_
      exact g_iret (pc := 69) dX4_climbFromFirst_69 ⟨tp, R1, rfl, ⟨by omega, hsq, fun g => absurd g (by omega)⟩, hR0, hlv, hL, hF⟩
    · exact absurd hz1 (by omega)
  | succ z ih =>
    intro tp w1 R1 hz hR0 hsq hlv hL hF
    have hL' := hL
    obtain ⟨hlo, ⟨rf, hO, hrf⟩, hrows⟩ := hL'
    refine g_aload_n (pc := 5) 0 dX4_climbFromFirst_5 rfl rfl ?_
    refine g_get (pc := 6) dX4_climbFromFirst_6 fk_X4_20 hlo rfl ?_
    refine g_iload_n (pc := 9) 1 dX4_climbFromFirst_9 rfl rfl ?_
    refine n_icmp_ge (pc := 10) 65 dX4_climbFromFirst_10 (by decide) (by omega) (by omega) (fun hz1 => ?_) (fun hz1 => ?_)
    · exact absurd hz1 (by omega)
    · refine g_aload_n (pc := 13) 0 dX4_climbFromFirst_13 rfl rfl ?_
      refine g_get (pc := 14) dX4_climbFromFirst_14 fk_X4_20 hlo rfl ?_
      refine g_bipush (pc := 17) (v := nI 6) dX4_climbFromFirst_17 (by decide) ?_
      refine n_icmp_ge (pc := 19) 65 dX4_climbFromFirst_19 (by decide) (by omega) (by omega) (fun hz2 => ?_) (fun hz2 => ?_)
      · exact absurd hz2 (by omega)
      · refine g_aload_n (pc := 22) 0 dX4_climbFromFirst_22 rfl rfl ?_
        refine g_get (pc := 23) dX4_climbFromFirst_23 fk_X4_11 hlo rfl ?_
        refine g_aload_n (pc := 26) 0 dX4_climbFromFirst_26 rfl rfl ?_
        refine g_get (pc := 27) dX4_climbFromFirst_27 fk_X4_20 hlo rfl ?_
        refine g_aald (pc := 30) (v := .ref (O + 1 + tp)) tp dX4_climbFromFirst_30 hO (by decide) (IXn (by omega) (by omega)) (rf_some (w := w) hrf (by omega)) ?_
        refine g_aload_n (pc := 31) 0 dX4_climbFromFirst_31 rfl rfl ?_
        refine g_get (pc := 32) dX4_climbFromFirst_32 fk_X4_16 hlo rfl ?_
        refine g_aload_n (pc := 35) 0 dX4_climbFromFirst_35 rfl rfl ?_
        refine g_get (pc := 36) dX4_climbFromFirst_36 fk_X4_11 hlo rfl ?_
        refine g_aload_n (pc := 39) 0 dX4_climbFromFirst_39 rfl rfl ?_
        refine g_get (pc := 40) dX4_climbFromFirst_40 fk_X4_20 hlo rfl ?_
        refine g_iconst (pc := 43) (v := nI 1) dX4_climbFromFirst_43 (by decide) ?_
        refine n_iadd (pc := 44) dX4_climbFromFirst_44 ?_
        refine g_aald (pc := 45) (v := .ref (O + 1 + (tp + 1))) (tp + 1) dX4_climbFromFirst_45 hO (by decide) (IXn (by omega) (by omega)) (rf_some (w := w) hrf (by omega)) ?_
        have hlv0 := hlv tp (Nat.le_refl _)
        have hcg : ∀ t, t ≤ n → toI (R1 tp) t = lvs (toI (R 0)) n tp t := fun t ht => by rw [← hR0]; exact hlv0 t ht
        refine g_callS (pc := 46) [.ref (O + 1 + tp), .int (nI n), .ref (O + 1 + (tp + 1))] dX4_climbFromFirst_46 cs_X4_49.1 cs_X4_49.2 rfl rfl (Nat.le_of_ble_eq_true rfl) (by decide) (by decide) (sp_writesSquared _ (hrows tp (by omega)) (hrows (tp + 1) (by omega)) (by omega) (by decide) (by decide) (by omega) hn (by omega)) ?_
        rintro _ w9 (⟨rfl, hG, g', hg1, hg2, e9⟩ | ⟨rfl, hG, g', hg2, e9⟩)
        · obtain ⟨w2, hw2⟩ : ∃ w2 : Wd, w2 = w1.set (O + 1 + (tp + 1)) (aL 13 g') := ⟨_, rfl⟩
          rw [← hw2] at e9
          refine GP.weq _ e9 ?_
          have hF2 : FR (ladS lo O) w1 w2 := by rw [hw2]; exact FR.set (hrows (tp + 1) (by omega)) rfl (Or.inr ⟨by omega, by omega⟩)
          have hlo2 : w2[lo]? = some (.inr (4, [.ref O, .int (nI n), .int (nI tp)])) := by rw [hw2]; exact lk_ne (by omega) hlo
          have hO2 : w2[O]? = some (aR 7 7 rf) := by rw [hw2]; exact lk_ne (by omega) hO
          refine n_if_eq (pc := 49) 65 dX4_climbFromFirst_49 (by decide) (by omega) (fun hz5 => ?_) (fun hz5 => ?_)
          · exact absurd hz5 (by decide)
          · refine g_aload_n (pc := 52) 0 dX4_climbFromFirst_52 rfl rfl ?_
            refine g_dup (pc := 53) dX4_climbFromFirst_53 rfl ?_
            refine g_get (pc := 54) dX4_climbFromFirst_54 fk_X4_20 hlo2 rfl ?_
            refine g_iconst (pc := 57) (v := nI 1) dX4_climbFromFirst_57 (by decide) ?_
            refine n_iadd (pc := 58) dX4_climbFromFirst_58 ?_
            refine g_put (pc := 59) [.ref O, .int (nI n), .int (nI (tp + 1))] dX4_climbFromFirst_59 fk_X4_20 hlo2 (Nat.le_of_ble_eq_true rfl) rfl rfl ?_
            refine g_goto (pc := 62) 5 dX4_climbFromFirst_62 (by decide) ?_
            refine ih (tp + 1) _ (fun t => if t = tp + 1 then g' else R1 t) (by omega) (by simp [hR0]) (fun t ht => ?_) (fun t ht j hj => ?_) ⟨lk_eq hlo2, ⟨rf, lk_ne (by omega) hO2, hrf⟩, fun t ht => ?_⟩ ((hF.tr hF2).tr (FR.set hlo2 rfl (Or.inl rfl)))
            · by_cases htt : t = tp
              · subst htt; exact (sqd_congr hcg).mp hG
              · exact hsq t (by omega)
            · show ((if t = tp + 1 then g' else R1 t) j).toInt = lvs (toI (if 0 = tp + 1 then g' else R1 0)) n t j
              rw [if_neg (show ¬ 0 = tp + 1 by omega)]
              by_cases htt : t = tp + 1
              · subst htt
                rw [if_pos rfl, hg1 j hj]
                show _ = gco (lvs (toI (R1 0)) n tp) n j
                rw [hR0]
                exact gco_congr hj hcg
              · rw [if_neg htt]; exact hlv t (by omega) j hj
            · show _ = some (aL 13 (if t = tp + 1 then g' else R1 t))
              by_cases htt : t = tp + 1
              · subst htt; rw [if_pos rfl]; refine lk_ne (by omega) ?_; rw [hw2]; exact lk_eq (hrows (tp + 1) (by omega))
              · rw [if_neg htt]; refine lk_ne (by omega) ?_; rw [hw2]; exact lk_ne (by omega) (hrows t ht)
        · obtain ⟨w2, hw2⟩ : ∃ w2 : Wd, w2 = w1.set (O + 1 + (tp + 1)) (aL 13 g') := ⟨_, rfl⟩
          rw [← hw2] at e9
          refine GP.weq _ e9 ?_
          have hF2 : FR (ladS lo O) w1 w2 := by rw [hw2]; exact FR.set (hrows (tp + 1) (by omega)) rfl (Or.inr ⟨by omega, by omega⟩)
          have hlo2 : w2[lo]? = some (.inr (4, [.ref O, .int (nI n), .int (nI tp)])) := by rw [hw2]; exact lk_ne (by omega) hlo
          have hO2 : w2[O]? = some (aR 7 7 rf) := by rw [hw2]; exact lk_ne (by omega) hO
          refine n_if_eq (pc := 49) 65 dX4_climbFromFirst_49 (by decide) (by omega) (fun hz5 => ?_) (fun hz5 => ?_)
          · refine g_aload_n (pc := 65) 0 dX4_climbFromFirst_65 rfl rfl ?_
            refine g_get (pc := 66) dX4_climbFromFirst_66 fk_X4_20 hlo2 rfl ?_
            exact g_iret (pc := 69) dX4_climbFromFirst_69 ⟨tp, fun t => if t = tp + 1 then g' else R1 t, rfl, ⟨by omega, hsq, fun _ g => hG ((sqd_congr hcg).mpr g)⟩, by simp [hR0], fun t ht j hj => by show ((if t = tp + 1 then g' else R1 t) j).toInt = lvs (toI (if 0 = tp + 1 then g' else R1 0)) n t j; rw [if_neg (show ¬ 0 = tp + 1 by omega), if_neg (by omega)]; exact hlv t ht j hj, ⟨hlo2, ⟨rf, hO2, hrf⟩, fun t ht => by show _ = some (aL 13 (if t = tp + 1 then g' else R1 t)); by_cases htt : t = tp + 1; · { subst htt; rw [if_pos rfl, hw2]; exact lk_eq (hrows (tp + 1) (by omega)) }; · { rw [if_neg htt, hw2]; exact lk_ne (by omega) (hrows t ht) }⟩, hF.tr hF2⟩
          · exact absurd rfl hz5
theorem sp_climbFromFirst (w : Wd) {lo O n k tp : Nat} {R : Nat → Nat → Int64} (hL : ladC w lo O n tp R) (hn : n ≤ 12) (hk : k ≤ 6) (hne : lo < O ∨ O + 7 < lo) : EX4_climbFromFirst [.ref lo, .int (nI k)] w (fun r w' => ∃ T R', r = some (.int (nI T)) ∧ topL (toI (R 0)) n k T ∧ R' 0 = R 0 ∧ lvR R' n T ∧ ladC w' lo O n T R' ∧ FR (ladS lo O) w w') := by
  obtain ⟨hlo, ⟨rf, hO, hrf⟩, hrows⟩ := hL
  refine EP.of (plainFor_of_name (by decide)) [(0, .ref lo), (1, .int (nI k))] rfl (Nat.le_of_ble_eq_true rfl) (fun r wf h => by obtain ⟨T, R', rfl, -⟩ := h; trivial) ?_
  show BX4_climbFromFirst w _ w 0 [(0, .ref lo), (1, .int (nI k))] []
  refine g_aload_n (pc := 0) 0 dX4_climbFromFirst_0 rfl rfl ?_
  refine g_iconst (pc := 1) (v := nI 0) dX4_climbFromFirst_1 (by decide) ?_
  refine g_put (pc := 2) [.ref O, .int (nI n), .int (nI 0)] dX4_climbFromFirst_2 fk_X4_20 hlo (Nat.le_of_ble_eq_true rfl) rfl rfl ?_
  refine cl_loop hn hk hne k 0 _ R (by omega) rfl (fun t ht => absurd ht (by omega)) (fun t ht j hj => ?_) ⟨lk_eq hlo, ⟨rf, lk_ne (by omega) hO, hrf⟩, fun t ht => lk_ne (by omega) (hrows t ht)⟩ (FR.set hlo rfl (Or.inl rfl))
  rw [show t = 0 by omega]
  rfl
