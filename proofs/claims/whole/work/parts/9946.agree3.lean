/-! divided once, often, by all: class and reference alike -/
theorem dv_BM {n T : Nat} {F q : Nat → Int} (h : dvB n F T q) : dvM n F T q := ⟨h.1, h.2.1, dok_m h.2.2⟩
theorem cy_n0 {n : Nat} (hn : n < 43) (h : cyIs n) : cyG n (cyDg n) = 1 := (cy_dg ⟨n, hn⟩ h).2.2.1
theorem dv_MB {n T : Nat} {F q : Nat → Int} (hn : n < 43) (hw : wgt F T ≤ 60000000000000000) (h : dvM n F T q) : dvB n F T q ∧ wgt q (T - cyDg n) ≤ 60000000000000000 := by
  have h1 := dvm_ok (g := F) (by rw [cy_n0 hn h.1]; decide) (by rw [show T - cyDg n + cyDg n = T by have := h.2.1; omega]; exact hw) h.2.2
  exact ⟨⟨h.1, h.2.1, h1.1⟩, h1.2⟩
theorem of_MC {n T : Nat} {F : Nat → Int} (hn : n < 43) (hw : wgt F T ≤ 60000000000000000) : ∀ (c : Nat) (G : Nat → Int) (T' : Nat), ofM n c F T G T' → ofC n c F T G T' ∧ wgt G T' ≤ 60000000000000000
  | 0, G, T', h => ⟨h, by rw [h.1, h.2]; exact hw⟩
  | c + 1, G, T', h => by
    obtain ⟨F1, T1, h1, h2, h3⟩ := h
    obtain ⟨g1, g2⟩ := of_MC hn hw c F1 T1 h1
    obtain ⟨g3, g4⟩ := dv_MB hn g2 h2
    exact ⟨⟨F1, T1, g1, g3, h3⟩, by rw [h3]; exact g4⟩
theorem co_MC {T : Nat} {F : Nat → Int} (hw : wgt F T ≤ 60000000000000000) : ∀ (k : Nat) (G : Nat → Int) (T' : Nat), k ≤ 43 → coM k F T G T' → coC k F T G T' ∧ wgt G T' ≤ 60000000000000000
  | 0, G, T', _, h => ⟨h, by rw [h.1, h.2]; exact hw⟩
  | k + 1, G, T', hk, h => by
    obtain ⟨F1, T1, c, h1, h2, h3⟩ := h
    obtain ⟨g1, g2⟩ := co_MC hw k F1 T1 (by omega) h1
    obtain ⟨g3, g4⟩ := of_MC (by omega) g2 c G T' h2
    exact ⟨⟨F1, T1, c, g1, g3, fun q hq => h3 q (dv_BM hq)⟩, g4⟩
theorem dvB_uq {n T : Nat} {F q q' : Nat → Int} (hn : n < 43) (h : dvB n F T q) (h' : dvB n F T q') : ∀ j, j ≤ T - cyDg n → q j = q' j :=
  fun j hj => om_uq (dok_m h.2.2) (dok_m h'.2.2) (by rw [cy_n0 hn h.1]; decide) (T - cyDg n + 1) (Nat.le_refl _) j (by omega) hj
theorem ofC_st {n T : Nat} {F : Nat → Int} (hn : n < 43) : ∀ (c : Nat) (G G' : Nat → Int) (T1 T2 : Nat), ofC n c F T G T1 → ofC n c F T G' T2 → T1 = T2 ∧ ∀ j, j ≤ T1 → G j = G' j
  | 0, G, G', T1, T2, h, h' => ⟨by rw [h.2, h'.2], fun j _ => by rw [h.1, h'.1]⟩
  | c + 1, G, G', T1, T2, h, h' => by
    obtain ⟨F1, S1, a1, a2, a3⟩ := h
    obtain ⟨F2, S2, b1, b2, b3⟩ := h'
    obtain ⟨rfl, e⟩ := ofC_st hn c F1 F2 S1 S2 a1 b1
    subst a3
    subst b3
    exact ⟨rfl, dvB_uq hn (dvB_cg e a2) b2⟩
theorem ofC_pre {n T : Nat} {F : Nat → Int} : ∀ (c' : Nat) (G : Nat → Int) (T1 : Nat), ofC n c' F T G T1 → ∀ c, c < c' → ∃ F1 S1 q, ofC n c F T F1 S1 ∧ dvB n F1 S1 q
  | 0, _, _, _, c, hc => absurd hc (Nat.not_lt_zero _)
  | c' + 1, G, T1, h, c, hc => by
    obtain ⟨F1, S1, a1, a2, -⟩ := h
    by_cases e : c = c'
    · subst e; exact ⟨F1, S1, G, a1, a2⟩
    · exact ofC_pre c' F1 S1 a1 c (by omega)
theorem ofC_uq {n T c c' T1 T2 : Nat} {F G G' : Nat → Int} (hn : n < 43) (h : ofC n c F T G T1) (s : ∀ q, ¬ dvB n G T1 q) (h' : ofC n c' F T G' T2) (s' : ∀ q, ¬ dvB n G' T2 q) : c = c' ∧ T1 = T2 ∧ ∀ j, j ≤ T1 → G j = G' j := by
  rcases Nat.lt_trichotomy c c' with g | g | g
  · obtain ⟨F1, S1, q, a1, a2⟩ := ofC_pre c' G' T2 h' c g
    obtain ⟨rfl, e⟩ := ofC_st hn c F1 G S1 T1 a1 h
    exact absurd (dvB_cg e a2) (s q)
  · subst g
    exact ⟨rfl, ofC_st hn c G G' T1 T2 h h'⟩
  · obtain ⟨F1, S1, q, a1, a2⟩ := ofC_pre c G T1 h c' g
    obtain ⟨rfl, e⟩ := ofC_st hn c' F1 G' S1 T2 a1 h'
    exact absurd (dvB_cg e a2) (s' q)
theorem coC_uq {T : Nat} {F : Nat → Int} : ∀ (k : Nat) (G G' : Nat → Int) (T1 T2 : Nat), k ≤ 43 → coC k F T G T1 → coC k F T G' T2 → T1 = T2 ∧ ∀ j, j ≤ T1 → G j = G' j
  | 0, G, G', T1, T2, _, h, h' => ⟨by rw [h.2, h'.2], fun j _ => by rw [h.1, h'.1]⟩
  | k + 1, G, G', T1, T2, hk, h, h' => by
    obtain ⟨F1, S1, c, a1, a2, a3⟩ := h
    obtain ⟨F2, S2, c', b1, b2, b3⟩ := h'
    obtain ⟨rfl, e⟩ := coC_uq k F1 F2 S1 S2 (by omega) a1 b1
    obtain ⟨G2, g1, g2⟩ := ofC_cg e a2
    have g3 : ∀ q, ¬ dvB k G2 T1 q := fun q hq => a3 q (dvB_cg (fun j hj => (g2 j hj).symm) hq)
    obtain ⟨-, rfl, g4⟩ := ofC_uq (by omega) g1 g3 b2 b3
    exact ⟨rfl, fun j hj => (g2 j hj).trans (g4 j hj)⟩
theorem div_top {q D g : Nat → Int} {n T : Nat} (h : divOk q D g n T) : g (T + n) = q T * D n := by
  rw [h.2 (T + n) (Nat.le_refl _), show T + 1 = 1 + T by omega, mulT_stop (k := 1) (by omega) T (by omega)]
  show 0 + (if T - 0 ≤ T + n ∧ T + n - (T - 0) ≤ n then q (T - 0) * D (T + n - (T - 0)) else 0) = _
  rw [if_pos (by omega), Int.zero_add, show T + n - (T - 0) = n by omega]
  rfl
theorem dvB_top {n T : Nat} {F q : Nat → Int} (hn : n < 43) (h : dvB n F T q) : F T = q (T - cyDg n) := by
  have h1 := div_top h.2.2
  rw [show T - cyDg n + cyDg n = T by have := h.2.1; omega, cy_n0 hn h.1, Int.mul_one] at h1
  exact h1
theorem ofC_top {n T : Nat} {F : Nat → Int} (hn : n < 43) : ∀ (c : Nat) (G : Nat → Int) (T1 : Nat), ofC n c F T G T1 → F T = G T1
  | 0, G, T1, h => by rw [h.1, h.2]
  | c + 1, G, T1, h => by
    obtain ⟨F1, S1, a1, a2, a3⟩ := h
    rw [ofC_top hn c F1 S1 a1, dvB_top hn a2, a3]
theorem coC_top {T : Nat} {F : Nat → Int} : ∀ (k : Nat) (G : Nat → Int) (T1 : Nat), k ≤ 43 → coC k F T G T1 → F T = G T1
  | 0, G, T1, _, h => by rw [h.1, h.2]
  | k + 1, G, T1, hk, h => by
    obtain ⟨F1, S1, c, a1, a2, -⟩ := h
    rw [coC_top k F1 S1 (by omega) a1, ofC_top (by omega) c G T1 a2]
theorem one_MC {T : Nat} {F : Nat → Int} (hw : wgt F T ≤ 60000000000000000) (h : oneM F T) : isOneF F T := by
  obtain ⟨G, h1, h2⟩ := h
  have h3 := (co_MC hw 43 G 0 (Nat.le_refl _) h1).1
  exact ⟨by rw [coC_top 43 G 0 (Nat.le_refl _) h3]; exact h2, G, h3⟩
theorem non_MC {T : Nat} {F : Nat → Int} (hw : wgt F T ≤ 60000000000000000) (h : nonM F T) : noOneF F T := by
  obtain ⟨G, T', h1, h2⟩ := h
  have h3 := (co_MC hw 43 G T' (Nat.le_refl _) h1).1
  by_cases e : T' = 0
  · subst e
    refine Or.inl ?_
    rw [coC_top 43 G 0 (Nat.le_refl _) h3]
    exact ⟨fun g => h2 ⟨rfl, Or.inl g⟩, fun g => h2 ⟨rfl, Or.inr g⟩⟩
  · exact Or.inr ⟨G, T', h3, e⟩
theorem one_no {T : Nat} {F : Nat → Int} (h : isOneF F T) (h' : noOneF F T) : False := by
  obtain ⟨h1, G, h2⟩ := h
  rcases h' with g | ⟨G', T', g1, g2⟩
  · rcases h1 with e | e
    · exact g.1 e
    · exact g.2 e
  · exact g2 (coC_uq 43 G G' 0 T' (Nat.le_refl _) h2 g1).1.symm
theorem okP.w {P : PV} (h : okP P) : wgt P.2 P.1 ≤ 60000000000000000 := wgt_ok h.1 h.2.1
theorem by_ok {P D : PV} (hP : okP P) (hD : okP D) (hle : D.1 ≤ P.1) {q : Nat → Int} (h : divOm q D.2 P.2 D.1 (P.1 - D.1)) : divOk q D.2 P.2 D.1 (P.1 - D.1) := (dvm_ok hD.2.2.1 (by rw [show P.1 - D.1 + D.1 = P.1 by omega]; exact hP.w) h).1
theorem by_uq {P D : PV} (hD : okP D) {q q' : Nat → Int} (h : divOm q D.2 P.2 D.1 (P.1 - D.1)) (h' : divOm q' D.2 P.2 D.1 (P.1 - D.1)) : cutP q' (P.1 - D.1 + 1) = cutP q (P.1 - D.1 + 1) := by
  funext t
  unfold cutP
  by_cases g : t < P.1 - D.1 + 1
  · rw [if_pos g, if_pos g]
    exact om_uq h' h hD.2.2.1 (P.1 - D.1 + 1) (Nat.le_refl _) t (by omega) (by omega)
  · rw [if_neg g, if_neg g]
theorem of_ag {P : PV} {h v v' : Nat} (ok : okP P) (hh : h < 10) (a : ofP P h v) (b : ofMP P h v') : v = v' := by
  have S : ∀ h, sumF P.2 h 13 = sumF P.2 h (P.1 + 1) := fun h => by
    have := (sum_ext ok.2.2.2 h (12 - P.1)).1
    rw [show P.1 + 1 + (12 - P.1) = 13 by have := ok.1; omega] at this
    exact this
  have B : ∀ {p : Prop}, ¬ (h = 4 ∨ h = 5 ∨ h = 9 ∨ h = 0) → (v' = sumF P.2 h 13 → p) → p := fun hn hp => by
    rcases b with ⟨e, -⟩ | ⟨-, e⟩ | ⟨e, -⟩ | ⟨e, -⟩ | ⟨e, -⟩
    · exact absurd (Or.inr (Or.inr (Or.inr e))) hn
    · exact hp e
    · exact absurd (Or.inl e) hn
    · exact absurd (Or.inr (Or.inl e)) hn
    · exact absurd (Or.inr (Or.inr (Or.inl e))) hn
  rcases (show h = 0 ∨ h = 1 ∨ h = 2 ∨ h = 3 ∨ h = 4 ∨ h = 5 ∨ h = 6 ∨ h = 7 ∨ h = 8 ∨ h = 9 by omega) with rfl | rfl | rfl | rfl | rfl | rfl | rfl | rfl | rfl | rfl
  · have a' : v = P.1 := a
    rcases b with ⟨-, e⟩ | ⟨e, -⟩ | ⟨e, -⟩ | ⟨e, -⟩ | ⟨e, -⟩
    · rw [a', e]
    all_goals exact absurd e (by decide)
  · have a' : v = sumF P.2 1 (P.1 + 1) := a
    exact B (by decide) (fun e => by rw [a', e, S])
  · have a' : v = sumF P.2 2 (P.1 + 1) := a
    exact B (by decide) (fun e => by rw [a', e, S])
  · have a' : v = sumF P.2 3 (P.1 + 1) := a
    exact B (by decide) (fun e => by rw [a', e, S])
  · have a' : ((∀ t, t ≤ P.1 → P.2 t = P.2 (P.1 - t)) ∧ v = 1) ∨ (¬ (∀ t, t ≤ P.1 → P.2 t = P.2 (P.1 - t)) ∧ v = 0) := a
    rcases b with ⟨e, -⟩ | ⟨e, -⟩ | ⟨-, b'⟩ | ⟨e, -⟩ | ⟨e, -⟩
    · exact absurd e (by decide)
    · exact absurd e (by decide)
    · rcases a' with ⟨a1, a2⟩ | ⟨a1, a2⟩ <;> rcases b' with ⟨b1, b2⟩ | ⟨b1, b2⟩ <;> first | exact a2.trans b2.symm | exact absurd a1 b1 | exact absurd b1 a1
    · exact absurd e (by decide)
    · exact absurd e (by decide)
  · have a' : (isOneF P.2 P.1 ∧ v = 1) ∨ (noOneF P.2 P.1 ∧ v = 0) := a
    rcases b with ⟨e, -⟩ | ⟨e, -⟩ | ⟨e, -⟩ | ⟨-, b'⟩ | ⟨e, -⟩
    · exact absurd e (by decide)
    · exact absurd e (by decide)
    · exact absurd e (by decide)
    · rcases a' with ⟨a1, a2⟩ | ⟨a1, a2⟩ <;> rcases b' with ⟨b1, b2⟩ | ⟨b1, b2⟩ <;> first | exact a2.trans b2.symm | exact (one_no a1 (non_MC ok.w b1)).elim | exact (one_no (one_MC ok.w b1) a1).elim
    · exact absurd e (by decide)
  · have a' : v = sumF P.2 6 (P.1 + 1) := a
    exact B (by decide) (fun e => by rw [a', e, S])
  · have a' : v = sumF P.2 7 (P.1 + 1) := a
    exact B (by decide) (fun e => by rw [a', e, S])
  · have a' : v = sumF P.2 8 (P.1 + 1) := a
    exact B (by decide) (fun e => by rw [a', e, S])
  · have a' : topL P.2 P.1 6 v := a
    rcases b with ⟨e, -⟩ | ⟨e, -⟩ | ⟨e, -⟩ | ⟨e, -⟩ | ⟨-, b'⟩
    · exact absurd e (by decide)
    · exact absurd e (by decide)
    · exact absurd e (by decide)
    · exact absurd e (by decide)
    · exact topL_uq a' b'
theorem ag_by {n : Nat} {w : Wd} {X Y : Nat} (h : Inv n w X Y) {x y z : Int32} : EX11_by [.ref X, .int x, .int y, .int z] w (fun r w1 => ∃ v : Int32, r = some (.int v) ∧ (∃ fs, w1[Y]? = some (.inr (11, fs))) ∧ EX12_by [.ref Y, .int x, .int y, .int z] w1 (fun r' w2 => r' = some (.int v) ∧ Inv (n + 1) w2 X Y)) := by
  obtain ⟨hXY, hn0, hroom, tl, tb, fa, st, rf, sh, pn, pk, ps, im, hB, hM⟩ := id h
  have tl400 := hB.2.1.1
  have k30 := hB.k30
  have okp := fun i hi => hB.okp (i := i) hi
  refine EP.mono (sp_by w hB) ?_
  rintro r w1 (⟨hn, hP⟩ | ⟨i, j, k, hx, hi, hy, hj, hz, hk, hq, hP⟩ | ⟨i, j, k, q, hx, hi, hy, hj, hz, hk, hle, hd, hP⟩)
  · have hM1 := hM.ex hP.2.2 hXY
    refine ag_of (mq_by w1 hM1) hM1 ?_
    obtain ⟨rr, K⟩ := rf_ag h hM1 hP
    refine ⟨_, rr, ?_⟩
    rintro r' w2 (⟨hn', hP'⟩ | ⟨i', j', k', hx', hi', hy', hj', hz', hk', hq', hP'⟩ | ⟨i', j', k', q', hx', hi', hy', hj', hz', hk', hle', hd', hP'⟩)
    · exact K _ _ hP'
    · exact absurd ⟨plo hx' hi', plo hy' hj', plo hz' hk'⟩ hn
    · exact absurd ⟨plo hx' hi', plo hy' hj', plo hz' hk'⟩ hn
  · have hM1 := hM.ex hP.2.2 hXY
    refine ag_of (mq_by w1 hM1) hM1 ?_
    obtain ⟨rr, K⟩ := rf_ag h hM1 hP
    refine ⟨_, rr, ?_⟩
    rintro r' w2 (⟨hn', hP'⟩ | ⟨i', j', k', hx', hi', hy', hj', hz', hk', hq', hP'⟩ | ⟨i', j', k', q', hx', hi', hy', hj', hz', hk', hle', hd', hP'⟩)
    · exact absurd ⟨plo hx hi, plo hy hj, plo hz hk⟩ hn'
    · exact K _ _ hP'
    · obtain rfl := nIe hx hx' (by omega) (by omega)
      obtain rfl := nIe hy hy' (by omega) (by omega)
      exact absurd ⟨hle', by_ok (okp _ hi) (okp _ hj) hle' hd'⟩ (hq _)
  · have hM1 := hM.ex hP.ex hXY
    refine ag_of (mq_by w1 hM1) hM1 ?_
    obtain ⟨v9, rr, K⟩ := pp_ag h hM1 hP
    refine ⟨_, rr, ?_⟩
    rintro r' w2 (⟨hn', hP'⟩ | ⟨i', j', k', hx', hi', hy', hj', hz', hk', hq', hP'⟩ | ⟨i', j', k', q', hx', hi', hy', hj', hz', hk', hle', hd', hP'⟩)
    · exact absurd ⟨plo hx hi, plo hy hj, plo hz hk⟩ hn'
    · obtain rfl := nIe hx' hx (by omega) (by omega)
      obtain rfl := nIe hy' hy (by omega) (by omega)
      exact absurd ⟨hle, dok_m hd⟩ (hq' _)
    · obtain rfl := nIe hx hx' (by omega) (by omega)
      obtain rfl := nIe hy hy' (by omega) (by omega)
      obtain rfl := nIe hz hz' (by omega) (by omega)
      rw [by_uq (okp _ hj) (dok_m hd) hd'] at hP'
      exact K _ _ hP'
theorem ag_core {n : Nat} {w : Wd} {X Y : Nat} (h : Inv n w X Y) {x z : Int32} : EX11_core [.ref X, .int x, .int z] w (fun r w1 => ∃ v : Int32, r = some (.int v) ∧ (∃ fs, w1[Y]? = some (.inr (11, fs))) ∧ EX12_core [.ref Y, .int x, .int z] w1 (fun r' w2 => r' = some (.int v) ∧ Inv (n + 1) w2 X Y)) := by
  obtain ⟨hXY, hn0, hroom, tl, tb, fa, st, rf, sh, pn, pk, ps, im, hB, hM⟩ := id h
  have tl400 := hB.2.1.1
  have k30 := hB.k30
  have okp := fun i hi => hB.okp (i := i) hi
  refine EP.mono (sp_core w hB) ?_
  rintro r w1 (⟨hn, hP⟩ | ⟨i, k, G, S, hx, hi, hz, hk, hc, hP⟩)
  · have hM1 := hM.ex hP.2.2 hXY
    refine ag_of (mq_core w1 hM1) hM1 ?_
    obtain ⟨rr, K⟩ := rf_ag h hM1 hP
    refine ⟨_, rr, ?_⟩
    rintro r' w2 (⟨hn', hP'⟩ | ⟨i', k', G', S', hx', hi', hz', hk', hc', hP'⟩)
    · exact K _ _ hP'
    · exact absurd ⟨plo hx' hi', plo hz' hk'⟩ hn
  · have hM1 := hM.ex hP.ex hXY
    refine ag_of (mq_core w1 hM1) hM1 ?_
    obtain ⟨v9, rr, K⟩ := pp_ag h hM1 hP
    refine ⟨_, rr, ?_⟩
    rintro r' w2 (⟨hn', hP'⟩ | ⟨i', k', G', S', hx', hi', hz', hk', hc', hP'⟩)
    · exact absurd ⟨plo hx hi, plo hz hk⟩ hn'
    · obtain rfl := nIe hx hx' (by omega) (by omega)
      obtain rfl := nIe hz hz' (by omega) (by omega)
      obtain ⟨eS, eG⟩ := coC_uq 43 _ _ _ _ (Nat.le_refl _) hc (co_MC (okp _ hi).w 43 _ _ (Nat.le_refl _) hc').1
      have eF : (fun t => if t ≤ S' then (if G' S' < 0 then -G' t else G' t) else 0) = fun t => if t ≤ S then (if G S < 0 then -G t else G t) else 0 := by
        funext t
        rw [← eS]
        by_cases g : t ≤ S
        · rw [if_pos g, if_pos g, ← eG t g, ← eG _ (Nat.le_refl _)]
        · rw [if_neg g, if_neg g]
      rw [eF] at hP'
      exact K _ _ hP'
theorem ag_often {n : Nat} {w : Wd} {X Y : Nat} (h : Inv n w X Y) {x y : Int32} : EX11_often [.ref X, .int x, .int y] w (fun r w1 => ∃ v : Int32, r = some (.int v) ∧ (∃ fs, w1[Y]? = some (.inr (11, fs))) ∧ EX12_often [.ref Y, .int x, .int y] w1 (fun r' w2 => r' = some (.int v) ∧ Inv (n + 1) w2 X Y)) := by
  obtain ⟨hXY, hn0, hroom, tl, tb, fa, st, rf, sh, pn, pk, ps, im, hB, hM⟩ := id h
  have tl400 := hB.2.1.1
  have k30 := hB.k30
  have okp := fun i hi => hB.okp (i := i) hi
  refine EP.mono (sp_often w hB) ?_
  rintro r w1 (⟨hn, rfl, hB1, hE⟩ | ⟨i, m, c, G, S, hx, hi, hy, hm, hc, ho, hs, rfl, hB1, hE⟩)
  · have hM1 := hM.ex hE hXY
    refine ag_of (mq_often w1 hM1) hM1 ?_
    refine ⟨_, rfl, ?_⟩
    rintro r' w2 (⟨hn', rfl, hB1', hE'⟩ | ⟨i', m', c', G', S', hx', hi', hy', hm', hc', ho', hs', rfl, hB1', hE'⟩)
    · exact ⟨rfl, h.s hE (by omega) (by omega) hB1 hM1 hB1' hE'⟩
    · exact absurd ⟨plo hx' hi', _, hy', hm', hc'⟩ hn
  · have hM1 := hM.ex hE hXY
    refine ag_of (mq_often w1 hM1) hM1 ?_
    refine ⟨_, rfl, ?_⟩
    rintro r' w2 (⟨hn', rfl, hB1', hE'⟩ | ⟨i', m', c', G', S', hx', hi', hy', hm', hc', ho', hs', rfl, hB1', hE'⟩)
    · exact absurd ⟨plo hx hi, _, hy, hm, hc⟩ hn'
    · obtain rfl := nIe hx hx' (by omega) (by omega)
      obtain rfl := nIe hy hy' (by omega) (by omega)
      obtain ⟨rfl, -, -⟩ := ofC_uq hm ho hs (of_MC hm (okp _ hi).w _ _ _ ho').1 (fun q hq => hs' q (dv_BM hq))
      exact ⟨rfl, h.s hE (by omega) (by omega) hB1 hM1 hB1' hE'⟩
theorem ag_of_ {n : Nat} {w : Wd} {X Y : Nat} (h : Inv n w X Y) {x y : Int32} : EX11_of [.ref X, .int x, .int y] w (fun r w1 => ∃ v : Int32, r = some (.int v) ∧ (∃ fs, w1[Y]? = some (.inr (11, fs))) ∧ EX12_of [.ref Y, .int x, .int y] w1 (fun r' w2 => r' = some (.int v) ∧ Inv (n + 1) w2 X Y)) := by
  obtain ⟨hXY, hn0, hroom, tl, tb, fa, st, rf, sh, pn, pk, ps, im, hB, hM⟩ := id h
  have tl400 := hB.2.1.1
  have k30 := hB.k30
  have okp := fun i hi => hB.okp (i := i) hi
  refine EP.mono (sp_of w hB) ?_
  rintro r w1 (⟨hn, rfl, hB1, hE⟩ | ⟨i, t, v, hx, hi, hy, hh, ho, rfl, hB1, hE⟩)
  · have hM1 := hM.ex hE hXY
    refine ag_of (mq_of w1 hM1) hM1 ?_
    refine ⟨_, rfl, ?_⟩
    rintro r' w2 (⟨hn', rfl, hB1', hE'⟩ | ⟨i', t', v', hx', hi', hy', hh', ho', rfl, hB1', hE'⟩)
    · exact ⟨rfl, h.s hE (by omega) (by omega) hB1 hM1 hB1' hE'⟩
    · exact absurd ⟨plo hx' hi', rgI hy' (by omega) (by omega)⟩ hn
  · have hM1 := hM.ex hE hXY
    refine ag_of (mq_of w1 hM1) hM1 ?_
    refine ⟨_, rfl, ?_⟩
    rintro r' w2 (⟨hn', rfl, hB1', hE'⟩ | ⟨i', t', v', hx', hi', hy', hh', ho', rfl, hB1', hE'⟩)
    · exact absurd ⟨plo hx hi, rgI hy (by omega) (by omega)⟩ hn'
    · obtain rfl := nIe hx hx' (by omega) (by omega)
      obtain rfl := nIe hy hy' (by omega) (by omega)
      obtain rfl := of_ag (okp _ hi) hh ho ho'
      exact ⟨rfl, h.s hE (by omega) (by omega) hB1 hM1 hB1' hE'⟩
