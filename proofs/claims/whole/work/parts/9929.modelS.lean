/-! the reference: cores, isOne, core -/
theorem ofM_le {n : Nat} {F : Nat → Int} {T : Nat} : ∀ {c : Nat} {F' : Nat → Int} {T' : Nat}, ofM n c F T F' T' → T' ≤ T
  | 0, F', T', h => by rw [h.2]; exact Nat.le_refl _
  | c + 1, F', T', h => by
    obtain ⟨F1, T1, h1, h2, h3⟩ := h
    have := ofM_le h1
    omega
theorem coM_le {F : Nat → Int} {T : Nat} : ∀ {k : Nat} {F' : Nat → Int} {T' : Nat}, coM k F T F' T' → T' ≤ T
  | 0, F', T', h => by rw [h.2]; exact Nat.le_refl _
  | k + 1, F', T', h => by
    obtain ⟨F1, T1, c, h1, h2, h3⟩ := h
    have := coM_le h1
    have := ofM_le h2
    omega
def ngF (h : Nat → Int64) (k : Nat) : Nat → Int64 := fun i => if i < k then -(h i) else h i
theorem ngF_s {h : Nat → Int64} {k : Nat} : vp_updL (ngF h k) k (-(ngF h k k)) = ngF h (k + 1) := by
  funext i
  by_cases e : i = k
  · rw [e, upL_s]
    show -(if k < k then -(h k) else h k) = if k < k + 1 then -(h k) else h k
    rw [if_neg (by omega), if_pos (by omega)]
  · rw [upL_n e]
    show (if i < k then -(h i) else h i) = if i < k + 1 then -(h i) else h i
    by_cases e2 : i < k
    · rw [if_pos e2, if_pos (by omega)]
    · rw [if_neg e2, if_neg (by omega)]
theorem ngF_0 {h : Nat → Int64} : ngF h 0 = h := by
  funext i
  exact if_neg (by omega)
theorem ng_ha {h : Nat → Int64} {G : Nat → Int} {T : Nat} (hh : haF h G T) (hG : hgO G T) (hn : G T < 0) : haF (ngF h 60) (fun t => if G T < 0 then -G t else G t) T := fun i hi => by
  show (if i < 60 then -(h i) else h i).toInt = _
  rw [if_pos hi]
  have h1 := hh i hi
  by_cases e : i ≤ T
  · rw [if_pos e] at h1
    have := hG.2.2 i e
    rw [if_pos e]
    show (-(h i)).toInt = if G T < 0 then -G i else G i
    rw [if_pos hn, L_neg (by omega), h1]
  · rw [if_neg e] at h1
    rw [if_neg e, L_neg (by omega), h1]; rfl
theorem no_ng {h : Nat → Int64} {G : Nat → Int} {T : Nat} (hh : haF h G T) (hn : ¬ G T < 0) : haF h (fun t => if G T < 0 then -G t else G t) T := fun i hi => by
  rw [hh i hi]
  by_cases e : i ≤ T
  · rw [if_pos e, if_pos e]
    show G i = if G T < 0 then -G i else G i
    rw [if_neg hn]
  · rw [if_neg e, if_neg e]
abbrev BX12_cores (w0 : Wd) (Post : Option Value → Wd → Prop) (w : Wd) (pc : Nat) (ls : List (Nat × Value)) (st : List Value) : Prop := GP "cores" RX12 cX12_cores 2 none 2 78 none w0 Post w pc ls st
abbrev EX12_cores (As : List Value) (w : Wd) (Post : Option Value → Wd → Prop) : Prop := EP yX12_cores cX12_cores 2 none 2 As w Post
theorem crs_in {w0 w : Wd} {Y tl : Nat} {tb : Nat → Int32} {fa st : Int32} {rf : Nat → Nat} {sh : SV} {pn : Nat} {pk : Nat → Nat} {ps : Nat → SV} {im : Nat → Option SV} {n T1 : Nat} {F1 : Nat → Int} (hn : n < 43) (hc : cyIs n) {Q : Option Value → Wd → Prop} (K : ∀ c G T w2, mdC w2 Y tl tb fa st rf sh pn pk ps im → haO w2 Y tl fa st pn G T → hgO G T → FR (hdS Y) w w2 → ofM n c F1 T1 G T → (∀ q, ¬ dvM n G T q) → BX12_cores w0 Q w2 50 [(1, .int (nI n)), (0, .ref Y)] []) : ∀ (z T c : Nat) (G : Nat → Int) (w1 : Wd), T ≤ z → mdC w1 Y tl tb fa st rf sh pn pk ps im → hdO w1 Y tl fa st pn G T (cyG n) (cyDg n) → hgO G T → FR (hdS Y) w w1 → ofM n c F1 T1 G T → BX12_cores w0 Q w1 25 [(1, .int (nI n)), (0, .ref Y)] [] := by
  have hcd : 1 ≤ cyDg n ∧ cyDg n ≤ 12 := ⟨(cy_dg ⟨n, hn⟩ hc).1, (cy_dg ⟨n, hn⟩ hc).2.1⟩
  have hFd := cy_fd hn hc
  intro z
  induction z with
  | zero =>
    intro T c G w1 hz hM1 hD1 hG1 hF1 hO1
    obtain ⟨thE, ldE, beE, ibE, reE, igE, hE, dE, cYE, c7E, hhE, c8E, hdE⟩ := id hD1
    have hT60 := hG1.1
    refine g_aload_n (pc := 25) 1 dX12_cores_25 rfl rfl ?_
    refine g_get (pc := 26) dX12_cores_26 fk_X12_113 cYE rfl ?_
    refine g_aload_n (pc := 29) 1 dX12_cores_29 rfl rfl ?_
    refine g_get (pc := 30) dX12_cores_30 fk_X12_143 cYE rfl ?_
    refine n_icmp_lt (pc := 33) 50 dX12_cores_33 (by decide) (by omega) (by omega) (fun hlt => ?_) (fun hlt => ?_)
    · exact GP.lsub _ (by simp) (K c G T w1 hM1 hD1.ha hG1 hF1 hO1 (fun q g => absurd g.2.1 (by omega)))
    · exact absurd (show T < cyDg n by omega) hlt
  | succ z ih =>
    intro T c G w1 hz hM1 hD1 hG1 hF1 hO1
    obtain ⟨thE, ldE, beE, ibE, reE, igE, hE, dE, cYE, c7E, hhE, c8E, hdE⟩ := id hD1
    have hT60 := hG1.1
    refine g_aload_n (pc := 25) 1 dX12_cores_25 rfl rfl ?_
    refine g_get (pc := 26) dX12_cores_26 fk_X12_113 cYE rfl ?_
    refine g_aload_n (pc := 29) 1 dX12_cores_29 rfl rfl ?_
    refine g_get (pc := 30) dX12_cores_30 fk_X12_143 cYE rfl ?_
    refine n_icmp_lt (pc := 33) 50 dX12_cores_33 (by decide) (by omega) (by omega) (fun hlt => ?_) (fun hlt => ?_)
    · exact GP.lsub _ (by simp) (K c G T w1 hM1 hD1.ha hG1 hF1 hO1 (fun q g => absurd g.2.1 (by omega)))
    · refine g_aload_n (pc := 36) 1 dX12_cores_36 rfl rfl ?_
      refine g_callV (pc := 37) [] dX12_cores_37 cv_X12_160.1 cv_X12_160.2.1 cv_X12_160.2.2.1 cv_X12_160.2.2.2 cYE rfl rfl (Nat.le_of_ble_eq_true rfl) (by decide) (by decide) (mq_divides _ hM1 hD1 hG1 hFd (by omega)) ?_
      rintro _ w9 (⟨rfl, ⟨q, qc, hq, c9q, hqa⟩, hD4, hM4, hF4⟩ | ⟨rfl, hno, hD4, hM4, hF4⟩)
      · obtain ⟨thC, ldC, beC, ibC, reC, igC, hC, dC, cYC, c7C, hhC, c8C, hdC⟩ := id hD4
        refine n_if_eq (pc := 40) 50 dX12_cores_40 (by decide) (by omega) (fun hd9 => ?_) (fun hd9 => ?_)
        · exact absurd hd9 (by decide)
        · have hS := om_hg hG1 (by omega) hq
          refine g_aload_n (pc := 43) 1 dX12_cores_43 rfl rfl ?_
          refine g_callV (pc := 44) [] dX12_cores_44 cv_X12_163.1 cv_X12_163.2.1 cv_X12_163.2.2.1 cv_X12_163.2.2.2 cYC rfl rfl (Nat.le_of_ble_eq_true rfl) (by decide) (by decide) (mq_takeQ _ hM4 hD4 c9q hqa hS) ?_
          rintro _ w5 ⟨rfl, hD5, hM5, hF5⟩
          refine g_goto (pc := 47) 25 dX12_cores_47 (by decide) ?_
          exact GP.lsub _ (by simp) (ih (T - cyDg n) (c + 1) q w5 (by omega) hM5 hD5 hS (hF1.tr (hF4.tr hF5)) ⟨G, T, hO1, ⟨hc, by omega, hq⟩, rfl⟩)
      · obtain ⟨thC, ldC, beC, ibC, reC, igC, hC, dC, cYC, c7C, hhC, c8C, hdC⟩ := id hD4
        refine n_if_eq (pc := 40) 50 dX12_cores_40 (by decide) (by omega) (fun hd9 => ?_) (fun hd9 => ?_)
        · exact GP.lsub _ (by simp) (K c G T w9 hM4 hD4.ha hG1 (hF1.tr hF4) hO1 (fun q g => hno q g.2.2))
        · exact absurd rfl hd9
theorem crs_ng {w0 w : Wd} {Y : Nat} {th st nu dg dd ld be ib ta fa re ig : Int32} {h7 : Nat → Int64} (hY : w[Y]? = some (oM Y th st nu dg dd ld be ib ta fa re ig)) (a7 : w[Y + 7]? = some (aL 60 h7)) {Q : Option Value → Wd → Prop} (K : Q none (w.set (Y + 7) (aL 60 (ngF h7 60)))) : ∀ (z k : Nat), 60 = k + z → BX12_cores w0 Q (w.set (Y + 7) (aL 60 (ngF h7 k))) 72 [(1, .int (nI k)), (0, .ref Y)] [] := by
  intro z
  induction z with
  | zero =>
    intro k hz
    refine g_iload_n (pc := 72) 0 dX12_cores_72 rfl rfl ?_
    refine g_bipush (pc := 73) (v := nI 60) dX12_cores_73 (by decide) ?_
    refine n_icmp_ge (pc := 75) 97 dX12_cores_75 (by decide) (by omega) (by omega) (fun hb9 => ?_) (fun hb9 => ?_)
    · have e9 : k = 60 := by omega
      subst e9
      exact g_vret (pc := 97) dX12_cores_97 K
    · exact absurd hb9 (by omega)
  | succ z ih =>
    intro k hz
    refine g_iload_n (pc := 72) 0 dX12_cores_72 rfl rfl ?_
    refine g_bipush (pc := 73) (v := nI 60) dX12_cores_73 (by decide) ?_
    refine n_icmp_ge (pc := 75) 97 dX12_cores_75 (by decide) (by omega) (by omega) (fun hb9 => ?_) (fun hb9 => ?_)
    · exact absurd hb9 (by omega)
    · refine g_aload_n (pc := 78) 1 dX12_cores_78 rfl rfl ?_
      refine g_get (pc := 79) dX12_cores_79 fk_X12_29 (lk_ne (show (Y + 7) ≠ Y by omega) hY) rfl ?_
      refine g_iload_n (pc := 82) 0 dX12_cores_82 rfl rfl ?_
      refine g_aload_n (pc := 83) 1 dX12_cores_83 rfl rfl ?_
      refine g_get (pc := 84) dX12_cores_84 fk_X12_29 (lk_ne (show (Y + 7) ≠ Y by omega) hY) rfl ?_
      refine g_iload_n (pc := 87) 0 dX12_cores_87 rfl rfl ?_
      refine g_lald (pc := 88) k dX12_cores_88 (lk_eq a7) (IXn (by omega) (by omega)) ?_
      refine g_lneg (pc := 89) dX12_cores_89 ?_
      refine g_last (pc := 90) k dX12_cores_90 (lk_eq a7) (IXn (by omega) (by omega)) ?_
      refine GP.weq (w.set (Y + 7) (aL 60 (vp_updL (ngF h7 k) k (-((ngF h7 k) k))))) (by rw [List.set_set]) ?_
      refine n_iinc (pc := 91) (c := 1) [(1, .int (nI (k + 1))), (0, .ref Y)] 0 dX12_cores_91 rfl (by decide) (by decide) rfl ?_
      refine g_goto (pc := 94) 72 dX12_cores_94 (by decide) ?_
      rw [ngF_s]
      exact GP.lsub _ (by simp) (ih (k + 1) (by omega))
theorem crs_out {w0 w : Wd} {Y tl : Nat} {tb : Nat → Int32} {fa st : Int32} {rf : Nat → Nat} {sh : SV} {pn : Nat} {pk : Nat → Nat} {ps : Nat → SV} {im : Nat → Option SV} {T0 : Nat} {F0 : Nat → Int} : ∀ (z n T : Nat) (G : Nat → Int) (w1 : Wd), 43 = n + z → mdC w1 Y tl tb fa st rf sh pn pk ps im → haO w1 Y tl fa st pn G T → hgO G T → FR (hdS Y) w w1 → coM n F0 T0 G T → BX12_cores w0 (fun r w' => r = none ∧ ∃ G T, coM 43 F0 T0 G T ∧ hgO G T ∧ haO w' Y tl fa st pn (fun t => if G T < 0 then -G t else G t) T ∧ mdC w' Y tl tb fa st rf sh pn pk ps im ∧ FR (hdS Y) w w') w1 2 [(1, .int (nI n)), (0, .ref Y)] [] := by
  intro z
  induction z with
  | zero =>
    intro n T G w1 hz hM1 hA1 hG1 hF1 hO1
    have e9 : n = 43 := by omega
    subst e9
    obtain ⟨thE, ddE, ldE, beE, ibE, reE, igE, hE, cYE, c7E, hhE⟩ := id hA1
    have hT60 := hG1.1
    have hhT := hhE T hT60
    rw [if_pos (Nat.le_refl _)] at hhT
    refine g_iload_n (pc := 2) 0 dX12_cores_2 rfl rfl ?_
    refine g_bipush (pc := 3) (v := nI 42) dX12_cores_3 (by decide) ?_
    refine n_icmp_gt (pc := 5) 56 dX12_cores_5 (by decide) (by omega) (by omega) (fun hb9 => ?_) (fun hb9 => ?_)
    · refine g_aload_n (pc := 56) 1 dX12_cores_56 rfl rfl ?_
      refine g_get (pc := 57) dX12_cores_57 fk_X12_29 cYE rfl ?_
      refine g_aload_n (pc := 60) 1 dX12_cores_60 rfl rfl ?_
      refine g_get (pc := 61) dX12_cores_61 fk_X12_113 cYE rfl ?_
      refine g_lald (pc := 64) T dX12_cores_64 c7E (IXn (by omega) (by omega)) ?_
      refine g_lconst (pc := 65) (v := 0) dX12_cores_65 (by decide) ?_
      refine g_lcmp_ge (pc := 66) 97 dX12_cores_66 dX12_cores_67 (by decide) (fun hneg => ?_) (fun hneg => ?_)
      · rw [Int64.le_iff_toInt_le, L00, hhT] at hneg
        exact g_vret (pc := 97) dX12_cores_97 ⟨rfl, G, T, hO1, hG1, ⟨_, _, _, _, _, _, _, _, cYE, c7E, no_ng hhE (by omega)⟩, hM1, hF1⟩
      · rw [Int64.le_iff_toInt_le, L00, hhT] at hneg
        refine g_iconst (pc := 70) (v := nI 0) dX12_cores_70 (by decide) ?_
        refine g_istore_n (pc := 71) [(1, .int (nI 0)), (0, .ref Y)] dX12_cores_71 rfl (by decide) rfl ?_
        refine GP.weq (w1.set (Y + 7) (aL 60 (ngF hE 0))) (by rw [ngF_0, set_same c7E]) ?_
        obtain ⟨⟨f8, c8⟩, ⟨f9, c9⟩, ⟨f10, c10⟩, -⟩ := md_hd hM1
        obtain ⟨hM2, hF2⟩ := hM1.hd (FR.st FR.rf c7E (c' := aL 60 (ngF hE 60)) rfl (by unfold hdS; omega)) (lk_ne (by omega) cYE) (lk_eq c7E) (lk_ne (by omega) c8) (lk_ne (by omega) c9) (lk_ne (by omega) c10)
        exact GP.lsub _ (by simp) (crs_ng cYE c7E ⟨rfl, G, T, hO1, hG1, ⟨_, _, _, _, _, _, _, _, lk_ne (by omega) cYE, lk_eq c7E, ng_ha hhE hG1 (by omega)⟩, hM2, hF1.tr hF2⟩ 60 0 (by omega))
    · exact absurd (by decide) hb9
  | succ z ih =>
    intro n T G w1 hz hM1 hA1 hG1 hF1 hO1
    obtain ⟨thE, ddE, ldE, beE, ibE, reE, igE, hE, cYE, c7E, hhE⟩ := id hA1
    refine g_iload_n (pc := 2) 0 dX12_cores_2 rfl rfl ?_
    refine g_bipush (pc := 3) (v := nI 42) dX12_cores_3 (by decide) ?_
    refine n_icmp_gt (pc := 5) 56 dX12_cores_5 (by decide) (by omega) (by omega) (fun hb9 => ?_) (fun hb9 => ?_)
    · exact absurd hb9 (by omega)
    · have hnx : ∀ (c : Nat) (G2 : Nat → Int) (T2 : Nat) (w2 : Wd), mdC w2 Y tl tb fa st rf sh pn pk ps im → haO w2 Y tl fa st pn G2 T2 → hgO G2 T2 → FR (hdS Y) w w2 → ofM n c G T G2 T2 → (∀ q, ¬ dvM n G2 T2 q) → BX12_cores w0 (fun r w' => r = none ∧ ∃ G T, coM 43 F0 T0 G T ∧ hgO G T ∧ haO w' Y tl fa st pn (fun t => if G T < 0 then -G t else G t) T ∧ mdC w' Y tl tb fa st rf sh pn pk ps im ∧ FR (hdS Y) w w') w2 50 [(1, .int (nI n)), (0, .ref Y)] [] := by
        intro c G2 T2 w2 hM2 hA2 hG2 hF2 hO2 hno2
        refine n_iinc (pc := 50) (c := 1) [(1, .int (nI (n + 1))), (0, .ref Y)] 0 dX12_cores_50 rfl (by decide) (by decide) rfl ?_
        refine g_goto (pc := 53) 2 dX12_cores_53 (by decide) ?_
        exact GP.lsub _ (by simp) (ih (n + 1) T2 G2 w2 (by omega) hM2 hA2 hG2 hF2 ⟨G, T, c, hO1, hO2, hno2⟩)
      refine g_iload_n (pc := 8) 0 dX12_cores_8 rfl rfl ?_
      refine n_if_eq (pc := 9) 20 dX12_cores_9 (by decide) (by omega) (fun h0 => ?_) (fun h0 => ?_)
      · have hc : cyIs n := by rw [h0]; exact cyIs_0
        refine g_aload_n (pc := 20) 1 dX12_cores_20 rfl rfl ?_
        refine g_iload_n (pc := 21) 0 dX12_cores_21 rfl rfl ?_
        refine g_callV (pc := 22) [.int (nI n)] dX12_cores_22 cv_X12_157.1 cv_X12_157.2.1 cv_X12_157.2.2.1 cv_X12_157.2.2.2 cYE rfl rfl (Nat.le_of_ble_eq_true rfl) (by decide) (by decide) (mq_takeC _ hM1 (n := n) (by omega) hc hA1) ?_
        rintro _ w3 ⟨rfl, hD3, hM3, hF3⟩
        exact GP.lsub _ (by simp) (crs_in (n := n) (by omega) hc hnx T T 0 G w3 (Nat.le_refl _) hM3 hD3 hG1 (hF1.tr hF3) ⟨rfl, rfl⟩)
      · obtain ⟨-, -, -, f11, c11, h11⟩ := md_hd hM1
        refine g_aload_n (pc := 12) 1 dX12_cores_12 rfl rfl ?_
        refine g_iload_n (pc := 13) 0 dX12_cores_13 rfl rfl ?_
        refine g_callV (pc := 14) [.int (nI n)] dX12_cores_14 cv_X12_168.1 cv_X12_168.2.1 cv_X12_168.2.2.1 cv_X12_168.2.2.2 cYE rfl rfl (Nat.le_of_ble_eq_true rfl) (by decide) (by decide) (mp_isCircle _ cYE c11 h11) ?_
        rintro _ w9 (⟨rfl, hcy, e9⟩ | ⟨rfl, hcy, e9⟩)
        · refine GP.weq _ e9 ?_
          have hc : cyIs n := by
            obtain ⟨n2, e1, e2, -, e3⟩ := hcy
            rw [(nI_inj (by omega) (by omega)).mp e1]; exact e3
          refine n_if_eq (pc := 17) 50 dX12_cores_17 (by decide) (by omega) (fun hd9 => ?_) (fun hd9 => ?_)
          · exact absurd hd9 (by decide)
          · refine g_aload_n (pc := 20) 1 dX12_cores_20 rfl rfl ?_
            refine g_iload_n (pc := 21) 0 dX12_cores_21 rfl rfl ?_
            refine g_callV (pc := 22) [.int (nI n)] dX12_cores_22 cv_X12_157.1 cv_X12_157.2.1 cv_X12_157.2.2.1 cv_X12_157.2.2.2 cYE rfl rfl (Nat.le_of_ble_eq_true rfl) (by decide) (by decide) (mq_takeC _ hM1 (n := n) (by omega) hc hA1) ?_
            rintro _ w3 ⟨rfl, hD3, hM3, hF3⟩
            exact GP.lsub _ (by simp) (crs_in (n := n) (by omega) hc hnx T T 0 G w3 (Nat.le_refl _) hM3 hD3 hG1 (hF1.tr hF3) ⟨rfl, rfl⟩)
        · refine GP.weq _ e9 ?_
          refine n_if_eq (pc := 17) 50 dX12_cores_17 (by decide) (by omega) (fun hd9 => ?_) (fun hd9 => ?_)
          · exact GP.lsub _ (by simp) (hnx 0 G T w1 hM1 hA1 hG1 hF1 ⟨rfl, rfl⟩ (fun q g => hcy ⟨n, rfl, by omega, by omega, g.1⟩))
          · exact absurd rfl hd9
theorem mq_cores (w : Wd) {Y tl : Nat} {tb : Nat → Int32} {fa st : Int32} {rf : Nat → Nat} {sh : SV} {pn : Nat} {pk : Nat → Nat} {ps : Nat → SV} {im : Nat → Option SV} (hM : mdC w Y tl tb fa st rf sh pn pk ps im) {T0 : Nat} {F0 : Nat → Int} (hA : haO w Y tl fa st pn F0 T0) (hG : hgO F0 T0) : EX12_cores [.ref Y] w (fun r w' => r = none ∧ ∃ G T, coM 43 F0 T0 G T ∧ hgO G T ∧ haO w' Y tl fa st pn (fun t => if G T < 0 then -G t else G t) T ∧ mdC w' Y tl tb fa st rf sh pn pk ps im ∧ FR (hdS Y) w w') := by
  refine EP.of (plainFor_of_name (by decide)) [(0, .ref Y)] rfl (Nat.le_of_ble_eq_true rfl) (fun r wf h => by obtain ⟨rfl, -⟩ := h; trivial) ?_
  show BX12_cores w _ w 0 [(0, .ref Y)] []
  refine g_iconst (pc := 0) (v := nI 0) dX12_cores_0 (by decide) ?_
  refine g_istore_n (pc := 1) [(1, .int (nI 0)), (0, .ref Y)] dX12_cores_1 rfl (by decide) rfl ?_
  exact GP.lsub _ (by simp) (crs_out 43 0 T0 F0 w (by omega) hM hA hG FR.rf ⟨rfl, rfl⟩)
abbrev BX12_isOne (w0 : Wd) (Post : Option Value → Wd → Prop) (w : Wd) (pc : Nat) (ls : List (Nat × Value)) (st : List Value) : Prop := GP "isOne" RX12 cX12_isOne 1 (some .boolean) 3 117 none w0 Post w pc ls st
abbrev EX12_isOne (As : List Value) (w : Wd) (Post : Option Value → Wd → Prop) : Prop := EP yX12_isOne cX12_isOne 1 (some .boolean) 3 As w Post
theorem mq_isOne (w : Wd) {Y tl : Nat} {tb : Nat → Int32} {fa st : Int32} {rf : Nat → Nat} {sh : SV} {pn : Nat} {pk : Nat → Nat} {ps : Nat → SV} {im : Nat → Option SV} (hM : mdC w Y tl tb fa st rf sh pn pk ps im) {T0 : Nat} {F0 : Nat → Int} (hA : haO w Y tl fa st pn F0 T0) (hG : hgO F0 T0) : EX12_isOne [.ref Y] w (fun r w' => (r = some (.int (nI 1)) ∧ (∃ G, coM 43 F0 T0 G 0 ∧ (G 0 = 1 ∨ G 0 = -1)) ∧ mdC w' Y tl tb fa st rf sh pn pk ps im ∧ FR (hdS Y) w w') ∨ (r = some (.int (nI 0)) ∧ (∃ G T, coM 43 F0 T0 G T ∧ ¬ (T = 0 ∧ (G 0 = 1 ∨ G 0 = -1))) ∧ mdC w' Y tl tb fa st rf sh pn pk ps im ∧ FR (hdS Y) w w')) := by
  refine EP.of (plainFor_of_name (by decide)) [(0, .ref Y)] rfl (Nat.le_of_ble_eq_true rfl) (fun r wf h => by rcases h with ⟨rfl, -⟩ | ⟨rfl, -⟩; exact Or.inr rfl; exact Or.inl rfl) ?_
  show BX12_isOne w _ w 0 [(0, .ref Y)] []
  obtain ⟨thS, ddS, ldS, beS, ibS, reS, igS, hS, cYS, c7S, hhS⟩ := id hA
  refine g_aload_n (pc := 0) 0 dX12_isOne_0 rfl rfl ?_
  refine g_callV (pc := 1) [] dX12_isOne_1 cv_X12_172.1 cv_X12_172.2.1 cv_X12_172.2.2.1 cv_X12_172.2.2.2 cYS rfl rfl (Nat.le_of_ble_eq_true rfl) (by decide) (by decide) (mq_cores _ hM hA hG) ?_
  rintro _ w2 ⟨rfl, G, T, hO, hG2, hA2, hM2, hF2⟩
  obtain ⟨thB, ddB, ldB, beB, ibB, reB, igB, hB, cYB, c7B, hhB⟩ := id hA2
  have hT60 := hG2.1
  have hB0 := hhB 0 (by omega)
  rw [if_pos (Nat.zero_le _)] at hB0
  have hB0 : (hB 0).toInt = if G T < 0 then -G 0 else G 0 := hB0
  refine g_aload_n (pc := 4) 0 dX12_isOne_4 rfl rfl ?_
  refine g_get (pc := 5) dX12_isOne_5 fk_X12_113 cYB rfl ?_
  refine n_if_ne (pc := 8) 26 dX12_isOne_8 (by decide) (by omega) (fun h0 => ?_) (fun h0 => ?_)
  · refine g_iconst (pc := 26) (v := nI 0) dX12_isOne_26 (by decide) ?_
    exact g_iret (pc := 27) dX12_isOne_27 (Or.inr ⟨rfl, ⟨G, T, hO, fun g => h0 g.1⟩, hM2, hF2⟩)
  · subst h0
    refine g_aload_n (pc := 11) 0 dX12_isOne_11 rfl rfl ?_
    refine g_get (pc := 12) dX12_isOne_12 fk_X12_29 cYB rfl ?_
    refine g_iconst (pc := 15) (v := nI 0) dX12_isOne_15 (by decide) ?_
    refine g_lald (pc := 16) 0 dX12_isOne_16 c7B (IXn (by omega) (by omega)) ?_
    refine g_lconst (pc := 17) (v := 1) dX12_isOne_17 (by decide) ?_
    refine g_lcmp_ne (pc := 18) 26 dX12_isOne_18 dX12_isOne_19 (by decide) (fun h1 => ?_) (fun h1 => ?_)
    · have hn1 : ¬ (G 0 = 1 ∨ G 0 = -1) := fun g => h1 (Int64.toInt_inj.mp (by
        rw [hB0, L1]
        rcases g with g | g
        · rw [g]; rfl
        · rw [g]; rfl))
      refine g_iconst (pc := 26) (v := nI 0) dX12_isOne_26 (by decide) ?_
      exact g_iret (pc := 27) dX12_isOne_27 (Or.inr ⟨rfl, ⟨G, 0, hO, fun g => hn1 g.2⟩, hM2, hF2⟩)
    · rw [Classical.not_not] at h1
      have hn1 : G 0 = 1 ∨ G 0 = -1 := by
        rw [h1, L1] at hB0
        by_cases g : G 0 < 0
        · rw [if_pos g] at hB0; omega
        · rw [if_neg g] at hB0; omega
      refine g_iconst (pc := 22) (v := nI 1) dX12_isOne_22 (by decide) ?_
      refine g_goto (pc := 23) 27 dX12_isOne_23 (by decide) ?_
      exact g_iret (pc := 27) dX12_isOne_27 (Or.inl ⟨rfl, ⟨G, hO, hn1⟩, hM2, hF2⟩)
abbrev BX12_core (w0 : Wd) (Post : Option Value → Wd → Prop) (w : Wd) (pc : Nat) (ls : List (Nat × Value)) (st : List Value) : Prop := GP "core" RX12 cX12_core 3 (some .int) 3 117 none w0 Post w pc ls st
abbrev EX12_core (As : List Value) (w : Wd) (Post : Option Value → Wd → Prop) : Prop := EP yX12_core cX12_core 3 (some .int) 3 As w Post
theorem mq_core (w : Wd) {Y tl : Nat} {tb : Nat → Int32} {fa st : Int32} {rf : Nat → Nat} {sh : SV} {pn : Nat} {pk : Nat → Nat} {ps : Nat → SV} {im : Nat → Option SV} (hM : mdC w Y tl tb fa st rf sh pn pk ps im) {x z : Int32} : EX12_core [.ref Y, .int x, .int z] w (fun r w' => (¬ (isPl x ∧ isPl z) ∧ rfM (-2) 1 w Y tl tb fa rf sh pn pk ps im r w') ∨ (∃ i k G T', x = nI i ∧ i < 8 ∧ z = nI k ∧ k < 8 ∧ coM 43 (sh.1 i).2 (sh.1 i).1 G T' ∧ putM (fun t => if t ≤ T' then (if G T' < 0 then -G t else G t) else 0) 6 k w Y tl tb fa rf sh pn pk ps im r w')) := by
  refine EP.of (plainFor_of_name (by decide)) [(0, .ref Y), (1, .int x), (2, .int z)] rfl (Nat.le_of_ble_eq_true rfl) (fun r wf h => by rcases h with ⟨-, rfl, -⟩ | ⟨i, k, G, T, -, -, -, -, -, h⟩; trivial; obtain ⟨v, rfl⟩ := putM_int h; trivial) ?_
  show BX12_core w _ w 0 [(0, .ref Y), (1, .int x), (2, .int z)] []
  obtain ⟨⟨th, dg, dd, ld, be, ib, re, ig, hY⟩, ⟨⟨g1, a1, b1⟩, ⟨g2, a2, b2⟩, ⟨g3, g4, a3, a4, b3, b4⟩, ⟨g5, g6, a5, a6, b5⟩, ⟨g11, a11, b11⟩, ⟨g17, a17, b17⟩⟩, ⟨g7, g8, g9, g10, g12, g13, g14, g18, g19, g20, g21, a7, a8, a9, a10, a12, a13, a14, a18, a19, a20, a21⟩, ⟨g15, g16, a15, a16, b15⟩⟩ := id hM
  refine g_aload_n (pc := 0) 0 dX12_core_0 rfl rfl ?_
  refine g_iconst (pc := 1) (v := nI 0) dX12_core_1 (by decide) ?_
  refine g_put (pc := 2) (.int (nI 0) :: .int st :: .ref (Y + 1) :: .ref (Y + 2) :: .ref (Y + 3) :: .ref (Y + 4) :: .int (nI pn) :: .ref (Y + 5) :: .ref (Y + 6) :: .ref (Y + 7) :: .int dg :: .ref (Y + 8) :: .int dd :: .ref (Y + 9) :: .ref (Y + 10) :: .ref (Y + 11) :: .ref (Y + 12) :: .int ld :: .int be :: .int ib :: .ref (Y + 13) :: .ref (Y + 14) :: .ref (Y + 15) :: .ref (Y + 16) :: .ref (Y + 17) :: .int (nI tl) :: .int fa :: .int re :: .int ig :: .ref (Y + 18) :: .ref (Y + 19) :: .ref (Y + 20) :: .ref (Y + 21) :: []) dX12_core_2 fk_X12_83 hY (Nat.le_of_ble_eq_true rfl) rfl rfl ?_
  refine g_iload_n (pc := 5) 1 dX12_core_5 rfl rfl ?_
  refine g_callS (pc := 6) [.int x] dX12_core_6 cs_X12_277.1 cs_X12_277.2 rfl rfl (Nat.le_of_ble_eq_true rfl) (by decide) (by decide) (mp_isStore _) ?_
  rintro _ w9 (⟨rfl, hpi, e9⟩ | ⟨rfl, hpi, e9⟩)
  · refine GP.weq _ e9 ?_
    obtain ⟨i, rfl, hi⟩ := pl_of hpi
    refine n_if_eq (pc := 9) 19 dX12_core_9 (by decide) (by omega) (fun hd9 => ?_) (fun hd9 => ?_)
    · exact absurd hd9 (by decide)
    · refine g_iload_n (pc := 12) 2 dX12_core_12 rfl rfl ?_
      refine g_callS (pc := 13) [.int z] dX12_core_13 cs_X12_277.1 cs_X12_277.2 rfl rfl (Nat.le_of_ble_eq_true rfl) (by decide) (by decide) (mp_isStore _) ?_
      rintro _ w9 (⟨rfl, hpk, e9⟩ | ⟨rfl, hpk, e9⟩)
      · refine GP.weq _ e9 ?_
        obtain ⟨k, rfl, hk⟩ := pl_of hpk
        refine n_if_ne (pc := 16) 26 dX12_core_16 (by decide) (by omega) (fun hd9 => ?_) (fun hd9 => ?_)
        · have hok := row_ok b2 hi
          have hi12 := hok.1
          refine g_aload_n (pc := 26) 0 dX12_core_26 rfl rfl ?_
          refine g_iload_n (pc := 27) 1 dX12_core_27 rfl rfl ?_
          obtain ⟨w1, ew1⟩ : ∃ wy : Wd, wy = (w.set Y (.inr (11, .int (nI 0) :: .int st :: .ref (Y + 1) :: .ref (Y + 2) :: .ref (Y + 3) :: .ref (Y + 4) :: .int (nI pn) :: .ref (Y + 5) :: .ref (Y + 6) :: .ref (Y + 7) :: .int dg :: .ref (Y + 8) :: .int dd :: .ref (Y + 9) :: .ref (Y + 10) :: .ref (Y + 11) :: .ref (Y + 12) :: .int ld :: .int be :: .int ib :: .ref (Y + 13) :: .ref (Y + 14) :: .ref (Y + 15) :: .ref (Y + 16) :: .ref (Y + 17) :: .int (nI tl) :: .int fa :: .int re :: .int ig :: .ref (Y + 18) :: .ref (Y + 19) :: .ref (Y + 20) :: .ref (Y + 21) :: []))) := ⟨_, rfl⟩
          refine GP.weq w1 ew1.symm ?_
          have hMz : mdC w1 Y tl tb fa st rf sh pn pk ps im := by rw [ew1]; exact ⟨⟨_, _, _, _, _, _, _, _, (lk_eq hY)⟩, ⟨⟨_, (lk_ne (show Y ≠ (Y + 1) by omega) a1), b1⟩, ⟨_, (lk_ne (show Y ≠ (Y + 2) by omega) a2), b2⟩, ⟨_, _, (lk_ne (show Y ≠ (Y + 3) by omega) a3), (lk_ne (show Y ≠ (Y + 4) by omega) a4), b3, b4⟩, ⟨_, _, (lk_ne (show Y ≠ (Y + 5) by omega) a5), (lk_ne (show Y ≠ (Y + 6) by omega) a6), b5⟩, ⟨_, (lk_ne (show Y ≠ (Y + 11) by omega) a11), b11⟩, ⟨_, (lk_ne (show Y ≠ (Y + 17) by omega) a17), b17⟩⟩, ⟨_, _, _, _, _, _, _, _, _, _, _, (lk_ne (show Y ≠ (Y + 7) by omega) a7), (lk_ne (show Y ≠ (Y + 8) by omega) a8), (lk_ne (show Y ≠ (Y + 9) by omega) a9), (lk_ne (show Y ≠ (Y + 10) by omega) a10), (lk_ne (show Y ≠ (Y + 12) by omega) a12), (lk_ne (show Y ≠ (Y + 13) by omega) a13), (lk_ne (show Y ≠ (Y + 14) by omega) a14), (lk_ne (show Y ≠ (Y + 18) by omega) a18), (lk_ne (show Y ≠ (Y + 19) by omega) a19), (lk_ne (show Y ≠ (Y + 20) by omega) a20), (lk_ne (show Y ≠ (Y + 21) by omega) a21)⟩, ⟨_, _, (lk_ne (show Y ≠ (Y + 15) by omega) a15), (lk_ne (show Y ≠ (Y + 16) by omega) a16), b15⟩⟩
          have hFz : FR (modS Y) w w1 := by rw [ew1]; exact (FR.st (c' := .inr (11, .int (nI 0) :: .int st :: .ref (Y + 1) :: .ref (Y + 2) :: .ref (Y + 3) :: .ref (Y + 4) :: .int (nI pn) :: .ref (Y + 5) :: .ref (Y + 6) :: .ref (Y + 7) :: .int dg :: .ref (Y + 8) :: .int dd :: .ref (Y + 9) :: .ref (Y + 10) :: .ref (Y + 11) :: .ref (Y + 12) :: .int ld :: .int be :: .int ib :: .ref (Y + 13) :: .ref (Y + 14) :: .ref (Y + 15) :: .ref (Y + 16) :: .ref (Y + 17) :: .int (nI tl) :: .int fa :: .int re :: .int ig :: .ref (Y + 18) :: .ref (Y + 19) :: .ref (Y + 20) :: .ref (Y + 21) :: [])) FR.rf hY rfl (by unfold modS; omega))
          have cYz : w1[Y]? = some (.inr (11, .int (nI 0) :: .int st :: .ref (Y + 1) :: .ref (Y + 2) :: .ref (Y + 3) :: .ref (Y + 4) :: .int (nI pn) :: .ref (Y + 5) :: .ref (Y + 6) :: .ref (Y + 7) :: .int dg :: .ref (Y + 8) :: .int dd :: .ref (Y + 9) :: .ref (Y + 10) :: .ref (Y + 11) :: .ref (Y + 12) :: .int ld :: .int be :: .int ib :: .ref (Y + 13) :: .ref (Y + 14) :: .ref (Y + 15) :: .ref (Y + 16) :: .ref (Y + 17) :: .int (nI tl) :: .int fa :: .int re :: .int ig :: .ref (Y + 18) :: .ref (Y + 19) :: .ref (Y + 20) :: .ref (Y + 21) :: [])) := by rw [ew1]; exact (lk_eq hY)
          obtain ⟨⟨thz, dgz, ddz, ldz, bez, ibz, rez, igz, hYz⟩, ⟨⟨g1z, a1z, b1z⟩, ⟨g2z, a2z, b2z⟩, ⟨g3z, g4z, a3z, a4z, b3z, b4z⟩, ⟨g5z, g6z, a5z, a6z, b5z⟩, ⟨g11z, a11z, b11z⟩, ⟨g17z, a17z, b17z⟩⟩, ⟨g7z, g8z, g9z, g10z, g12z, g13z, g14z, g18z, g19z, g20z, g21z, a7z, a8z, a9z, a10z, a12z, a13z, a14z, a18z, a19z, a20z, a21z⟩, ⟨g15z, g16z, a15z, a16z, b15z⟩⟩ := id hMz
          refine g_callV (pc := 28) [.int (nI i)] dX12_core_28 cv_X12_295.1 cv_X12_295.2.1 cv_X12_295.2.2.1 cv_X12_295.2.2.2 cYz rfl rfl (Nat.le_of_ble_eq_true rfl) (by decide) (by decide) (mq_takeH _ hMz hi) ?_
          rintro _ w2 ⟨rfl, hA2, hM2, hF2⟩
          have hF2 := hdm hF2
          obtain ⟨thA, ddA, ldA, beA, ibA, reA, igA, hA, cYA, c7A, hhA⟩ := id hA2
          refine g_aload_n (pc := 31) 0 dX12_core_31 rfl rfl ?_
          have hG : hgO (sh.1 i).2 (sh.1 i).1 := ⟨by omega, hok.2.2.1, fun t ht => by have := hok.2.1 t ht; omega⟩
          refine g_callV (pc := 32) [] dX12_core_32 cv_X12_172.1 cv_X12_172.2.1 cv_X12_172.2.2.1 cv_X12_172.2.2.2 cYA rfl rfl (Nat.le_of_ble_eq_true rfl) (by decide) (by decide) (mq_cores _ hM2 hA2 hG) ?_
          rintro _ w3 ⟨rfl, G, T', hO, hG3, hA3, hM3, hF3⟩
          have hF3 := hdm hF3
          have hTl := coM_le hO
          obtain ⟨thB, ddB, ldB, beB, ibB, reB, igB, hB, cYB, c7B, hhB⟩ := id hA3
          refine g_aload_n (pc := 35) 0 dX12_core_35 rfl rfl ?_
          refine g_iload_n (pc := 36) 2 dX12_core_36 rfl rfl ?_
          refine g_bipush (pc := 37) (v := nI 6) dX12_core_37 (by decide) ?_
          refine g_callV (pc := 39) [.int (nI k), .int (nI 6)] dX12_core_39 cv_X12_286.1 cv_X12_286.2.1 cv_X12_286.2.2.1 cv_X12_286.2.2.2 cYB rfl rfl (Nat.le_of_ble_eq_true rfl) (by decide) (by decide) (mq_put _ hM3 (kd := 6) (k := k) (F := fun t => if t ≤ T' then (if G T' < 0 then -G t else G t) else 0) c7B hhB (fun t h1 h2 => if_neg (by omega)) hk) ?_
          rintro rz wq hR
          obtain ⟨vz, rfl⟩ : ∃ vz, rz = some (.int vz) := putM_int hR
          exact g_iret (pc := 42) dX12_core_42 (Or.inr ⟨i, k, G, T', rfl, hi, rfl, hk, hO, putM.fr hR (hFz.tr (hF2.tr hF3))⟩)
        · exact absurd hd9 (by decide)
      · refine GP.weq _ e9 ?_
        refine n_if_ne (pc := 16) 26 dX12_core_16 (by decide) (by omega) (fun hd9 => ?_) (fun hd9 => ?_)
        · exact absurd rfl hd9
        · refine g_aload_n (pc := 19) 0 dX12_core_19 rfl rfl ?_
          refine g_bipush (pc := 20) (v := -2) dX12_core_20 (by decide) ?_
          obtain ⟨wr, ewr⟩ : ∃ wy : Wd, wy = (w.set Y (.inr (11, .int (nI 0) :: .int st :: .ref (Y + 1) :: .ref (Y + 2) :: .ref (Y + 3) :: .ref (Y + 4) :: .int (nI pn) :: .ref (Y + 5) :: .ref (Y + 6) :: .ref (Y + 7) :: .int dg :: .ref (Y + 8) :: .int dd :: .ref (Y + 9) :: .ref (Y + 10) :: .ref (Y + 11) :: .ref (Y + 12) :: .int ld :: .int be :: .int ib :: .ref (Y + 13) :: .ref (Y + 14) :: .ref (Y + 15) :: .ref (Y + 16) :: .ref (Y + 17) :: .int (nI tl) :: .int fa :: .int re :: .int ig :: .ref (Y + 18) :: .ref (Y + 19) :: .ref (Y + 20) :: .ref (Y + 21) :: []))) := ⟨_, rfl⟩
          refine GP.weq wr ewr.symm ?_
          have hMr : mdC wr Y tl tb fa st rf sh pn pk ps im := by rw [ewr]; exact ⟨⟨_, _, _, _, _, _, _, _, (lk_eq hY)⟩, ⟨⟨_, (lk_ne (show Y ≠ (Y + 1) by omega) a1), b1⟩, ⟨_, (lk_ne (show Y ≠ (Y + 2) by omega) a2), b2⟩, ⟨_, _, (lk_ne (show Y ≠ (Y + 3) by omega) a3), (lk_ne (show Y ≠ (Y + 4) by omega) a4), b3, b4⟩, ⟨_, _, (lk_ne (show Y ≠ (Y + 5) by omega) a5), (lk_ne (show Y ≠ (Y + 6) by omega) a6), b5⟩, ⟨_, (lk_ne (show Y ≠ (Y + 11) by omega) a11), b11⟩, ⟨_, (lk_ne (show Y ≠ (Y + 17) by omega) a17), b17⟩⟩, ⟨_, _, _, _, _, _, _, _, _, _, _, (lk_ne (show Y ≠ (Y + 7) by omega) a7), (lk_ne (show Y ≠ (Y + 8) by omega) a8), (lk_ne (show Y ≠ (Y + 9) by omega) a9), (lk_ne (show Y ≠ (Y + 10) by omega) a10), (lk_ne (show Y ≠ (Y + 12) by omega) a12), (lk_ne (show Y ≠ (Y + 13) by omega) a13), (lk_ne (show Y ≠ (Y + 14) by omega) a14), (lk_ne (show Y ≠ (Y + 18) by omega) a18), (lk_ne (show Y ≠ (Y + 19) by omega) a19), (lk_ne (show Y ≠ (Y + 20) by omega) a20), (lk_ne (show Y ≠ (Y + 21) by omega) a21)⟩, ⟨_, _, (lk_ne (show Y ≠ (Y + 15) by omega) a15), (lk_ne (show Y ≠ (Y + 16) by omega) a16), b15⟩⟩
          have hFr : FR (modS Y) w wr := by rw [ewr]; exact (FR.st (c' := .inr (11, .int (nI 0) :: .int st :: .ref (Y + 1) :: .ref (Y + 2) :: .ref (Y + 3) :: .ref (Y + 4) :: .int (nI pn) :: .ref (Y + 5) :: .ref (Y + 6) :: .ref (Y + 7) :: .int dg :: .ref (Y + 8) :: .int dd :: .ref (Y + 9) :: .ref (Y + 10) :: .ref (Y + 11) :: .ref (Y + 12) :: .int ld :: .int be :: .int ib :: .ref (Y + 13) :: .ref (Y + 14) :: .ref (Y + 15) :: .ref (Y + 16) :: .ref (Y + 17) :: .int (nI tl) :: .int fa :: .int re :: .int ig :: .ref (Y + 18) :: .ref (Y + 19) :: .ref (Y + 20) :: .ref (Y + 21) :: [])) FR.rf hY rfl (by unfold modS; omega))
          refine g_callV (pc := 22) [.int (-2)] dX12_core_22 cv_X12_96.1 cv_X12_96.2.1 cv_X12_96.2.2.1 cv_X12_96.2.2.2 (by rw [ewr]; exact (lk_eq hY)) rfl rfl (Nat.le_of_ble_eq_true rfl) (by decide) (by decide) (mq_refuse2 _ hMr) ?_
          rintro _ wq ⟨rfl, hR⟩
          exact g_iret (pc := 25) dX12_core_25 (Or.inl ⟨fun g => hpk g.2, ⟨rfl, hR.1, hFr.tr hR.2⟩⟩)
  · refine GP.weq _ e9 ?_
    refine n_if_eq (pc := 9) 19 dX12_core_9 (by decide) (by omega) (fun hd9 => ?_) (fun hd9 => ?_)
    · refine g_aload_n (pc := 19) 0 dX12_core_19 rfl rfl ?_
      refine g_bipush (pc := 20) (v := -2) dX12_core_20 (by decide) ?_
      obtain ⟨wr, ewr⟩ : ∃ wy : Wd, wy = (w.set Y (.inr (11, .int (nI 0) :: .int st :: .ref (Y + 1) :: .ref (Y + 2) :: .ref (Y + 3) :: .ref (Y + 4) :: .int (nI pn) :: .ref (Y + 5) :: .ref (Y + 6) :: .ref (Y + 7) :: .int dg :: .ref (Y + 8) :: .int dd :: .ref (Y + 9) :: .ref (Y + 10) :: .ref (Y + 11) :: .ref (Y + 12) :: .int ld :: .int be :: .int ib :: .ref (Y + 13) :: .ref (Y + 14) :: .ref (Y + 15) :: .ref (Y + 16) :: .ref (Y + 17) :: .int (nI tl) :: .int fa :: .int re :: .int ig :: .ref (Y + 18) :: .ref (Y + 19) :: .ref (Y + 20) :: .ref (Y + 21) :: []))) := ⟨_, rfl⟩
      refine GP.weq wr ewr.symm ?_
      have hMr : mdC wr Y tl tb fa st rf sh pn pk ps im := by rw [ewr]; exact ⟨⟨_, _, _, _, _, _, _, _, (lk_eq hY)⟩, ⟨⟨_, (lk_ne (show Y ≠ (Y + 1) by omega) a1), b1⟩, ⟨_, (lk_ne (show Y ≠ (Y + 2) by omega) a2), b2⟩, ⟨_, _, (lk_ne (show Y ≠ (Y + 3) by omega) a3), (lk_ne (show Y ≠ (Y + 4) by omega) a4), b3, b4⟩, ⟨_, _, (lk_ne (show Y ≠ (Y + 5) by omega) a5), (lk_ne (show Y ≠ (Y + 6) by omega) a6), b5⟩, ⟨_, (lk_ne (show Y ≠ (Y + 11) by omega) a11), b11⟩, ⟨_, (lk_ne (show Y ≠ (Y + 17) by omega) a17), b17⟩⟩, ⟨_, _, _, _, _, _, _, _, _, _, _, (lk_ne (show Y ≠ (Y + 7) by omega) a7), (lk_ne (show Y ≠ (Y + 8) by omega) a8), (lk_ne (show Y ≠ (Y + 9) by omega) a9), (lk_ne (show Y ≠ (Y + 10) by omega) a10), (lk_ne (show Y ≠ (Y + 12) by omega) a12), (lk_ne (show Y ≠ (Y + 13) by omega) a13), (lk_ne (show Y ≠ (Y + 14) by omega) a14), (lk_ne (show Y ≠ (Y + 18) by omega) a18), (lk_ne (show Y ≠ (Y + 19) by omega) a19), (lk_ne (show Y ≠ (Y + 20) by omega) a20), (lk_ne (show Y ≠ (Y + 21) by omega) a21)⟩, ⟨_, _, (lk_ne (show Y ≠ (Y + 15) by omega) a15), (lk_ne (show Y ≠ (Y + 16) by omega) a16), b15⟩⟩
      have hFr : FR (modS Y) w wr := by rw [ewr]; exact (FR.st (c' := .inr (11, .int (nI 0) :: .int st :: .ref (Y + 1) :: .ref (Y + 2) :: .ref (Y + 3) :: .ref (Y + 4) :: .int (nI pn) :: .ref (Y + 5) :: .ref (Y + 6) :: .ref (Y + 7) :: .int dg :: .ref (Y + 8) :: .int dd :: .ref (Y + 9) :: .ref (Y + 10) :: .ref (Y + 11) :: .ref (Y + 12) :: .int ld :: .int be :: .int ib :: .ref (Y + 13) :: .ref (Y + 14) :: .ref (Y + 15) :: .ref (Y + 16) :: .ref (Y + 17) :: .int (nI tl) :: .int fa :: .int re :: .int ig :: .ref (Y + 18) :: .ref (Y + 19) :: .ref (Y + 20) :: .ref (Y + 21) :: [])) FR.rf hY rfl (by unfold modS; omega))
      refine g_callV (pc := 22) [.int (-2)] dX12_core_22 cv_X12_96.1 cv_X12_96.2.1 cv_X12_96.2.2.1 cv_X12_96.2.2.2 (by rw [ewr]; exact (lk_eq hY)) rfl rfl (Nat.le_of_ble_eq_true rfl) (by decide) (by decide) (mq_refuse2 _ hMr) ?_
      rintro _ wq ⟨rfl, hR⟩
      exact g_iret (pc := 25) dX12_core_25 (Or.inl ⟨fun g => hpi g.1, ⟨rfl, hR.1, hFr.tr hR.2⟩⟩)
    · exact absurd rfl hd9
