/-! Gauge: root -/
theorem gauC.keep {S : Nat → Prop} {w w' : Wd} {G : Nat} {bb bl : Int32} (h : gauC w G bb bl) (hF : FR S w w') (hS : ∀ i, S i → G + 16 ≤ i ∧ i ≤ G + 23) (h16 : whC w' (G + 16) 8) (h18 : whC w' (G + 18) 64) (h20 : whC w' (G + 20) 128) (h22 : whC w' (G + 22) 128) : gauC w' G bb bl := by
  obtain ⟨g1, g2, g3, -⟩ := h
  have hS2 : ∀ i, S i → ¬ (G + 1 ≤ i ∧ i ≤ G + 15) ∧ ¬ (G + 24 ≤ i ∧ i ≤ G + 39) := fun i hi => by
    have := hS i hi
    omega
  exact ⟨hF.lk (fun g => by have := hS _ g; omega) g1, g2.fr hF hS2, g3.fr hF hS2, h16, h18, h20, h22⟩
/-- the greatest t up to 2^28 - 1 of which the power 2^s is not above B -/
def isRoot (B s t : Nat) : Prop := t ≤ 268435455 ∧ t ^ (2 ^ s) ≤ B ∧ (t = 268435455 ∨ B < (t + 1) ^ (2 ^ s))
abbrev BX2_root (w0 : Wd) (Post : Option Value → Wd → Prop) (w : Wd) (pc : Nat) (ls : List (Nat × Value)) (st : List Value) : Prop := GP "root" RX2 cX2_root 3 (some .int) 4 156 none w0 Post w pc ls st
abbrev EX2_root (As : List Value) (w : Wd) (Post : Option Value → Wd → Prop) : Prop := EP yX2_root cX2_root 3 (some .int) 4 As w Post
theorem rt_loop {w0 w : Wd} {G B s : Nat} {bb bl : Int32} (hs : s ≤ 7) : ∀ (z g : Nat) (w1 : Wd), 268435455 = g + z → g ^ (2 ^ s) ≤ B → gauC w1 G bb bl → whV w1 (G + 18) 64 (B : Int) → FR (powS G) w w1 → BX2_root w0 (fun r w' => ∃ t : Nat, r = some (.int (nI t)) ∧ isRoot B s t ∧ gauC w' G bb bl ∧ FR (powS G) w w') w1 6 [(2, .int (nI g)), (0, .ref G), (1, .int (nI s))] [] := by
  intro z
  induction z with
  | zero =>
    intro g w1 hz hg2 hG hV hF
    refine g_iload_n (pc := 6) 0 dX2_root_6 rfl rfl ?_
    refine g_ldc (pc := 7) kc_X2_121 dX2_root_7 ?_
    refine GP.ti (nI 268435455) (by decide) ?_
    refine n_icmp_ge (pc := 9) 36 dX2_root_9 (by decide) (by omega) (by omega) (fun hb => ?_) (fun hb => ?_)
    · refine g_iload_n (pc := 36) 0 dX2_root_36 rfl rfl ?_
      exact g_iret (pc := 37) dX2_root_37 ⟨g, rfl, ⟨by omega, hg2, Or.inl (by omega)⟩, hG, hF⟩
    · exact absurd hb (by omega)
  | succ z ih =>
    intro g w1 hz hg2 hG hV hF
    have hg := hG.1
    refine g_iload_n (pc := 6) 0 dX2_root_6 rfl rfl ?_
    refine g_ldc (pc := 7) kc_X2_121 dX2_root_7 ?_
    refine GP.ti (nI 268435455) (by decide) ?_
    refine n_icmp_ge (pc := 9) 36 dX2_root_9 (by decide) (by omega) (by omega) (fun hb => ?_) (fun hb => ?_)
    · exact absurd hb (by omega)
    · refine g_aload_n (pc := 12) 1 dX2_root_12 rfl rfl ?_
      refine g_iload_n (pc := 13) 0 dX2_root_13 rfl rfl ?_
      refine g_iconst (pc := 14) (v := nI 1) dX2_root_14 (by decide) ?_
      refine n_iadd (pc := 15) dX2_root_15 ?_
      refine g_iload_n (pc := 16) 2 dX2_root_16 rfl rfl ?_
      refine g_callV (pc := 17) [.int (nI (g + 1)), .int (nI s)] dX2_root_17 cv_X2_110.1 cv_X2_110.2.1 cv_X2_110.2.2.1 cv_X2_110.2.2.2 hg rfl rfl (Nat.le_of_ble_eq_true rfl) (by decide) (by decide) (sp_powerOf _ (x := g + 1) (s := s) hG (by omega) hs) ?_
      rintro _ w2 ⟨qo, rfl, hqo, hV2, h20, h22, hF2⟩
      have hV3 := hV.fr hF2 (by unfold powS; omega) (by unfold powS; omega)
      have hG2 := hG.keep hF2 (fun i hi => by unfold powS at hi; omega) (hG.2.2.2.1.fr hF2 (by unfold powS; omega) (by unfold powS; omega)) hV3.c h20 h22
      have hg3 := hG2.1
      obtain ⟨nq, dq, hq1, -⟩ := id hV2
      refine g_aload_n (pc := 20) 1 dX2_root_20 rfl rfl ?_
      refine g_get (pc := 21) dX2_root_21 fk_X2_29 hg3 rfl ?_
      refine g_callV (pc := 24) [.ref (G + 18)] dX2_root_24 cv_X2_122.1 cv_X2_122.2.1 cv_X2_122.2.2.1 cv_X2_122.2.2.2 hq1 rfl rfl (Nat.le_of_ble_eq_true rfl) (by decide) (by decide) (wh_isAbove _ hV2 hV3 (by decide) (by decide)) ?_
      rintro _ w9 (⟨rfl, hlt, e9⟩ | ⟨rfl, hlt, e9⟩)
      · refine GP.weq _ e9 ?_
        refine n_if_ne (pc := 27) 36 dX2_root_27 (by decide) (by omega) (fun hc => ?_) (fun hc => ?_)
        · refine g_iload_n (pc := 36) 0 dX2_root_36 rfl rfl ?_
          exact g_iret (pc := 37) dX2_root_37 ⟨g, rfl, ⟨by omega, hg2, Or.inr (Int.ofNat_lt.mp hlt)⟩, hG2, hF.tr hF2⟩
        · exact absurd hc (by decide)
      · refine GP.weq _ e9 ?_
        refine n_if_ne (pc := 27) 36 dX2_root_27 (by decide) (by omega) (fun hc => ?_) (fun hc => ?_)
        · exact absurd rfl hc
        · refine n_iinc (pc := 30) (c := 1) [(2, .int (nI (g + 1))), (0, .ref G), (1, .int (nI s))] 0 dX2_root_30 rfl (by decide) (by decide) rfl ?_
          refine g_goto (pc := 33) 6 dX2_root_33 (by decide) ?_
          exact GP.lsub _ (by simp) (ih (g + 1) w2 (by omega) (by have h9 : ((g + 1) ^ 2 ^ s) ≤ B := Int.ofNat_le.mp (Int.not_lt.mp hlt); exact h9) hG2 hV3 (hF.tr hF2))
theorem sp_root (w : Wd) {G B s : Nat} {bb bl : Int32} (hG : gauC w G bb bl) (hV : whV w (G + 18) 64 (B : Int)) (hs : s ≤ 7) : EX2_root [.ref G, .int (nI s)] w (fun r w' => ∃ t : Nat, r = some (.int (nI t)) ∧ isRoot B s t ∧ gauC w' G bb bl ∧ FR (powS G) w w') := by
  refine EP.of (plainFor_of_name (by decide)) [(0, .ref G), (1, .int (nI s))] rfl (Nat.le_of_ble_eq_true rfl) (fun r wf h => by obtain ⟨q, rfl, -⟩ := h; trivial) ?_
  show BX2_root w _ w 0 [(0, .ref G), (1, .int (nI s))] []
  have hg := hG.1
  refine g_aload_n (pc := 0) 0 dX2_root_0 rfl rfl ?_
  refine g_iload_n (pc := 1) 1 dX2_root_1 rfl rfl ?_
  refine g_callV (pc := 2) [.int (nI s)] dX2_root_2 cv_X2_118.1 cv_X2_118.2.1 cv_X2_118.2.2.1 cv_X2_118.2.2.2 hg rfl rfl (Nat.le_of_ble_eq_true rfl) (by decide) (by decide) (sp_guessRoot _ (s := s) hg hV hs) ?_
  rintro _ _ ⟨g, rfl, hg1, hg2, rfl⟩
  refine g_istore_n (pc := 5) [(2, .int (nI g)), (0, .ref G), (1, .int (nI s))] dX2_root_5 rfl (by decide) rfl ?_
  exact GP.lsub _ (by simp) (rt_loop hs (268435455 - g) g _ (by omega) hg2 hG hV FR.rf)
