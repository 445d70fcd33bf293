/-! the reference: layBounds, enclosed, least -/
theorem bl_0 {F : Nat → Int} {n t : Nat} (h : lowF F n 0 t) : bestLow F n 0 0 t := ⟨fun _ => t, fun j hj => by rw [show j = 0 by omega]; exact h, Nat.le_refl _, rfl, fun _ _ => Nat.le_refl _, fun j hj => absurd hj (by omega)⟩
theorem bh_0 {F : Nat → Int} {n t : Nat} (h : highF F n 0 t) : bestHigh F n 0 0 t := ⟨fun _ => t, fun j hj => by rw [show j = 0 by omega]; exact h, Nat.le_refl _, rfl, fun _ _ => Nat.le_refl _, fun j hj => absurd hj (by omega)⟩
theorem bl_s {F : Nat → Int} {n k kb t u : Nat} (h : bestLow F n k kb t) (hu : lowF F n (k + 1) u) : (t < u → bestLow F n (k + 1) (k + 1) u) ∧ (¬ t < u → bestLow F n (k + 1) kb t) := by
  obtain ⟨L, h1, h2, h3, h4, h5⟩ := h
  have g1 : ∀ j, j ≤ k + 1 → lowF F n j (setO L (k + 1) u j) := fun j hj => by
    by_cases e : j = k + 1
    · rw [e, setO_s]; exact hu
    · rw [setO_n e]; exact h1 j (by omega)
  constructor
  · intro hlt
    refine ⟨setO L (k + 1) u, g1, Nat.le_refl _, by rw [setO_s], fun j hj => ?_, fun j hj => ?_⟩
    · rw [setO_s]
      by_cases e : j = k + 1
      · rw [e, setO_s]; exact Nat.le_refl _
      · rw [setO_n e]; have := h4 j (by omega); omega
    · rw [setO_s, setO_n (by omega)]; have := h4 j (by omega); omega
  · intro hge
    refine ⟨setO L (k + 1) u, g1, by omega, by rw [setO_n (by omega)]; exact h3, fun j hj => ?_, fun j hj => ?_⟩
    · rw [setO_n (show kb ≠ k + 1 by omega)]
      by_cases e : j = k + 1
      · rw [e, setO_s]; omega
      · rw [setO_n e]; exact h4 j (by omega)
    · rw [setO_n (show kb ≠ k + 1 by omega), setO_n (by omega)]; exact h5 j hj
theorem bh_s {F : Nat → Int} {n k kb t u : Nat} (h : bestHigh F n k kb t) (hu : highF F n (k + 1) u) : (u < t → bestHigh F n (k + 1) (k + 1) u) ∧ (¬ u < t → bestHigh F n (k + 1) kb t) := by
  obtain ⟨L, h1, h2, h3, h4, h5⟩ := h
  have g1 : ∀ j, j ≤ k + 1 → highF F n j (setO L (k + 1) u j) := fun j hj => by
    by_cases e : j = k + 1
    · rw [e, setO_s]; exact hu
    · rw [setO_n e]; exact h1 j (by omega)
  constructor
  · intro hlt
    refine ⟨setO L (k + 1) u, g1, Nat.le_refl _, by rw [setO_s], fun j hj => ?_, fun j hj => ?_⟩
    · rw [setO_s]
      by_cases e : j = k + 1
      · rw [e, setO_s]; exact Nat.le_refl _
      · rw [setO_n e]; have := h4 j (by omega); omega
    · rw [setO_s, setO_n (by omega)]; have := h4 j (by omega); omega
  · intro hge
    refine ⟨setO L (k + 1) u, g1, by omega, by rw [setO_n (by omega)]; exact h3, fun j hj => ?_, fun j hj => ?_⟩
    · rw [setO_n (show kb ≠ k + 1 by omega)]
      by_cases e : j = k + 1
      · rw [e, setO_s]; omega
      · rw [setO_n e]; exact h4 j (by omega)
    · rw [setO_n (show kb ≠ k + 1 by omega), setO_n (by omega)]; exact h5 j hj
def lbJ (F : Nat → Int) (n k : Nat) (bo : Nat → Int32) : Prop := ∃ kl tl kh th, bestLow F n k kl tl ∧ bestHigh F n k kh th ∧ bo 0 = nI tl ∧ bo 1 = nI th ∧ bo 2 = nI kl ∧ bo 3 = nI kh ∧ tl ≤ 129987000 ∧ th ≤ 129987000
def bdS (Y i : Nat) : Prop := Y + 19 ≤ i ∧ i ≤ Y + 21
theorem mdC.bd {w w' : Wd} {Y tl : Nat} {tb : Nat → Int32} {fa st : Int32} {rf : Nat → Nat} {sh : SV} {pn : Nat} {pk : Nat → Nat} {ps : Nat → SV} {im : Nat → Option SV} (hM : mdC w Y tl tb fa st rf sh pn pk ps im) (hR : FR (bdS Y) w w') {bo lo hi : Nat → Int32} (h19 : w'[Y + 19]? = some (aI 0 4 bo)) (h20 : w'[Y + 20]? = some (aI 0 8 lo)) (h21 : w'[Y + 21]? = some (aI 0 8 hi)) : mdC w' Y tl tb fa st rf sh pn pk ps im ∧ FR (modS Y) w w' := by
  have L : ∀ i c, i < 19 → w[Y + i]? = some c → w'[Y + i]? = some c := fun i c h hc => hR.lk (by unfold bdS; omega) hc
  refine ⟨?_, hR.mono (fun i h => by unfold bdS at h; unfold modS; omega)⟩
  obtain ⟨⟨th, dg, dd, ld, be, ib, re, ig, hY⟩, ⟨⟨g1, a1, b1⟩, ⟨g2, a2, b2⟩, ⟨g3, g4, a3, a4, b3, b4⟩, ⟨g5, g6, a5, a6, b5⟩, ⟨g11, a11, b11⟩, ⟨g17, a17, b17⟩⟩, ⟨g7, g8, g9, g10, g12, g13, g14, g18, g19, g20, g21, a7, a8, a9, a10, a12, a13, a14, a18, a19, a20, a21⟩, ⟨g15, g16, a15, a16, b15⟩⟩ := hM
  exact ⟨⟨th, dg, dd, ld, be, ib, re, ig, L 0 _ (by omega) hY⟩, ⟨⟨g1, L 1 _ (by omega) a1, b1⟩, ⟨g2, L 2 _ (by omega) a2, b2⟩, ⟨g3, g4, L 3 _ (by omega) a3, L 4 _ (by omega) a4, b3, b4⟩, ⟨g5, g6, L 5 _ (by omega) a5, L 6 _ (by omega) a6, b5⟩, ⟨g11, L 11 _ (by omega) a11, b11⟩, ⟨g17, L 17 _ (by omega) a17, b17⟩⟩, ⟨g7, g8, g9, g10, g12, g13, g14, g18, bo, lo, hi, L 7 _ (by omega) a7, L 8 _ (by omega) a8, L 9 _ (by omega) a9, L 10 _ (by omega) a10, L 12 _ (by omega) a12, L 13 _ (by omega) a13, L 14 _ (by omega) a14, L 18 _ (by omega) a18, h19, h20, h21⟩, ⟨g15, g16, L 15 _ (by omega) a15, L 16 _ (by omega) a16, b15⟩⟩
theorem onM.bd {w w' : Wd} {Y T : Nat} {Q : PV} (h : onM w Y Q T) (hR : FR (bdS Y) w w') : onM w' Y Q T := by
  obtain ⟨⟨th, st, nu, dg, dd, ib, ta, fa, re, ig, hY⟩, l, h12, hl⟩ := h
  exact ⟨⟨th, st, nu, dg, dd, ib, ta, fa, re, ig, hR.lk (by unfold bdS; omega) hY⟩, l, hR.lk (by unfold bdS; omega) h12, hl⟩
theorem md_2021 {w : Wd} {Y tl : Nat} {tb : Nat → Int32} {fa st : Int32} {rf : Nat → Nat} {sh : SV} {pn : Nat} {pk : Nat → Nat} {ps : Nat → SV} {im : Nat → Option SV} (hM : mdC w Y tl tb fa st rf sh pn pk ps im) : (∃ f, w[Y + 19]? = some (aI 0 4 f)) ∧ (∃ f, w[Y + 20]? = some (aI 0 8 f)) ∧ ∃ f, w[Y + 21]? = some (aI 0 8 f) := by
  obtain ⟨-, -, ⟨g7, g8, g9, g10, g12, g13, g14, g18, g19, g20, g21, a7, a8, a9, a10, a12, a13, a14, a18, a19, a20, a21⟩, -⟩ := hM
  exact ⟨⟨_, a19⟩, ⟨_, a20⟩, ⟨_, a21⟩⟩
abbrev BX12_layBounds (w0 : Wd) (Post : Option Value → Wd → Prop) (w : Wd) (pc : Nat) (ls : List (Nat × Value)) (st : List Value) : Prop := GP "layBounds" RX12 cX12_layBounds 5 none 5 195 none w0 Post w pc ls st
abbrev EX12_layBounds (As : List Value) (w : Wd) (Post : Option Value → Wd → Prop) : Prop := EP yX12_layBounds cX12_layBounds 5 none 5 As w Post
theorem lb_loop {w0 w : Wd} {Y tl : Nat} {tb : Nat → Int32} {fa st : Int32} {rf : Nat → Nat} {sh : SV} {pn : Nat} {pk : Nat → Nat} {ps : Nat → SV} {im : Nat → Option SV} {i T : Nat} (hok : okP (sh.1 i)) (htp : topL (sh.1 i).2 (sh.1 i).1 6 T) (hT6 : T ≤ 6) : ∀ (z k : Nat) (w1 : Wd) (bo : Nat → Int32), T + 1 = k + z → mdC w1 Y tl tb fa st rf sh pn pk ps im → onM w1 Y (sh.1 i) T → w1[Y + 19]? = some (aI 0 4 bo) → FR (modS Y) w w1 → (∀ c, w[Y + 20]? = some c → w1[Y + 20]? = some c) → (∀ c, w[Y + 21]? = some c → w1[Y + 21]? = some c) → (k = 0 ∨ lbJ (sh.1 i).2 (sh.1 i).1 (k - 1) bo) → BX12_layBounds w0 (fun r w' => r = none ∧ ∃ T bo, topL (sh.1 i).2 (sh.1 i).1 6 T ∧ w'[Y + 19]? = some (aI 0 4 bo) ∧ lbJ (sh.1 i).2 (sh.1 i).1 T bo ∧ mdC w' Y tl tb fa st rf sh pn pk ps im ∧ FR (modS Y) w w' ∧ (∀ c, w[Y + 20]? = some c → w'[Y + 20]? = some c) ∧ ∀ c, w[Y + 21]? = some c → w'[Y + 21]? = some c) w1 11 [(2, .int (nI k)), (1, .int (nI i)), (0, .ref Y)] [] := by
  intro z
  induction z with
  | zero =>
    intro k w1 bo hz hM1 hon hbo hF1 k20 k21 hI
    obtain ⟨⟨th9, st9, nu9, dg9, dd9, ib9, ta9, fa9, re9, ig9, cY⟩, l, c12, hll⟩ := id hon
    refine g_iload_n (pc := 11) 0 dX12_layBounds_11 rfl rfl ?_
    refine g_aload_n (pc := 12) 2 dX12_layBounds_12 rfl rfl ?_
    refine g_get (pc := 13) dX12_layBounds_13 fk_X12_196 cY rfl ?_
    refine n_icmp_gt (pc := 16) 96 dX12_layBounds_16 (by decide) (by omega) (by omega) (fun hb9 => ?_) (fun hb9 => ?_)
    · have e9 : k = T + 1 := by omega
      rw [e9] at hI
      exact g_vret (pc := 96) dX12_layBounds_96 ⟨rfl, T, bo, htp, hbo, hI.resolve_left (by omega), hM1, hF1, k20, k21⟩
    · exact absurd (show T < k by omega) hb9
  | succ z ih =>
    intro k w1 bo hz hM1 hon hbo hF1 k20 k21 hI
    obtain ⟨⟨th9, st9, nu9, dg9, dd9, ib9, ta9, fa9, re9, ig9, cY⟩, l, c12, hll⟩ := id hon
    refine g_iload_n (pc := 11) 0 dX12_layBounds_11 rfl rfl ?_
    refine g_aload_n (pc := 12) 2 dX12_layBounds_12 rfl rfl ?_
    refine g_get (pc := 13) dX12_layBounds_13 fk_X12_196 cY rfl ?_
    refine n_icmp_gt (pc := 16) 96 dX12_layBounds_16 (by decide) (by omega) (by omega) (fun hb9 => ?_) (fun hb9 => ?_)
    · exact absurd hb9 (by omega)
    · refine g_aload_n (pc := 19) 2 dX12_layBounds_19 rfl rfl ?_
      refine g_iload_n (pc := 20) 0 dX12_layBounds_20 rfl rfl ?_
      refine g_callV (pc := 21) [.int (nI k)] dX12_layBounds_21 cv_X12_315.1 cv_X12_315.2.1 cv_X12_315.2.2.1 cv_X12_315.2.2.2 cY rfl rfl (Nat.le_of_ble_eq_true rfl) (by decide) (by decide) (onM_lowOf _ hM1.o hon hok hT6 (show k ≤ T by omega)) ?_
      rintro _ w2 ⟨tl9, rfl, hl1, hl2, hO2, hR2⟩
      obtain ⟨hM2, hF2⟩ := hM1.nu hR2 hO2
      have hon2 := hon.nu hR2
      refine g_istore_n (pc := 24) [(3, .int (nI tl9)), (2, .int (nI k)), (1, .int (nI i)), (0, .ref Y)] dX12_layBounds_24 rfl (by decide) rfl ?_
      refine g_aload_n (pc := 25) 3 dX12_layBounds_25 rfl rfl ?_
      refine g_iload_n (pc := 26) 1 dX12_layBounds_26 rfl rfl ?_
      refine g_callV (pc := 27) [.int (nI k)] dX12_layBounds_27 cv_X12_312.1 cv_X12_312.2.1 cv_X12_312.2.2.1 cv_X12_312.2.2.2 (hR2.lk (by unfold nuS2; omega) cY) rfl rfl (Nat.le_of_ble_eq_true rfl) (by decide) (by decide) (onM_highOf _ hM2.o hon2 hok hT6 (show k ≤ T by omega)) ?_
      rintro _ w3 ⟨th8, rfl, hh1, hh2, hO3, hR3⟩
      obtain ⟨hM3, hF3⟩ := hM2.nu hR3 hO3
      have hon3 := hon2.nu hR3
      have hR9 := hR2.tr hR3
      have c19 := hR9.lk (show ¬ nuS2 Y (Y + 19) by unfold nuS2; omega) hbo
      have k20' : ∀ c, w[Y + 20]? = some c → w3[Y + 20]? = some c := fun c h => hR9.lk (show ¬ nuS2 Y (Y + 20) by unfold nuS2; omega) (k20 c h)
      have k21' : ∀ c, w[Y + 21]? = some c → w3[Y + 21]? = some c := fun c h => hR9.lk (show ¬ nuS2 Y (Y + 21) by unfold nuS2; omega) (k21 c h)
      obtain ⟨-, ⟨lo8, c20⟩, ⟨hi8, c21⟩⟩ := md_2021 hM3
      refine g_istore (pc := 30) [(4, .int (nI th8)), (3, .int (nI tl9)), (2, .int (nI k)), (1, .int (nI i)), (0, .ref Y)] dX12_layBounds_30 (by decide) rfl ?_
      refine g_iload_n (pc := 32) 2 dX12_layBounds_32 rfl rfl ?_
      refine n_if_eq (pc := 33) 46 dX12_layBounds_33 (by decide) (by omega) (fun hk0 => ?_) (fun hk0 => ?_)
      · subst hk0
        refine g_aload_n (pc := 46) 4 dX12_layBounds_46 rfl rfl ?_
        refine g_get (pc := 47) dX12_layBounds_47 fk_X12_71 (hR9.lk (by unfold nuS2; omega) cY) rfl ?_
        refine g_iconst (pc := 50) (v := nI 0) dX12_layBounds_50 (by decide) ?_
        refine g_iload_n (pc := 51) 1 dX12_layBounds_51 rfl rfl ?_
        refine g_iast (pc := 52) 0 dX12_layBounds_52 c19 (IXn (by omega) (by omega)) ?_
        refine g_aload_n (pc := 53) 4 dX12_layBounds_53 rfl rfl ?_
        refine g_get (pc := 54) dX12_layBounds_54 fk_X12_71 (lk_ne (show (Y + 19) ≠ Y by omega) (hR9.lk (by unfold nuS2; omega) cY)) rfl ?_
        refine g_iconst (pc := 57) (v := nI 2) dX12_layBounds_57 (by decide) ?_
        refine g_iload_n (pc := 58) 2 dX12_layBounds_58 rfl rfl ?_
        refine g_iast (pc := 59) 2 dX12_layBounds_59 (lk_eq c19) (IXn (by omega) (by omega)) ?_
        refine GP.weq (w3.set (Y + 19) (aI 0 4 (upd (upd bo 0 (nI tl9)) 2 (nI 0)))) (by rw [List.set_set]) ?_
        refine g_iload_n (pc := 60) 2 dX12_layBounds_60 rfl rfl ?_
        refine n_if_eq (pc := 61) 75 dX12_layBounds_61 (by decide) (by omega) (fun hk9 => ?_) (fun hk9 => ?_)
        · refine g_aload_n (pc := 75) 4 dX12_layBounds_75 rfl rfl ?_
          refine g_get (pc := 76) dX12_layBounds_76 fk_X12_71 (lk_ne (show (Y + 19) ≠ Y by omega) (hR9.lk (by unfold nuS2; omega) cY)) rfl ?_
          refine g_iconst (pc := 79) (v := nI 1) dX12_layBounds_79 (by decide) ?_
          refine g_iload (pc := 80) 0 dX12_layBounds_80 rfl ?_
          refine g_iast (pc := 82) 1 dX12_layBounds_82 (lk_eq c19) (IXn (by omega) (by omega)) ?_
          refine GP.weq (w3.set (Y + 19) (aI 0 4 (upd (upd (upd bo 0 (nI tl9)) 2 (nI 0)) 1 (nI th8)))) (by rw [List.set_set]) ?_
          refine g_aload_n (pc := 83) 4 dX12_layBounds_83 rfl rfl ?_
          refine g_get (pc := 84) dX12_layBounds_84 fk_X12_71 (lk_ne (show (Y + 19) ≠ Y by omega) (hR9.lk (by unfold nuS2; omega) cY)) rfl ?_
          refine g_iconst (pc := 87) (v := nI 3) dX12_layBounds_87 (by decide) ?_
          refine g_iload_n (pc := 88) 2 dX12_layBounds_88 rfl rfl ?_
          refine g_iast (pc := 89) 3 dX12_layBounds_89 (lk_eq c19) (IXn (by omega) (by omega)) ?_
          refine GP.weq (w3.set (Y + 19) (aI 0 4 (upd (upd (upd (upd bo 0 (nI tl9)) 2 (nI 0)) 1 (nI th8)) 3 (nI 0)))) (by rw [List.set_set]) ?_
          refine n_iinc (pc := 90) (c := 1) [(2, .int (nI (0 + 1))), (4, .int (nI th8)), (3, .int (nI tl9)), (1, .int (nI i)), (0, .ref Y)] 2 dX12_layBounds_90 rfl (by decide) (by decide) rfl ?_
          refine g_goto (pc := 93) 11 dX12_layBounds_93 (by decide) ?_
          have hRb : FR (bdS Y) w3 (w3.set (Y + 19) (aI 0 4 (upd (upd (upd (upd bo 0 (nI tl9)) 2 (nI 0)) 1 (nI th8)) 3 (nI 0)))) := (FR.st (c' := aI 0 4 (upd (upd (upd (upd bo 0 (nI tl9)) 2 (nI 0)) 1 (nI th8)) 3 (nI 0))) FR.rf c19 rfl (by unfold bdS; omega))
          obtain ⟨hM4, hF4⟩ := hM3.bd hRb (lk_eq c19) (lk_ne (by omega) c20) (lk_ne (by omega) c21)
          exact GP.lsub _ (by simp) (ih (0 + 1) _ _ (by omega) hM4 (hon3.bd hRb) (lk_eq c19) (hF1.tr (hF2.tr (hF3.tr hF4))) (fun c h => lk_ne (by omega) (k20' c h)) (fun c h => lk_ne (by omega) (k21' c h)) (Or.inr ⟨0, tl9, 0, th8, bl_0 hl1, bh_0 hh1, rfl, rfl, rfl, rfl, hl2, hh2⟩))
        · exact absurd rfl hk9
      · obtain ⟨kl, tl8, kh, th7, i1, i2, i3, i4, i5, i6, i7, i8⟩ := hI.resolve_left hk0
        obtain ⟨k9, hk9⟩ : ∃ k9, k = k9 + 1 := ⟨k - 1, by omega⟩
        rw [show k - 1 = k9 by omega] at i1 i2
        rw [hk9] at hl1 hh1
        have hL := bl_s i1 hl1
        have hH := bh_s i2 hh1
        rw [← hk9] at hL hH
        refine g_iload_n (pc := 36) 1 dX12_layBounds_36 rfl rfl ?_
        refine g_aload_n (pc := 37) 4 dX12_layBounds_37 rfl rfl ?_
        refine g_get (pc := 38) dX12_layBounds_38 fk_X12_71 (hR9.lk (by unfold nuS2; omega) cY) rfl ?_
        refine g_iconst (pc := 41) (v := nI 0) dX12_layBounds_41 (by decide) ?_
        refine g_iald (pc := 42) 0 dX12_layBounds_42 c19 (IXn (by omega) (by omega)) ?_
        refine GP.ti (nI tl8) i3 ?_
        refine n_icmp_le (pc := 43) 60 dX12_layBounds_43 (by decide) (by omega) (by omega) (fun hlw => ?_) (fun hlw => ?_)
        · refine g_iload_n (pc := 60) 2 dX12_layBounds_60 rfl rfl ?_
          refine n_if_eq (pc := 61) 75 dX12_layBounds_61 (by decide) (by omega) (fun hk8 => ?_) (fun hk8 => ?_)
          · exact absurd hk8 (by omega)
          · refine g_iload (pc := 64) 0 dX12_layBounds_64 rfl ?_
            refine g_aload_n (pc := 66) 4 dX12_layBounds_66 rfl rfl ?_
            refine g_get (pc := 67) dX12_layBounds_67 fk_X12_71 (hR9.lk (by unfold nuS2; omega) cY) rfl ?_
            refine g_iconst (pc := 70) (v := nI 1) dX12_layBounds_70 (by decide) ?_
            refine g_iald (pc := 71) 1 dX12_layBounds_71 c19 (IXn (by omega) (by omega)) ?_
            refine GP.ti (nI th7) i4 ?_
            refine n_icmp_ge (pc := 72) 90 dX12_layBounds_72 (by decide) (by omega) (by omega) (fun hhg => ?_) (fun hhg => ?_)
            · refine n_iinc (pc := 90) (c := 1) [(2, .int (nI (k + 1))), (4, .int (nI th8)), (3, .int (nI tl9)), (1, .int (nI i)), (0, .ref Y)] 2 dX12_layBounds_90 rfl (by decide) (by decide) rfl ?_
              refine g_goto (pc := 93) 11 dX12_layBounds_93 (by decide) ?_
              exact GP.lsub _ (by simp) (ih (k + 1) w3 bo (by omega) hM3 hon3 c19 (hF1.tr (hF2.tr hF3)) k20' k21' (Or.inr ⟨kl, tl8, kh, th7, (hL.2 (by omega)), (hH.2 (by omega)), i3, i4, i5, i6, by omega, by omega⟩))
            · refine g_aload_n (pc := 75) 4 dX12_layBounds_75 rfl rfl ?_
              refine g_get (pc := 76) dX12_layBounds_76 fk_X12_71 (hR9.lk (by unfold nuS2; omega) cY) rfl ?_
              refine g_iconst (pc := 79) (v := nI 1) dX12_layBounds_79 (by decide) ?_
              refine g_iload (pc := 80) 0 dX12_layBounds_80 rfl ?_
              refine g_iast (pc := 82) 1 dX12_layBounds_82 c19 (IXn (by omega) (by omega)) ?_
              refine g_aload_n (pc := 83) 4 dX12_layBounds_83 rfl rfl ?_
              refine g_get (pc := 84) dX12_layBounds_84 fk_X12_71 (lk_ne (show (Y + 19) ≠ Y by omega) (hR9.lk (by unfold nuS2; omega) cY)) rfl ?_
              refine g_iconst (pc := 87) (v := nI 3) dX12_layBounds_87 (by decide) ?_
              refine g_iload_n (pc := 88) 2 dX12_layBounds_88 rfl rfl ?_
              refine g_iast (pc := 89) 3 dX12_layBounds_89 (lk_eq c19) (IXn (by omega) (by omega)) ?_
              refine GP.weq (w3.set (Y + 19) (aI 0 4 (upd (upd bo 1 (nI th8)) 3 (nI k)))) (by rw [List.set_set]) ?_
              refine n_iinc (pc := 90) (c := 1) [(2, .int (nI (k + 1))), (4, .int (nI th8)), (3, .int (nI tl9)), (1, .int (nI i)), (0, .ref Y)] 2 dX12_layBounds_90 rfl (by decide) (by decide) rfl ?_
              refine g_goto (pc := 93) 11 dX12_layBounds_93 (by decide) ?_
              have hRb : FR (bdS Y) w3 (w3.set (Y + 19) (aI 0 4 (upd (upd bo 1 (nI th8)) 3 (nI k)))) := (FR.st (c' := aI 0 4 (upd (upd bo 1 (nI th8)) 3 (nI k))) FR.rf c19 rfl (by unfold bdS; omega))
              obtain ⟨hM4, hF4⟩ := hM3.bd hRb (lk_eq c19) (lk_ne (by omega) c20) (lk_ne (by omega) c21)
              exact GP.lsub _ (by simp) (ih (k + 1) _ _ (by omega) hM4 (hon3.bd hRb) (lk_eq c19) (hF1.tr (hF2.tr (hF3.tr hF4))) (fun c h => lk_ne (by omega) (k20' c h)) (fun c h => lk_ne (by omega) (k21' c h)) (Or.inr ⟨kl, tl8, k, th8, (hL.2 (by omega)), (hH.1 (by omega)), i3, rfl, i5, rfl, by omega, by omega⟩))
        · refine g_aload_n (pc := 46) 4 dX12_layBounds_46 rfl rfl ?_
          refine g_get (pc := 47) dX12_layBounds_47 fk_X12_71 (hR9.lk (by unfold nuS2; omega) cY) rfl ?_
          refine g_iconst (pc := 50) (v := nI 0) dX12_layBounds_50 (by decide) ?_
          refine g_iload_n (pc := 51) 1 dX12_layBounds_51 rfl rfl ?_
          refine g_iast (pc := 52) 0 dX12_layBounds_52 c19 (IXn (by omega) (by omega)) ?_
          refine g_aload_n (pc := 53) 4 dX12_layBounds_53 rfl rfl ?_
          refine g_get (pc := 54) dX12_layBounds_54 fk_X12_71 (lk_ne (show (Y + 19) ≠ Y by omega) (hR9.lk (by unfold nuS2; omega) cY)) rfl ?_
          refine g_iconst (pc := 57) (v := nI 2) dX12_layBounds_57 (by decide) ?_
          refine g_iload_n (pc := 58) 2 dX12_layBounds_58 rfl rfl ?_
          refine g_iast (pc := 59) 2 dX12_layBounds_59 (lk_eq c19) (IXn (by omega) (by omega)) ?_
          refine GP.weq (w3.set (Y + 19) (aI 0 4 (upd (upd bo 0 (nI tl9)) 2 (nI k)))) (by rw [List.set_set]) ?_
          refine g_iload_n (pc := 60) 2 dX12_layBounds_60 rfl rfl ?_
          refine n_if_eq (pc := 61) 75 dX12_layBounds_61 (by decide) (by omega) (fun hk8 => ?_) (fun hk8 => ?_)
          · exact absurd hk8 (by omega)
          · refine g_iload (pc := 64) 0 dX12_layBounds_64 rfl ?_
            refine g_aload_n (pc := 66) 4 dX12_layBounds_66 rfl rfl ?_
            refine g_get (pc := 67) dX12_layBounds_67 fk_X12_71 (lk_ne (show (Y + 19) ≠ Y by omega) (hR9.lk (by unfold nuS2; omega) cY)) rfl ?_
            refine g_iconst (pc := 70) (v := nI 1) dX12_layBounds_70 (by decide) ?_
            refine g_iald (pc := 71) 1 dX12_layBounds_71 (lk_eq c19) (IXn (by omega) (by omega)) ?_
            refine GP.ti (nI th7) (by show upd (upd bo 0 (nI tl9)) 2 (nI k) 1 = _; rw [upd_n (by decide), upd_n (by decide)]; exact i4) ?_
            refine n_icmp_ge (pc := 72) 90 dX12_layBounds_72 (by decide) (by omega) (by omega) (fun hhg => ?_) (fun hhg => ?_)
            · refine n_iinc (pc := 90) (c := 1) [(2, .int (nI (k + 1))), (4, .int (nI th8)), (3, .int (nI tl9)), (1, .int (nI i)), (0, .ref Y)] 2 dX12_layBounds_90 rfl (by decide) (by decide) rfl ?_
              refine g_goto (pc := 93) 11 dX12_layBounds_93 (by decide) ?_
              have hRb : FR (bdS Y) w3 (w3.set (Y + 19) (aI 0 4 (upd (upd bo 0 (nI tl9)) 2 (nI k)))) := (FR.st (c' := aI 0 4 (upd (upd bo 0 (nI tl9)) 2 (nI k))) FR.rf c19 rfl (by unfold bdS; omega))
              obtain ⟨hM4, hF4⟩ := hM3.bd hRb (lk_eq c19) (lk_ne (by omega) c20) (lk_ne (by omega) c21)
              exact GP.lsub _ (by simp) (ih (k + 1) _ _ (by omega) hM4 (hon3.bd hRb) (lk_eq c19) (hF1.tr (hF2.tr (hF3.tr hF4))) (fun c h => lk_ne (by omega) (k20' c h)) (fun c h => lk_ne (by omega) (k21' c h)) (Or.inr ⟨k, tl9, kh, th7, (hL.1 (by omega)), (hH.2 (by omega)), rfl, i4, rfl, i6, by omega, by omega⟩))
            · refine g_aload_n (pc := 75) 4 dX12_layBounds_75 rfl rfl ?_
              refine g_get (pc := 76) dX12_layBounds_76 fk_X12_71 (lk_ne (show (Y + 19) ≠ Y by omega) (hR9.lk (by unfold nuS2; omega) cY)) rfl ?_
              refine g_iconst (pc := 79) (v := nI 1) dX12_layBounds_79 (by decide) ?_
              refine g_iload (pc := 80) 0 dX12_layBounds_80 rfl ?_
              refine g_iast (pc := 82) 1 dX12_layBounds_82 (lk_eq c19) (IXn (by omega) (by omega)) ?_
              refine GP.weq (w3.set (Y + 19) (aI 0 4 (upd (upd (upd bo 0 (nI tl9)) 2 (nI k)) 1 (nI th8)))) (by rw [List.set_set]) ?_
              refine g_aload_n (pc := 83) 4 dX12_layBounds_83 rfl rfl ?_
              refine g_get (pc := 84) dX12_layBounds_84 fk_X12_71 (lk_ne (show (Y + 19) ≠ Y by omega) (hR9.lk (by unfold nuS2; omega) cY)) rfl ?_
              refine g_iconst (pc := 87) (v := nI 3) dX12_layBounds_87 (by decide) ?_
              refine g_iload_n (pc := 88) 2 dX12_layBounds_88 rfl rfl ?_
              refine g_iast (pc := 89) 3 dX12_layBounds_89 (lk_eq c19) (IXn (by omega) (by omega)) ?_
              refine GP.weq (w3.set (Y + 19) (aI 0 4 (upd (upd (upd (upd bo 0 (nI tl9)) 2 (nI k)) 1 (nI th8)) 3 (nI k)))) (by rw [List.set_set]) ?_
              refine n_iinc (pc := 90) (c := 1) [(2, .int (nI (k + 1))), (4, .int (nI th8)), (3, .int (nI tl9)), (1, .int (nI i)), (0, .ref Y)] 2 dX12_layBounds_90 rfl (by decide) (by decide) rfl ?_
              refine g_goto (pc := 93) 11 dX12_layBounds_93 (by decide) ?_
              have hRb : FR (bdS Y) w3 (w3.set (Y + 19) (aI 0 4 (upd (upd (upd (upd bo 0 (nI tl9)) 2 (nI k)) 1 (nI th8)) 3 (nI k)))) := (FR.st (c' := aI 0 4 (upd (upd (upd (upd bo 0 (nI tl9)) 2 (nI k)) 1 (nI th8)) 3 (nI k))) FR.rf c19 rfl (by unfold bdS; omega))
              obtain ⟨hM4, hF4⟩ := hM3.bd hRb (lk_eq c19) (lk_ne (by omega) c20) (lk_ne (by omega) c21)
              exact GP.lsub _ (by simp) (ih (k + 1) _ _ (by omega) hM4 (hon3.bd hRb) (lk_eq c19) (hF1.tr (hF2.tr (hF3.tr hF4))) (fun c h => lk_ne (by omega) (k20' c h)) (fun c h => lk_ne (by omega) (k21' c h)) (Or.inr ⟨k, tl9, k, th8, (hL.1 (by omega)), (hH.1 (by omega)), rfl, rfl, rfl, rfl, by omega, by omega⟩))
theorem mq_layBounds (w : Wd) {Y tl : Nat} {tb : Nat → Int32} {fa st : Int32} {rf : Nat → Nat} {sh : SV} {pn : Nat} {pk : Nat → Nat} {ps : Nat → SV} {im : Nat → Option SV} (hM : mdC w Y tl tb fa st rf sh pn pk ps im) {i : Nat} (hi : i < 8) : EX12_layBounds [.ref Y, .int (nI i)] w (fun r w' => r = none ∧ ∃ T bo, topL (sh.1 i).2 (sh.1 i).1 6 T ∧ w'[Y + 19]? = some (aI 0 4 bo) ∧ lbJ (sh.1 i).2 (sh.1 i).1 T bo ∧ mdC w' Y tl tb fa st rf sh pn pk ps im ∧ FR (modS Y) w w' ∧ (∀ c, w[Y + 20]? = some c → w'[Y + 20]? = some c) ∧ ∀ c, w[Y + 21]? = some c → w'[Y + 21]? = some c) := by
  refine EP.of (plainFor_of_name (by decide)) [(0, .ref Y), (1, .int (nI i))] rfl (Nat.le_of_ble_eq_true rfl) (fun r wf h => by obtain ⟨rfl, -⟩ := h; trivial) ?_
  show BX12_layBounds w _ w 0 [(0, .ref Y), (1, .int (nI i))] []
  obtain ⟨⟨th, dg, dd, ld, be, ib, re, ig, hY⟩, ⟨⟨g1, a1, b1⟩, ⟨g2, a2, b2⟩, ⟨g3, g4, a3, a4, b3, b4⟩, ⟨g5, g6, a5, a6, b5⟩, ⟨g11, a11, b11⟩, ⟨g17, a17, b17⟩⟩, ⟨g7, g8, g9, g10, g12, g13, g14, g18, g19, g20, g21, a7, a8, a9, a10, a12, a13, a14, a18, a19, a20, a21⟩, ⟨g15, g16, a15, a16, b15⟩⟩ := id hM
  have hd12 := ok_12 b2 hi
  have hok := row_ok b2 hi
  refine g_aload_n (pc := 0) 0 dX12_layBounds_0 rfl rfl ?_
  refine g_iload_n (pc := 1) 1 dX12_layBounds_1 rfl rfl ?_
  refine g_callV (pc := 2) [.int (nI i)] dX12_layBounds_2 cv_X12_295.1 cv_X12_295.2.1 cv_X12_295.2.2.1 cv_X12_295.2.2.2 hY rfl rfl (Nat.le_of_ble_eq_true rfl) (by decide) (by decide) (mp_take _ hY a2 a7 b2 hi) ?_
  rintro _ w9 ⟨rfl, h, hh, e9⟩
  refine GP.weq _ e9 ?_
  refine g_aload_n (pc := 5) 0 dX12_layBounds_5 rfl rfl ?_
  refine g_callV (pc := 6) [] dX12_layBounds_6 cv_X12_303.1 cv_X12_303.2.1 cv_X12_303.2.2.1 cv_X12_303.2.2.2 (lk_eq (lk_ne (show (Y + 7) ≠ Y by omega) hY)) rfl rfl (Nat.le_of_ble_eq_true rfl) (by decide) (by decide) (mp_layLevels _ (F := (sh.1 i).2) (lk_eq (lk_ne (show (Y + 7) ≠ Y by omega) hY)) (lk_ne (show Y ≠ (Y + 7) by omega) (lk_eq a7)) (lk_ne (show Y ≠ (Y + 12) by omega) (lk_ne (show (Y + 7) ≠ (Y + 12) by omega) a12)) hd12 (fun j hj => hh j (by omega))) ?_
  rintro _ w9 ⟨rfl, T, bb, l, hTT, hll, e9⟩
  refine GP.weq _ e9 ?_
  refine GP.weq (((w.set (Y + 7) (aL 60 h)).set Y (.inr (11, .int th :: .int st :: .ref (Y + 1) :: .ref (Y + 2) :: .ref (Y + 3) :: .ref (Y + 4) :: .int (nI pn) :: .ref (Y + 5) :: .ref (Y + 6) :: .ref (Y + 7) :: .int (nI ((sh.1 i).1)) :: .ref (Y + 8) :: .int dd :: .ref (Y + 9) :: .ref (Y + 10) :: .ref (Y + 11) :: .ref (Y + 12) :: .int (nI ((sh.1 i).1)) :: .int (nI T) :: .int (nI bb) :: .ref (Y + 13) :: .ref (Y + 14) :: .ref (Y + 15) :: .ref (Y + 16) :: .ref (Y + 17) :: .int (nI tl) :: .int fa :: .int re :: .int ig :: .ref (Y + 18) :: .ref (Y + 19) :: .ref (Y + 20) :: .ref (Y + 21) :: []))).set (Y + 12) (aL 91 l)) (by rw [show ((((w.set (Y + 7) (aL 60 h)).set Y (.inr (11, .int th :: .int st :: .ref (Y + 1) :: .ref (Y + 2) :: .ref (Y + 3) :: .ref (Y + 4) :: .int (nI pn) :: .ref (Y + 5) :: .ref (Y + 6) :: .ref (Y + 7) :: .int (nI ((sh.1 i).1)) :: .ref (Y + 8) :: .int dd :: .ref (Y + 9) :: .ref (Y + 10) :: .ref (Y + 11) :: .ref (Y + 12) :: .int ld :: .int be :: .int ib :: .ref (Y + 13) :: .ref (Y + 14) :: .ref (Y + 15) :: .ref (Y + 16) :: .ref (Y + 17) :: .int (nI tl) :: .int fa :: .int re :: .int ig :: .ref (Y + 18) :: .ref (Y + 19) :: .ref (Y + 20) :: .ref (Y + 21) :: []))).set (Y + 12) (aL 91 l)).set Y (.inr (11, .int th :: .int st :: .ref (Y + 1) :: .ref (Y + 2) :: .ref (Y + 3) :: .ref (Y + 4) :: .int (nI pn) :: .ref (Y + 5) :: .ref (Y + 6) :: .ref (Y + 7) :: .int (nI ((sh.1 i).1)) :: .ref (Y + 8) :: .int dd :: .ref (Y + 9) :: .ref (Y + 10) :: .ref (Y + 11) :: .ref (Y + 12) :: .int (nI ((sh.1 i).1)) :: .int (nI T) :: .int (nI bb) :: .ref (Y + 13) :: .ref (Y + 14) :: .ref (Y + 15) :: .ref (Y + 16) :: .ref (Y + 17) :: .int (nI tl) :: .int fa :: .int re :: .int ig :: .ref (Y + 18) :: .ref (Y + 19) :: .ref (Y + 20) :: .ref (Y + 21) :: []))) = (((w.set (Y + 7) (aL 60 h)).set Y (.inr (11, .int th :: .int st :: .ref (Y + 1) :: .ref (Y + 2) :: .ref (Y + 3) :: .ref (Y + 4) :: .int (nI pn) :: .ref (Y + 5) :: .ref (Y + 6) :: .ref (Y + 7) :: .int (nI ((sh.1 i).1)) :: .ref (Y + 8) :: .int dd :: .ref (Y + 9) :: .ref (Y + 10) :: .ref (Y + 11) :: .ref (Y + 12) :: .int (nI ((sh.1 i).1)) :: .int (nI T) :: .int (nI bb) :: .ref (Y + 13) :: .ref (Y + 14) :: .ref (Y + 15) :: .ref (Y + 16) :: .ref (Y + 17) :: .int (nI tl) :: .int fa :: .int re :: .int ig :: .ref (Y + 18) :: .ref (Y + 19) :: .ref (Y + 20) :: .ref (Y + 21) :: []))).set (Y + 12) (aL 91 l)) from by rw [List.set_comm _ _ (show (Y + 12) ≠ Y by omega), List.set_set]]) ?_
  have hT6 := hTT.1
  refine g_iconst (pc := 9) (v := nI 0) dX12_layBounds_9 (by decide) ?_
  refine g_istore_n (pc := 10) [(2, .int (nI 0)), (0, .ref Y), (1, .int (nI i))] dX12_layBounds_10 rfl (by decide) rfl ?_
  obtain ⟨w1, ew1⟩ : ∃ wy : Wd, wy = (((w.set (Y + 7) (aL 60 h)).set Y (.inr (11, .int th :: .int st :: .ref (Y + 1) :: .ref (Y + 2) :: .ref (Y + 3) :: .ref (Y + 4) :: .int (nI pn) :: .ref (Y + 5) :: .ref (Y + 6) :: .ref (Y + 7) :: .int (nI ((sh.1 i).1)) :: .ref (Y + 8) :: .int dd :: .ref (Y + 9) :: .ref (Y + 10) :: .ref (Y + 11) :: .ref (Y + 12) :: .int (nI ((sh.1 i).1)) :: .int (nI T) :: .int (nI bb) :: .ref (Y + 13) :: .ref (Y + 14) :: .ref (Y + 15) :: .ref (Y + 16) :: .ref (Y + 17) :: .int (nI tl) :: .int fa :: .int re :: .int ig :: .ref (Y + 18) :: .ref (Y + 19) :: .ref (Y + 20) :: .ref (Y + 21) :: []))).set (Y + 12) (aL 91 l)) := ⟨_, rfl⟩
  refine GP.weq w1 ew1.symm ?_
  have hMb : mdC w1 Y tl tb fa st rf sh pn pk ps im := by rw [ew1]; exact ⟨⟨_, _, _, _, _, _, _, _, (lk_ne (show (Y + 12) ≠ Y by omega) (lk_eq (lk_ne (show (Y + 7) ≠ Y by omega) hY)))⟩, ⟨⟨_, (lk_ne (show (Y + 12) ≠ (Y + 1) by omega) (lk_ne (show Y ≠ (Y + 1) by omega) (lk_ne (show (Y + 7) ≠ (Y + 1) by omega) a1))), b1⟩, ⟨_, (lk_ne (show (Y + 12) ≠ (Y + 2) by omega) (lk_ne (show Y ≠ (Y + 2) by omega) (lk_ne (show (Y + 7) ≠ (Y + 2) by omega) a2))), b2⟩, ⟨_, _, (lk_ne (show (Y + 12) ≠ (Y + 3) by omega) (lk_ne (show Y ≠ (Y + 3) by omega) (lk_ne (show (Y + 7) ≠ (Y + 3) by omega) a3))), (lk_ne (show (Y + 12) ≠ (Y + 4) by omega) (lk_ne (show Y ≠ (Y + 4) by omega) (lk_ne (show (Y + 7) ≠ (Y + 4) by omega) a4))), b3, b4⟩, ⟨_, _, (lk_ne (show (Y + 12) ≠ (Y + 5) by omega) (lk_ne (show Y ≠ (Y + 5) by omega) (lk_ne (show (Y + 7) ≠ (Y + 5) by omega) a5))), (lk_ne (show (Y + 12) ≠ (Y + 6) by omega) (lk_ne (show Y ≠ (Y + 6) by omega) (lk_ne (show (Y + 7) ≠ (Y + 6) by omega) a6))), b5⟩, ⟨_, (lk_ne (show (Y + 12) ≠ (Y + 11) by omega) (lk_ne (show Y ≠ (Y + 11) by omega) (lk_ne (show (Y + 7) ≠ (Y + 11) by omega) a11))), b11⟩, ⟨_, (lk_ne (show (Y + 12) ≠ (Y + 17) by omega) (lk_ne (show Y ≠ (Y + 17) by omega) (lk_ne (show (Y + 7) ≠ (Y + 17) by omega) a17))), b17⟩⟩, ⟨_, _, _, _, _, _, _, _, _, _, _, (lk_ne (show (Y + 12) ≠ (Y + 7) by omega) (lk_ne (show Y ≠ (Y + 7) by omega) (lk_eq a7))), (lk_ne (show (Y + 12) ≠ (Y + 8) by omega) (lk_ne (show Y ≠ (Y + 8) by omega) (lk_ne (show (Y + 7) ≠ (Y + 8) by omega) a8))), (lk_ne (show (Y + 12) ≠ (Y + 9) by omega) (lk_ne (show Y ≠ (Y + 9) by omega) (lk_ne (show (Y + 7) ≠ (Y + 9) by omega) a9))), (lk_ne (show (Y + 12) ≠ (Y + 10) by omega) (lk_ne (show Y ≠ (Y + 10) by omega) (lk_ne (show (Y + 7) ≠ (Y + 10) by omega) a10))), (lk_eq (lk_ne (show Y ≠ (Y + 12) by omega) (lk_ne (show (Y + 7) ≠ (Y + 12) by omega) a12))), (lk_ne (show (Y + 12) ≠ (Y + 13) by omega) (lk_ne (show Y ≠ (Y + 13) by omega) (lk_ne (show (Y + 7) ≠ (Y + 13) by omega) a13))), (lk_ne (show (Y + 12) ≠ (Y + 14) by omega) (lk_ne (show Y ≠ (Y + 14) by omega) (lk_ne (show (Y + 7) ≠ (Y + 14) by omega) a14))), (lk_ne (show (Y + 12) ≠ (Y + 18) by omega) (lk_ne (show Y ≠ (Y + 18) by omega) (lk_ne (show (Y + 7) ≠ (Y + 18) by omega) a18))), (lk_ne (show (Y + 12) ≠ (Y + 19) by omega) (lk_ne (show Y ≠ (Y + 19) by omega) (lk_ne (show (Y + 7) ≠ (Y + 19) by omega) a19))), (lk_ne (show (Y + 12) ≠ (Y + 20) by omega) (lk_ne (show Y ≠ (Y + 20) by omega) (lk_ne (show (Y + 7) ≠ (Y + 20) by omega) a20))), (lk_ne (show (Y + 12) ≠ (Y + 21) by omega) (lk_ne (show Y ≠ (Y + 21) by omega) (lk_ne (show (Y + 7) ≠ (Y + 21) by omega) a21)))⟩, ⟨_, _, (lk_ne (show (Y + 12) ≠ (Y + 15) by omega) (lk_ne (show Y ≠ (Y + 15) by omega) (lk_ne (show (Y + 7) ≠ (Y + 15) by omega) a15))), (lk_ne (show (Y + 12) ≠ (Y + 16) by omega) (lk_ne (show Y ≠ (Y + 16) by omega) (lk_ne (show (Y + 7) ≠ (Y + 16) by omega) a16))), b15⟩⟩
  have hFb : FR (modS Y) w w1 := by rw [ew1]; exact (FR.st (c' := aL 91 l) (FR.st (c' := .inr (11, .int th :: .int st :: .ref (Y + 1) :: .ref (Y + 2) :: .ref (Y + 3) :: .ref (Y + 4) :: .int (nI pn) :: .ref (Y + 5) :: .ref (Y + 6) :: .ref (Y + 7) :: .int (nI ((sh.1 i).1)) :: .ref (Y + 8) :: .int dd :: .ref (Y + 9) :: .ref (Y + 10) :: .ref (Y + 11) :: .ref (Y + 12) :: .int (nI ((sh.1 i).1)) :: .int (nI T) :: .int (nI bb) :: .ref (Y + 13) :: .ref (Y + 14) :: .ref (Y + 15) :: .ref (Y + 16) :: .ref (Y + 17) :: .int (nI tl) :: .int fa :: .int re :: .int ig :: .ref (Y + 18) :: .ref (Y + 19) :: .ref (Y + 20) :: .ref (Y + 21) :: [])) (FR.st (c' := aL 60 h) FR.rf a7 rfl (by unfold modS; omega)) (lk_ne (show (Y + 7) ≠ Y by omega) hY) rfl (by unfold modS; omega)) (lk_ne (show Y ≠ (Y + 12) by omega) (lk_ne (show (Y + 7) ≠ (Y + 12) by omega) a12)) rfl (by unfold modS; omega))
  have c12b : w1[Y + 12]? = some (aL 91 l) := by rw [ew1]; exact (lk_eq (lk_ne (show Y ≠ (Y + 12) by omega) (lk_ne (show (Y + 7) ≠ (Y + 12) by omega) a12)))
  have c19b : w1[Y + 19]? = some (aI 0 4 g19) := by rw [ew1]; exact (lk_ne (show (Y + 12) ≠ (Y + 19) by omega) (lk_ne (show Y ≠ (Y + 19) by omega) (lk_ne (show (Y + 7) ≠ (Y + 19) by omega) a19)))
  have c20b : w1[Y + 20]? = some (aI 0 8 g20) := by rw [ew1]; exact (lk_ne (show (Y + 12) ≠ (Y + 20) by omega) (lk_ne (show Y ≠ (Y + 20) by omega) (lk_ne (show (Y + 7) ≠ (Y + 20) by omega) a20)))
  have c21b : w1[Y + 21]? = some (aI 0 8 g21) := by rw [ew1]; exact (lk_ne (show (Y + 12) ≠ (Y + 21) by omega) (lk_ne (show Y ≠ (Y + 21) by omega) (lk_ne (show (Y + 7) ≠ (Y + 21) by omega) a21)))
  have cYb : w1[Y]? = some (.inr (11, .int th :: .int st :: .ref (Y + 1) :: .ref (Y + 2) :: .ref (Y + 3) :: .ref (Y + 4) :: .int (nI pn) :: .ref (Y + 5) :: .ref (Y + 6) :: .ref (Y + 7) :: .int (nI ((sh.1 i).1)) :: .ref (Y + 8) :: .int dd :: .ref (Y + 9) :: .ref (Y + 10) :: .ref (Y + 11) :: .ref (Y + 12) :: .int (nI ((sh.1 i).1)) :: .int (nI T) :: .int (nI bb) :: .ref (Y + 13) :: .ref (Y + 14) :: .ref (Y + 15) :: .ref (Y + 16) :: .ref (Y + 17) :: .int (nI tl) :: .int fa :: .int re :: .int ig :: .ref (Y + 18) :: .ref (Y + 19) :: .ref (Y + 20) :: .ref (Y + 21) :: [])) := by rw [ew1]; exact (lk_ne (show (Y + 12) ≠ Y by omega) (lk_eq (lk_ne (show (Y + 7) ≠ Y by omega) hY)))
  obtain ⟨⟨thb, dgb, ddb, ldb, beb, ibb, reb, igb, hYb⟩, ⟨⟨g1b, a1b, b1b⟩, ⟨g2b, a2b, b2b⟩, ⟨g3b, g4b, a3b, a4b, b3b, b4b⟩, ⟨g5b, g6b, a5b, a6b, b5b⟩, ⟨g11b, a11b, b11b⟩, ⟨g17b, a17b, b17b⟩⟩, ⟨g7b, g8b, g9b, g10b, g12b, g13b, g14b, g18b, g19b, g20b, g21b, a7b, a8b, a9b, a10b, a12b, a13b, a14b, a18b, a19b, a20b, a21b⟩, ⟨g15b, g16b, a15b, a16b, b15b⟩⟩ := id hMb
  exact GP.lsub _ (by simp) (lb_loop hok hTT hT6 (T + 1) 0 w1 g19 (by omega) hMb ⟨⟨_, _, _, _, _, _, _, _, _, _, cYb⟩, l, c12b, hll⟩ c19b hFb (fun c h => by rw [a20] at h; rw [← Option.some.inj h]; exact c20b) (fun c h => by rw [a21] at h; rw [← Option.some.inj h]; exact c21b) (Or.inl rfl))
theorem L3n : (3 : Int64).toInt = 3 := by decide
theorem w3_of {x : Int32} (h : 0 ≤ x.toInt ∧ x.toInt ≤ 3) : ∃ v, x = nI v ∧ v < 4 := ⟨x.toInt.toNat, nI_toNat h.1, by omega⟩
theorem enc_r {F : Nat → Int} {n T h : Nat} {bo : Nat → Int32} (hh : h < 4) (hJ : lbJ F n T bo) : ∃ kb t v, ((h % 2 = 0 ∧ bestLow F n T kb t) ∨ (h % 2 ≠ 0 ∧ bestHigh F n T kb t)) ∧ bo h = nI v ∧ v = if h < 2 then t else kb := by
  obtain ⟨kl, tl, kh, th, h1, h2, h3, h4, h5, h6, -⟩ := hJ
  have : h = 0 ∨ h = 1 ∨ h = 2 ∨ h = 3 := by omega
  rcases this with rfl | rfl | rfl | rfl
  · exact ⟨kl, tl, tl, Or.inl ⟨rfl, h1⟩, h3, rfl⟩
  · exact ⟨kh, th, th, Or.inr ⟨by decide, h2⟩, h4, rfl⟩
  · exact ⟨kl, tl, kl, Or.inl ⟨rfl, h1⟩, h5, rfl⟩
  · exact ⟨kh, th, kh, Or.inr ⟨by decide, h2⟩, h6, rfl⟩
abbrev BX12_enclosed (w0 : Wd) (Post : Option Value → Wd → Prop) (w : Wd) (pc : Nat) (ls : List (Nat × Value)) (st : List Value) : Prop := GP "enclosed" RX12 cX12_enclosed 3 (some .int) 6 234 none w0 Post w pc ls st
abbrev EX12_enclosed (As : List Value) (w : Wd) (Post : Option Value → Wd → Prop) : Prop := EP yX12_enclosed cX12_enclosed 3 (some .int) 6 As w Post
theorem mq_enclosed (w : Wd) {Y tl : Nat} {tb : Nat → Int32} {fa st : Int32} {rf : Nat → Nat} {sh : SV} {pn : Nat} {pk : Nat → Nat} {ps : Nat → SV} {im : Nat → Option SV} (hM : mdC w Y tl tb fa st rf sh pn pk ps im) {x y : Int32} : EX12_enclosed [.ref Y, .int x, .int y] w (fun r w' => (¬ (isPl x ∧ 0 ≤ y.toInt ∧ y.toInt ≤ 3) ∧ r = some (.int (-1)) ∧ mdC w' Y tl tb fa st rf sh pn pk ps im ∧ FR (modS Y) w w') ∨ (∃ i h T kb t v, x = nI i ∧ i < 8 ∧ y = nI h ∧ h < 4 ∧ topL (sh.1 i).2 (sh.1 i).1 6 T ∧ ((h % 2 = 0 ∧ bestLow (sh.1 i).2 (sh.1 i).1 T kb t) ∨ (h % 2 ≠ 0 ∧ bestHigh (sh.1 i).2 (sh.1 i).1 T kb t)) ∧ r = some (.int (nI v)) ∧ (v = if h < 2 then t else kb) ∧ mdC w' Y tl tb fa st rf sh pn pk ps im ∧ FR (modS Y) w w')) := by
  refine EP.of (plainFor_of_name (by decide)) [(0, .ref Y), (1, .int x), (2, .int y)] rfl (Nat.le_of_ble_eq_true rfl) (fun r wf h => by rcases h with ⟨-, rfl, -⟩ | ⟨i, h, T, kb, t, v, -, -, -, -, -, -, rfl, -⟩ <;> trivial) ?_
  show BX12_enclosed w _ w 0 [(0, .ref Y), (1, .int x), (2, .int y)] []
  obtain ⟨⟨th, dg, dd, ld, be, ib, re, ig, hY⟩, ⟨⟨g1, a1, b1⟩, ⟨g2, a2, b2⟩, ⟨g3, g4, a3, a4, b3, b4⟩, ⟨g5, g6, a5, a6, b5⟩, ⟨g11, a11, b11⟩, ⟨g17, a17, b17⟩⟩, ⟨g7, g8, g9, g10, g12, g13, g14, g18, g19, g20, g21, a7, a8, a9, a10, a12, a13, a14, a18, a19, a20, a21⟩, ⟨g15, g16, a15, a16, b15⟩⟩ := id hM
  refine g_aload_n (pc := 0) 0 dX12_enclosed_0 rfl rfl ?_
  refine g_iconst (pc := 1) (v := nI 0) dX12_enclosed_1 (by decide) ?_
  refine g_put (pc := 2) (.int (nI 0) :: .int st :: .ref (Y + 1) :: .ref (Y + 2) :: .ref (Y + 3) :: .ref (Y + 4) :: .int (nI pn) :: .ref (Y + 5) :: .ref (Y + 6) :: .ref (Y + 7) :: .int dg :: .ref (Y + 8) :: .int dd :: .ref (Y + 9) :: .ref (Y + 10) :: .ref (Y + 11) :: .ref (Y + 12) :: .int ld :: .int be :: .int ib :: .ref (Y + 13) :: .ref (Y + 14) :: .ref (Y + 15) :: .ref (Y + 16) :: .ref (Y + 17) :: .int (nI tl) :: .int fa :: .int re :: .int ig :: .ref (Y + 18) :: .ref (Y + 19) :: .ref (Y + 20) :: .ref (Y + 21) :: []) dX12_enclosed_2 fk_X12_83 hY (Nat.le_of_ble_eq_true rfl) rfl rfl ?_
  refine g_iload_n (pc := 5) 1 dX12_enclosed_5 rfl rfl ?_
  refine g_callS (pc := 6) [.int x] dX12_enclosed_6 cs_X12_277.1 cs_X12_277.2 rfl rfl (Nat.le_of_ble_eq_true rfl) (by decide) (by decide) (mp_isStore _) ?_
  rintro _ w9 (⟨rfl, hpi, e9⟩ | ⟨rfl, hpi, e9⟩)
  · refine GP.weq _ e9 ?_
    obtain ⟨i, rfl, hi⟩ := pl_of hpi
    refine n_if_eq (pc := 9) 24 dX12_enclosed_9 (by decide) (by omega) (fun hd9 => ?_) (fun hd9 => ?_)
    · exact absurd hd9 (by decide)
    · refine g_iload_n (pc := 12) 2 dX12_enclosed_12 rfl rfl ?_
      refine g_i2l (pc := 13) dX12_enclosed_13 ?_
      refine g_lconst (pc := 14) (v := 0) dX12_enclosed_14 (by decide) ?_
      refine g_ldc2 (pc := 15) kc_X12_322 dX12_enclosed_15 ?_
      refine g_callS (pc := 18) [.long y.toInt64, .long 0, .long (3)] dX12_enclosed_18 cs_X12_103.1 cs_X12_103.2 rfl rfl (Nat.le_of_ble_eq_true rfl) (by decide) (by decide) (mp_in _) ?_
      rintro _ w9 (⟨rfl, hz, e9⟩ | ⟨rfl, hz, e9⟩)
      · refine GP.weq _ e9 ?_
        rw [IL, L3n, L00] at hz
        obtain ⟨h, rfl, hh⟩ := w3_of hz
        refine n_if_ne (pc := 21) 26 dX12_enclosed_21 (by decide) (by omega) (fun hd9 => ?_) (fun hd9 => ?_)
        · refine g_aload_n (pc := 26) 0 dX12_enclosed_26 rfl rfl ?_
          refine g_iload_n (pc := 27) 1 dX12_enclosed_27 rfl rfl ?_
          obtain ⟨w1, ew1⟩ : ∃ wy : Wd, wy = (w.set Y (.inr (11, .int (nI 0) :: .int st :: .ref (Y + 1) :: .ref (Y + 2) :: .ref (Y + 3) :: .ref (Y + 4) :: .int (nI pn) :: .ref (Y + 5) :: .ref (Y + 6) :: .ref (Y + 7) :: .int dg :: .ref (Y + 8) :: .int dd :: .ref (Y + 9) :: .ref (Y + 10) :: .ref (Y + 11) :: .ref (Y + 12) :: .int ld :: .int be :: .int ib :: .ref (Y + 13) :: .ref (Y + 14) :: .ref (Y + 15) :: .ref (Y + 16) :: .ref (Y + 17) :: .int (nI tl) :: .int fa :: .int re :: .int ig :: .ref (Y + 18) :: .ref (Y + 19) :: .ref (Y + 20) :: .ref (Y + 21) :: []))) := ⟨_, rfl⟩
          refine GP.weq w1 ew1.symm ?_
          have hM1 : mdC w1 Y tl tb fa st rf sh pn pk ps im := by rw [ew1]; exact ⟨⟨_, _, _, _, _, _, _, _, (lk_eq hY)⟩, ⟨⟨_, (lk_ne (show Y ≠ (Y + 1) by omega) a1), b1⟩, ⟨_, (lk_ne (show Y ≠ (Y + 2) by omega) a2), b2⟩, ⟨_, _, (lk_ne (show Y ≠ (Y + 3) by omega) a3), (lk_ne (show Y ≠ (Y + 4) by omega) a4), b3, b4⟩, ⟨_, _, (lk_ne (show Y ≠ (Y + 5) by omega) a5), (lk_ne (show Y ≠ (Y + 6) by omega) a6), b5⟩, ⟨_, (lk_ne (show Y ≠ (Y + 11) by omega) a11), b11⟩, ⟨_, (lk_ne (show Y ≠ (Y + 17) by omega) a17), b17⟩⟩, ⟨_, _, _, _, _, _, _, _, _, _, _, (lk_ne (show Y ≠ (Y + 7) by omega) a7), (lk_ne (show Y ≠ (Y + 8) by omega) a8), (lk_ne (show Y ≠ (Y + 9) by omega) a9), (lk_ne (show Y ≠ (Y + 10) by omega) a10), (lk_ne (show Y ≠ (Y + 12) by omega) a12), (lk_ne (show Y ≠ (Y + 13) by omega) a13), (lk_ne (show Y ≠ (Y + 14) by omega) a14), (lk_ne (show Y ≠ (Y + 18) by omega) a18), (lk_ne (show Y ≠ (Y + 19) by omega) a19), (lk_ne (show Y ≠ (Y + 20) by omega) a20), (lk_ne (show Y ≠ (Y + 21) by omega) a21)⟩, ⟨_, _, (lk_ne (show Y ≠ (Y + 15) by omega) a15), (lk_ne (show Y ≠ (Y + 16) by omega) a16), b15⟩⟩
          have hF1 : FR (modS Y) w w1 := by rw [ew1]; exact (FR.st (c' := .inr (11, .int (nI 0) :: .int st :: .ref (Y + 1) :: .ref (Y + 2) :: .ref (Y + 3) :: .ref (Y + 4) :: .int (nI pn) :: .ref (Y + 5) :: .ref (Y + 6) :: .ref (Y + 7) :: .int dg :: .ref (Y + 8) :: .int dd :: .ref (Y + 9) :: .ref (Y + 10) :: .ref (Y + 11) :: .ref (Y + 12) :: .int ld :: .int be :: .int ib :: .ref (Y + 13) :: .ref (Y + 14) :: .ref (Y + 15) :: .ref (Y + 16) :: .ref (Y + 17) :: .int (nI tl) :: .int fa :: .int re :: .int ig :: .ref (Y + 18) :: .ref (Y + 19) :: .ref (Y + 20) :: .ref (Y + 21) :: [])) FR.rf hY rfl (by unfold modS; omega))
          have cY1 : w1[Y]? = some (.inr (11, .int (nI 0) :: .int st :: .ref (Y + 1) :: .ref (Y + 2) :: .ref (Y + 3) :: .ref (Y + 4) :: .int (nI pn) :: .ref (Y + 5) :: .ref (Y + 6) :: .ref (Y + 7) :: .int dg :: .ref (Y + 8) :: .int dd :: .ref (Y + 9) :: .ref (Y + 10) :: .ref (Y + 11) :: .ref (Y + 12) :: .int ld :: .int be :: .int ib :: .ref (Y + 13) :: .ref (Y + 14) :: .ref (Y + 15) :: .ref (Y + 16) :: .ref (Y + 17) :: .int (nI tl) :: .int fa :: .int re :: .int ig :: .ref (Y + 18) :: .ref (Y + 19) :: .ref (Y + 20) :: .ref (Y + 21) :: [])) := by rw [ew1]; exact (lk_eq hY)
          obtain ⟨⟨th1, dg1, dd1, ld1, be1, ib1, re1, ig1, hY1⟩, ⟨⟨g11, a11, b11⟩, ⟨g21, a21, b21⟩, ⟨g31, g41, a31, a41, b31, b41⟩, ⟨g51, g61, a51, a61, b51⟩, ⟨g111, a111, b111⟩, ⟨g171, a171, b171⟩⟩, ⟨g71, g81, g91, g101, g121, g131, g141, g181, g191, g201, g211, a71, a81, a91, a101, a121, a131, a141, a181, a191, a201, a211⟩, ⟨g151, g161, a151, a161, b151⟩⟩ := id hM1
          refine g_callV (pc := 28) [.int (nI i)] dX12_enclosed_28 cv_X12_349.1 cv_X12_349.2.1 cv_X12_349.2.2.1 cv_X12_349.2.2.2 cY1 rfl rfl (Nat.le_of_ble_eq_true rfl) (by decide) (by decide) (mq_layBounds _ hM1 hi) ?_
          rintro _ w2 ⟨rfl, T, bo, htp, hbo, hJ, hM2, hF2, -, -⟩
          obtain ⟨kb, t, v, e1, e2, e3⟩ := enc_r hh hJ
          obtain ⟨⟨th2, dg2, dd2, ld2, be2, ib2, re2, ig2, hY2⟩, ⟨⟨g12, a12, b12⟩, ⟨g22, a22, b22⟩, ⟨g32, g42, a32, a42, b32, b42⟩, ⟨g52, g62, a52, a62, b52⟩, ⟨g112, a112, b112⟩, ⟨g172, a172, b172⟩⟩, ⟨g72, g82, g92, g102, g122, g132, g142, g182, g192, g202, g212, a72, a82, a92, a102, a122, a132, a142, a182, a192, a202, a212⟩, ⟨g152, g162, a152, a162, b152⟩⟩ := id hM2
          refine g_aload_n (pc := 31) 0 dX12_enclosed_31 rfl rfl ?_
          refine g_get (pc := 32) dX12_enclosed_32 fk_X12_71 hY2 rfl ?_
          refine g_iload_n (pc := 35) 2 dX12_enclosed_35 rfl rfl ?_
          refine g_iald (pc := 36) h dX12_enclosed_36 hbo (IXn (by omega) (by omega)) ?_
          refine GP.ti (nI v) e2 ?_
          exact g_iret (pc := 37) dX12_enclosed_37 (Or.inr ⟨i, h, T, kb, t, v, rfl, hi, rfl, hh, htp, e1, rfl, e3, hM2, hF1.tr hF2⟩)
        · exact absurd hd9 (by decide)
      · refine GP.weq _ e9 ?_
        rw [IL, L3n, L00] at hz
        refine n_if_ne (pc := 21) 26 dX12_enclosed_21 (by decide) (by omega) (fun hd9 => ?_) (fun hd9 => ?_)
        · exact absurd rfl hd9
        · refine g_iconst (pc := 24) (v := -1) dX12_enclosed_24 (by decide) ?_
          exact g_iret (pc := 25) dX12_enclosed_25 (Or.inl ⟨fun g => hz g.2, rfl, ⟨⟨_, _, _, _, _, _, _, _, (lk_eq hY)⟩, ⟨⟨_, (lk_ne (show Y ≠ (Y + 1) by omega) a1), b1⟩, ⟨_, (lk_ne (show Y ≠ (Y + 2) by omega) a2), b2⟩, ⟨_, _, (lk_ne (show Y ≠ (Y + 3) by omega) a3), (lk_ne (show Y ≠ (Y + 4) by omega) a4), b3, b4⟩, ⟨_, _, (lk_ne (show Y ≠ (Y + 5) by omega) a5), (lk_ne (show Y ≠ (Y + 6) by omega) a6), b5⟩, ⟨_, (lk_ne (show Y ≠ (Y + 11) by omega) a11), b11⟩, ⟨_, (lk_ne (show Y ≠ (Y + 17) by omega) a17), b17⟩⟩, ⟨_, _, _, _, _, _, _, _, _, _, _, (lk_ne (show Y ≠ (Y + 7) by omega) a7), (lk_ne (show Y ≠ (Y + 8) by omega) a8), (lk_ne (show Y ≠ (Y + 9) by omega) a9), (lk_ne (show Y ≠ (Y + 10) by omega) a10), (lk_ne (show Y ≠ (Y + 12) by omega) a12), (lk_ne (show Y ≠ (Y + 13) by omega) a13), (lk_ne (show Y ≠ (Y + 14) by omega) a14), (lk_ne (show Y ≠ (Y + 18) by omega) a18), (lk_ne (show Y ≠ (Y + 19) by omega) a19), (lk_ne (show Y ≠ (Y + 20) by omega) a20), (lk_ne (show Y ≠ (Y + 21) by omega) a21)⟩, ⟨_, _, (lk_ne (show Y ≠ (Y + 15) by omega) a15), (lk_ne (show Y ≠ (Y + 16) by omega) a16), b15⟩⟩, (FR.st (c' := .inr (11, .int (nI 0) :: .int st :: .ref (Y + 1) :: .ref (Y + 2) :: .ref (Y + 3) :: .ref (Y + 4) :: .int (nI pn) :: .ref (Y + 5) :: .ref (Y + 6) :: .ref (Y + 7) :: .int dg :: .ref (Y + 8) :: .int dd :: .ref (Y + 9) :: .ref (Y + 10) :: .ref (Y + 11) :: .ref (Y + 12) :: .int ld :: .int be :: .int ib :: .ref (Y + 13) :: .ref (Y + 14) :: .ref (Y + 15) :: .ref (Y + 16) :: .ref (Y + 17) :: .int (nI tl) :: .int fa :: .int re :: .int ig :: .ref (Y + 18) :: .ref (Y + 19) :: .ref (Y + 20) :: .ref (Y + 21) :: [])) FR.rf hY rfl (by unfold modS; omega))⟩)
  · refine GP.weq _ e9 ?_
    refine n_if_eq (pc := 9) 24 dX12_enclosed_9 (by decide) (by omega) (fun hd9 => ?_) (fun hd9 => ?_)
    · refine g_iconst (pc := 24) (v := -1) dX12_enclosed_24 (by decide) ?_
      exact g_iret (pc := 25) dX12_enclosed_25 (Or.inl ⟨fun g => hpi g.1, rfl, ⟨⟨_, _, _, _, _, _, _, _, (lk_eq hY)⟩, ⟨⟨_, (lk_ne (show Y ≠ (Y + 1) by omega) a1), b1⟩, ⟨_, (lk_ne (show Y ≠ (Y + 2) by omega) a2), b2⟩, ⟨_, _, (lk_ne (show Y ≠ (Y + 3) by omega) a3), (lk_ne (show Y ≠ (Y + 4) by omega) a4), b3, b4⟩, ⟨_, _, (lk_ne (show Y ≠ (Y + 5) by omega) a5), (lk_ne (show Y ≠ (Y + 6) by omega) a6), b5⟩, ⟨_, (lk_ne (show Y ≠ (Y + 11) by omega) a11), b11⟩, ⟨_, (lk_ne (show Y ≠ (Y + 17) by omega) a17), b17⟩⟩, ⟨_, _, _, _, _, _, _, _, _, _, _, (lk_ne (show Y ≠ (Y + 7) by omega) a7), (lk_ne (show Y ≠ (Y + 8) by omega) a8), (lk_ne (show Y ≠ (Y + 9) by omega) a9), (lk_ne (show Y ≠ (Y + 10) by omega) a10), (lk_ne (show Y ≠ (Y + 12) by omega) a12), (lk_ne (show Y ≠ (Y + 13) by omega) a13), (lk_ne (show Y ≠ (Y + 14) by omega) a14), (lk_ne (show Y ≠ (Y + 18) by omega) a18), (lk_ne (show Y ≠ (Y + 19) by omega) a19), (lk_ne (show Y ≠ (Y + 20) by omega) a20), (lk_ne (show Y ≠ (Y + 21) by omega) a21)⟩, ⟨_, _, (lk_ne (show Y ≠ (Y + 15) by omega) a15), (lk_ne (show Y ≠ (Y + 16) by omega) a16), b15⟩⟩, (FR.st (c' := .inr (11, .int (nI 0) :: .int st :: .ref (Y + 1) :: .ref (Y + 2) :: .ref (Y + 3) :: .ref (Y + 4) :: .int (nI pn) :: .ref (Y + 5) :: .ref (Y + 6) :: .ref (Y + 7) :: .int dg :: .ref (Y + 8) :: .int dd :: .ref (Y + 9) :: .ref (Y + 10) :: .ref (Y + 11) :: .ref (Y + 12) :: .int ld :: .int be :: .int ib :: .ref (Y + 13) :: .ref (Y + 14) :: .ref (Y + 15) :: .ref (Y + 16) :: .ref (Y + 17) :: .int (nI tl) :: .int fa :: .int re :: .int ig :: .ref (Y + 18) :: .ref (Y + 19) :: .ref (Y + 20) :: .ref (Y + 21) :: [])) FR.rf hY rfl (by unfold modS; omega))⟩)
    · exact absurd rfl hd9
