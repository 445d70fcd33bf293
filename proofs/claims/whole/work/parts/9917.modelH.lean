/-! the reference: takeThousand, isLow, laySquares, isHigh -/
def nuS2 (Y i : Nat) : Prop := Y + 13 ≤ i ∧ i ≤ Y + 16
theorem nuS_2 {Y i : Nat} (h : nuS Y i) : nuS2 Y i := by unfold nuS at h; unfold nuS2; omega
def nuO (w : Wd) (Y : Nat) : Prop := (∃ dg m, nuC w Y dg m) ∧ mdT w Y
theorem mdT_fr {w w' : Wd} {Y : Nat} (h : mdT w Y) (hR : FR (nuS Y) w w') : mdT w' Y := by
  obtain ⟨t, m, h1, h2, h3⟩ := h
  exact ⟨t, m, hR.lk (by unfold nuS; omega) h1, hR.lk (by unfold nuS; omega) h2, h3⟩
theorem th_b : ∀ k, k < 8 → 1000 ^ (2 ^ k) < 268435456 ^ 46 := by decide +kernel
theorem th_c : ∀ k, k < 7 → 1000 ^ (2 ^ k) < 268435456 ^ 45 := by decide +kernel
theorem th_0 (k : Nat) : 0 < 1000 ^ (2 ^ k) := Nat.pow_pos (by decide)
theorem thR_up {t cur : Nat → Int64} {tm : Nat → Int32} {k n : Nat} (h : thR t tm) (hk : k < 8) (hc : nuF t cur k) (h0 : 0 < n) (hn : n ≤ 90) (hw : wf (sl cur k) n) (hv : vl (sl cur k) n = ((1000 ^ (2 ^ k) : Nat) : Int)) : thR cur (upd tm k (nI n)) := by
  intro q hq
  by_cases e : q = k
  · rw [e]
    exact Or.inr ⟨n, upd_s, h0, hn, hw, hv⟩
  · rcases h q hq with h1 | ⟨n1, h1, h2, h3, h4, h5⟩
    · exact Or.inl ((upd_n e).trans h1)
    · have e9 : ∀ j, j < n1 → sl cur q j = sl t q j := fun j hj => sl_cg hc e (by omega)
      exact Or.inr ⟨n1, (upd_n e).trans h1, h2, h3, wf_cg h4 e9, by rw [← h5]; exact vl_congr e9⟩
abbrev BX12_takeThousand (w0 : Wd) (Post : Option Value → Wd → Prop) (w : Wd) (pc : Nat) (ls : List (Nat × Value)) (st : List Value) : Prop := GP "takeThousand" RX12 cX12_takeThousand 4 none 2 78 none w0 Post w pc ls st
abbrev EX12_takeThousand (As : List Value) (w : Wd) (Post : Option Value → Wd → Prop) : Prop := EP yX12_takeThousand cX12_takeThousand 4 none 2 As w Post
theorem tt_2 {w0 w : Wd} {Y : Nat} {th st nu dg dd ld be ib ta fa re ig : Int32} {dg9 : Nat → Int64} {m9 : Nat → Int32} (hY : w[Y]? = some (oM Y th st nu dg dd ld be ib ta fa re ig)) {s k : Nat} (hs : s < 4) (hk : k ≤ 7) {w1 : Wd} {dg1 t1 : Nat → Int64} {m1 tm1 : Nat → Int32} {n : Nat} (hN1 : nuC w1 Y dg1 m1) (hR1 : FR (nuS2 Y) w w1) (hG1 : nuG (fun j => j = s ∨ j = 4) dg9 m9 dg1 m1) (t15 : w1[Y + 15]? = some (aL 720 t1)) (t16 : w1[Y + 16]? = some (aI 0 8 tm1)) (hth : thR t1 tm1) (hn : tm1 k = nI n) (hn9 : n ≤ 90) (hw9 : wf (sl t1 k) n) (hv9 : vl (sl t1 k) n = ((1000 ^ (2 ^ k) : Nat) : Int)) : ∀ (z c : Nat) (cur : Nat → Int64), n = c + z → nuF dg1 cur s → (∀ j, j < c → sl cur s j = sl t1 k j) → BX12_takeThousand w0 (fun r w' => r = none ∧ ∃ dg' m', nuC w' Y dg' m' ∧ (∃ n', n' ≤ 46 ∧ nuV dg' m' s n' (1000 ^ (2 ^ k))) ∧ mdT w' Y ∧ nuG (fun j => j = s ∨ j = 4) dg9 m9 dg' m' ∧ FR (nuS2 Y) w w') ((w1.set (Y + 14) (aI 0 5 (upd m1 s (nI n)))).set (Y + 13) (aL 450 cur)) 95 [(3, .int (nI c)), (2, .int (nI (90 * s))), (1, .int (nI k)), (0, .ref Y)] [] := by
  intro z
  induction z with
  | zero =>
    intro c cur hz hF hj
    refine g_iload_n (pc := 95) 0 dX12_takeThousand_95 rfl rfl ?_
    refine g_aload_n (pc := 96) 3 dX12_takeThousand_96 rfl rfl ?_
    refine g_get (pc := 97) dX12_takeThousand_97 fk_X12_57 (lk_ne (show (Y + 13) ≠ Y by omega) (lk_ne (show (Y + 14) ≠ Y by omega) (hR1.lk (by unfold nuS2; omega) hY))) rfl ?_
    refine g_iload_n (pc := 100) 2 dX12_takeThousand_100 rfl rfl ?_
    refine g_iald (pc := 101) k dX12_takeThousand_101 (lk_ne (show (Y + 13) ≠ (Y + 16) by omega) (lk_ne (show (Y + 14) ≠ (Y + 16) by omega) t16)) (IXn (by omega) (by omega)) ?_
    refine GP.ti (nI n) hn ?_
    refine n_icmp_ge (pc := 102) 130 dX12_takeThousand_102 (by decide) (by omega) (by omega) (fun hb9 => ?_) (fun hb9 => ?_)
    · have e9 : n = c := by omega
      subst e9
      have hV9 : nuV cur (upd m1 s (nI n)) s n (1000 ^ (2 ^ k)) := ⟨upd_s, hn9, wf_cg hw9 hj, by rw [← hv9]; exact vl_congr hj⟩
      exact g_vret (pc := 130) dX12_takeThousand_130 ⟨rfl, cur, _, ⟨(lk_eq (lk_ne (show (Y + 14) ≠ (Y + 13) by omega) hN1.1)), (lk_ne (show (Y + 13) ≠ (Y + 14) by omega) (lk_eq hN1.2))⟩, ⟨n, hV9.len (th_b k (by omega)), hV9⟩, ⟨t1, tm1, (lk_ne (show (Y + 13) ≠ (Y + 15) by omega) (lk_ne (show (Y + 14) ≠ (Y + 15) by omega) t15)), (lk_ne (show (Y + 13) ≠ (Y + 16) by omega) (lk_ne (show (Y + 14) ≠ (Y + 16) by omega) t16)), hth⟩, hG1.tr (nuG.of hF (fun j hj => upd_n hj) (Or.inl rfl)), hR1.tr (FR.st (c' := aL 450 cur) (FR.st (c' := aI 0 5 (upd m1 s (nI n))) FR.rf hN1.2 rfl (by unfold nuS2; omega)) (lk_ne (show (Y + 14) ≠ (Y + 13) by omega) hN1.1) rfl (by unfold nuS2; omega))⟩
    · exact absurd hb9 (by omega)
  | succ z ih =>
    intro c cur hz hF hj
    refine g_iload_n (pc := 95) 0 dX12_takeThousand_95 rfl rfl ?_
    refine g_aload_n (pc := 96) 3 dX12_takeThousand_96 rfl rfl ?_
    refine g_get (pc := 97) dX12_takeThousand_97 fk_X12_57 (lk_ne (show (Y + 13) ≠ Y by omega) (lk_ne (show (Y + 14) ≠ Y by omega) (hR1.lk (by unfold nuS2; omega) hY))) rfl ?_
    refine g_iload_n (pc := 100) 2 dX12_takeThousand_100 rfl rfl ?_
    refine g_iald (pc := 101) k dX12_takeThousand_101 (lk_ne (show (Y + 13) ≠ (Y + 16) by omega) (lk_ne (show (Y + 14) ≠ (Y + 16) by omega) t16)) (IXn (by omega) (by omega)) ?_
    refine GP.ti (nI n) hn ?_
    refine n_icmp_ge (pc := 102) 130 dX12_takeThousand_102 (by decide) (by omega) (by omega) (fun hb9 => ?_) (fun hb9 => ?_)
    · exact absurd hb9 (by omega)
    · refine g_aload_n (pc := 105) 3 dX12_takeThousand_105 rfl rfl ?_
      refine g_get (pc := 106) dX12_takeThousand_106 fk_X12_48 (lk_ne (show (Y + 13) ≠ Y by omega) (lk_ne (show (Y + 14) ≠ Y by omega) (hR1.lk (by unfold nuS2; omega) hY))) rfl ?_
      refine g_iload_n (pc := 109) 1 dX12_takeThousand_109 rfl rfl ?_
      refine g_iload_n (pc := 110) 0 dX12_takeThousand_110 rfl rfl ?_
      refine n_iadd (pc := 111) dX12_takeThousand_111 ?_
      refine g_aload_n (pc := 112) 3 dX12_takeThousand_112 rfl rfl ?_
      refine g_get (pc := 113) dX12_takeThousand_113 fk_X12_54 (lk_ne (show (Y + 13) ≠ Y by omega) (lk_ne (show (Y + 14) ≠ Y by omega) (hR1.lk (by unfold nuS2; omega) hY))) rfl ?_
      refine g_bipush (pc := 116) (v := nI 90) dX12_takeThousand_116 (by decide) ?_
      refine g_iload_n (pc := 118) 2 dX12_takeThousand_118 rfl rfl ?_
      refine n_imul (pc := 119) dX12_takeThousand_119 ?_
      refine g_iload_n (pc := 120) 0 dX12_takeThousand_120 rfl rfl ?_
      refine n_iadd (pc := 121) dX12_takeThousand_121 ?_
      refine g_lald (pc := 122) ((90 * k) + c) dX12_takeThousand_122 (lk_ne (show (Y + 13) ≠ (Y + 15) by omega) (lk_ne (show (Y + 14) ≠ (Y + 15) by omega) t15)) (IXn (by omega) (by omega)) ?_
      refine g_last (pc := 123) ((90 * s) + c) dX12_takeThousand_123 (lk_eq (lk_ne (show (Y + 14) ≠ (Y + 13) by omega) hN1.1)) (IXn (by omega) (by omega)) ?_
      refine GP.weq ((w1.set (Y + 14) (aI 0 5 (upd m1 s (nI n)))).set (Y + 13) (aL 450 (vp_updL cur ((90 * s) + c) (t1 ((90 * k) + c))))) (by rw [List.set_set]) ?_
      refine n_iinc (pc := 124) (c := 1) [(3, .int (nI (c + 1))), (2, .int (nI (90 * s))), (1, .int (nI k)), (0, .ref Y)] 0 dX12_takeThousand_124 rfl (by decide) (by decide) rfl ?_
      refine g_goto (pc := 127) 95 dX12_takeThousand_127 (by decide) ?_
      refine GP.lsub _ (by simp) (ih (c + 1) _ (by omega) (hF.st (by omega)) (fun j hj9 => ?_))
      rw [sl_up]
      by_cases e : j = c
      · rw [e, upL_s]; rfl
      · rw [upL_n e]; exact hj j (by omega)
theorem tt_1 {w0 w : Wd} {Y : Nat} {th st nu dg dd ld be ib ta fa re ig : Int32} {dg9 : Nat → Int64} {m9 : Nat → Int32} (hY : w[Y]? = some (oM Y th st nu dg dd ld be ib ta fa re ig)) {s k : Nat} (hs : s < 4) (hk : k ≤ 7) {w1 : Wd} {dg1 t1 : Nat → Int64} {m1 tm1 : Nat → Int32} {n : Nat} (hN1 : nuC w1 Y dg1 m1) (hR1 : FR (nuS2 Y) w w1) (hG1 : nuG (fun j => j = s ∨ j = 4) dg9 m9 dg1 m1) (t15 : w1[Y + 15]? = some (aL 720 t1)) (t16 : w1[Y + 16]? = some (aI 0 8 tm1)) (hth : thR t1 tm1) (hn : tm1 k = nI n) (hn9 : n ≤ 90) (hw9 : wf (sl t1 k) n) (hv9 : vl (sl t1 k) n = ((1000 ^ (2 ^ k) : Nat) : Int)) : BX12_takeThousand w0 (fun r w' => r = none ∧ ∃ dg' m', nuC w' Y dg' m' ∧ (∃ n', n' ≤ 46 ∧ nuV dg' m' s n' (1000 ^ (2 ^ k))) ∧ mdT w' Y ∧ nuG (fun j => j = s ∨ j = 4) dg9 m9 dg' m' ∧ FR (nuS2 Y) w w') w1 78 [(2, .int (nI (90 * s))), (1, .int (nI k)), (0, .ref Y)] [] := by
  refine g_aload_n (pc := 78) 2 dX12_takeThousand_78 rfl rfl ?_
  refine g_get (pc := 79) dX12_takeThousand_79 fk_X12_51 (hR1.lk (by unfold nuS2; omega) hY) rfl ?_
  refine g_iload_n (pc := 82) 0 dX12_takeThousand_82 rfl rfl ?_
  refine g_bipush (pc := 83) (v := nI 90) dX12_takeThousand_83 (by decide) ?_
  refine n_idiv (pc := 85) dX12_takeThousand_85 (by omega) (by omega) (by omega) ?_
  refine GP.ti (nI s) (by rw [show 90 * s / 90 = s by omega]) ?_
  refine g_aload_n (pc := 86) 2 dX12_takeThousand_86 rfl rfl ?_
  refine g_get (pc := 87) dX12_takeThousand_87 fk_X12_57 (hR1.lk (by unfold nuS2; omega) hY) rfl ?_
  refine g_iload_n (pc := 90) 1 dX12_takeThousand_90 rfl rfl ?_
  refine g_iald (pc := 91) k dX12_takeThousand_91 t16 (IXn (by omega) (by omega)) ?_
  refine GP.ti (nI n) hn ?_
  refine g_iast (pc := 92) s dX12_takeThousand_92 hN1.2 (IXn (by omega) (by omega)) ?_
  refine g_iconst (pc := 93) (v := nI 0) dX12_takeThousand_93 (by decide) ?_
  refine g_istore_n (pc := 94) [(3, .int (nI 0)), (2, .int (nI (90 * s))), (1, .int (nI k)), (0, .ref Y)] dX12_takeThousand_94 rfl (by decide) rfl ?_
  refine GP.weq ((w1.set (Y + 14) (aI 0 5 (upd m1 s (nI n)))).set (Y + 13) (aL 450 dg1)) (set_same (lk_ne (show (Y + 14) ≠ (Y + 13) by omega) hN1.1)).symm ?_
  exact GP.lsub _ (by simp) (tt_2 hY hs hk hN1 hR1 hG1 t15 t16 hth hn hn9 hw9 hv9 n 0 dg1 (by omega) nuF.rf (fun j hj => absurd hj (by omega)))
theorem tt_3 {w0 w : Wd} {Y : Nat} {th st nu dg dd ld be ib ta fa re ig : Int32} {dg9 : Nat → Int64} {m9 : Nat → Int32} (hY : w[Y]? = some (oM Y th st nu dg dd ld be ib ta fa re ig)) {s k : Nat} (hs : s < 4) (hk : k ≤ 7) {w1 : Wd} {dg1 t1 : Nat → Int64} {m1 tm1 : Nat → Int32} {n : Nat} (hN1 : nuC w1 Y dg1 m1) (hR1 : FR (nuS2 Y) w w1) (hG1 : nuG (fun j => j = s ∨ j = 4) dg9 m9 dg1 m1) (t15 : w1[Y + 15]? = some (aL 720 t1)) (t16 : w1[Y + 16]? = some (aI 0 8 tm1)) (hth : thR t1 tm1) (hV1 : nuV dg1 m1 s n (1000 ^ (2 ^ k))) : ∀ (z c : Nat) (cur : Nat → Int64), n = c + z → nuF t1 cur k → (∀ j, j < c → sl cur k j = sl dg1 s j) → BX12_takeThousand w0 (fun r w' => r = none ∧ ∃ dg' m', nuC w' Y dg' m' ∧ (∃ n', n' ≤ 46 ∧ nuV dg' m' s n' (1000 ^ (2 ^ k))) ∧ mdT w' Y ∧ nuG (fun j => j = s ∨ j = 4) dg9 m9 dg' m' ∧ FR (nuS2 Y) w w') ((w1.set (Y + 16) (aI 0 8 (upd tm1 k (nI n)))).set (Y + 15) (aL 720 cur)) 40 [(3, .int (nI c)), (2, .int (nI (90 * s))), (1, .int (nI k)), (0, .ref Y)] [] := by
  have hn9 := hV1.2.1
  intro z
  induction z with
  | zero =>
    intro c cur hz hF hj
    refine g_iload_n (pc := 40) 0 dX12_takeThousand_40 rfl rfl ?_
    refine g_aload_n (pc := 41) 3 dX12_takeThousand_41 rfl rfl ?_
    refine g_get (pc := 42) dX12_takeThousand_42 fk_X12_51 (lk_ne (show (Y + 15) ≠ Y by omega) (lk_ne (show (Y + 16) ≠ Y by omega) (hR1.lk (by unfold nuS2; omega) hY))) rfl ?_
    refine g_iload_n (pc := 45) 1 dX12_takeThousand_45 rfl rfl ?_
    refine g_bipush (pc := 46) (v := nI 90) dX12_takeThousand_46 (by decide) ?_
    refine n_idiv (pc := 48) dX12_takeThousand_48 (by omega) (by omega) (by omega) ?_
    refine GP.ti (nI s) (by rw [show 90 * s / 90 = s by omega]) ?_
    refine g_iald (pc := 49) s dX12_takeThousand_49 (lk_ne (show (Y + 15) ≠ (Y + 14) by omega) (lk_ne (show (Y + 16) ≠ (Y + 14) by omega) hN1.2)) (IXn (by omega) (by omega)) ?_
    refine GP.ti (nI n) hV1.1 ?_
    refine n_icmp_ge (pc := 50) 78 dX12_takeThousand_50 (by decide) (by omega) (by omega) (fun hb9 => ?_) (fun hb9 => ?_)
    · have e9 : n = c := by omega
      subst e9
      have hw9 := wf_cg hV1.2.2.1 hj
      have hv9 : vl (sl cur k) n = ((1000 ^ (2 ^ k) : Nat) : Int) := by rw [← hV1.2.2.2]; exact vl_congr hj
      have h0 : 0 < n := by
        rcases Nat.eq_zero_or_pos n with e | e
        · rw [e] at hv9
          have h8 := th_0 k
          have h7 : (0 : Int) = ((1000 ^ (2 ^ k) : Nat) : Int) := hv9
          omega
        · exact e
      exact GP.lsub _ (by simp) (tt_1 hY hs hk ⟨(lk_ne (show (Y + 15) ≠ (Y + 13) by omega) (lk_ne (show (Y + 16) ≠ (Y + 13) by omega) hN1.1)), (lk_ne (show (Y + 15) ≠ (Y + 14) by omega) (lk_ne (show (Y + 16) ≠ (Y + 14) by omega) hN1.2))⟩ (hR1.tr (FR.st (c' := aL 720 cur) (FR.st (c' := aI 0 8 (upd tm1 k (nI n))) FR.rf t16 rfl (by unfold nuS2; omega)) (lk_ne (show (Y + 16) ≠ (Y + 15) by omega) t15) rfl (by unfold nuS2; omega))) hG1 (lk_eq (lk_ne (show (Y + 16) ≠ (Y + 15) by omega) t15)) (lk_ne (show (Y + 15) ≠ (Y + 16) by omega) (lk_eq t16)) (thR_up hth (by omega) hF h0 hn9 hw9 hv9) upd_s hn9 hw9 hv9)
    · exact absurd hb9 (by omega)
  | succ z ih =>
    intro c cur hz hF hj
    refine g_iload_n (pc := 40) 0 dX12_takeThousand_40 rfl rfl ?_
    refine g_aload_n (pc := 41) 3 dX12_takeThousand_41 rfl rfl ?_
    refine g_get (pc := 42) dX12_takeThousand_42 fk_X12_51 (lk_ne (show (Y + 15) ≠ Y by omega) (lk_ne (show (Y + 16) ≠ Y by omega) (hR1.lk (by unfold nuS2; omega) hY))) rfl ?_
    refine g_iload_n (pc := 45) 1 dX12_takeThousand_45 rfl rfl ?_
    refine g_bipush (pc := 46) (v := nI 90) dX12_takeThousand_46 (by decide) ?_
    refine n_idiv (pc := 48) dX12_takeThousand_48 (by omega) (by omega) (by omega) ?_
    refine GP.ti (nI s) (by rw [show 90 * s / 90 = s by omega]) ?_
    refine g_iald (pc := 49) s dX12_takeThousand_49 (lk_ne (show (Y + 15) ≠ (Y + 14) by omega) (lk_ne (show (Y + 16) ≠ (Y + 14) by omega) hN1.2)) (IXn (by omega) (by omega)) ?_
    refine GP.ti (nI n) hV1.1 ?_
    refine n_icmp_ge (pc := 50) 78 dX12_takeThousand_50 (by decide) (by omega) (by omega) (fun hb9 => ?_) (fun hb9 => ?_)
    · exact absurd hb9 (by omega)
    · refine g_aload_n (pc := 53) 3 dX12_takeThousand_53 rfl rfl ?_
      refine g_get (pc := 54) dX12_takeThousand_54 fk_X12_54 (lk_ne (show (Y + 15) ≠ Y by omega) (lk_ne (show (Y + 16) ≠ Y by omega) (hR1.lk (by unfold nuS2; omega) hY))) rfl ?_
      refine g_bipush (pc := 57) (v := nI 90) dX12_takeThousand_57 (by decide) ?_
      refine g_iload_n (pc := 59) 2 dX12_takeThousand_59 rfl rfl ?_
      refine n_imul (pc := 60) dX12_takeThousand_60 ?_
      refine g_iload_n (pc := 61) 0 dX12_takeThousand_61 rfl rfl ?_
      refine n_iadd (pc := 62) dX12_takeThousand_62 ?_
      refine g_aload_n (pc := 63) 3 dX12_takeThousand_63 rfl rfl ?_
      refine g_get (pc := 64) dX12_takeThousand_64 fk_X12_48 (lk_ne (show (Y + 15) ≠ Y by omega) (lk_ne (show (Y + 16) ≠ Y by omega) (hR1.lk (by unfold nuS2; omega) hY))) rfl ?_
      refine g_iload_n (pc := 67) 1 dX12_takeThousand_67 rfl rfl ?_
      refine g_iload_n (pc := 68) 0 dX12_takeThousand_68 rfl rfl ?_
      refine n_iadd (pc := 69) dX12_takeThousand_69 ?_
      refine g_lald (pc := 70) ((90 * s) + c) dX12_takeThousand_70 (lk_ne (show (Y + 15) ≠ (Y + 13) by omega) (lk_ne (show (Y + 16) ≠ (Y + 13) by omega) hN1.1)) (IXn (by omega) (by omega)) ?_
      refine g_last (pc := 71) ((90 * k) + c) dX12_takeThousand_71 (lk_eq (lk_ne (show (Y + 16) ≠ (Y + 15) by omega) t15)) (IXn (by omega) (by omega)) ?_
      refine GP.weq ((w1.set (Y + 16) (aI 0 8 (upd tm1 k (nI n)))).set (Y + 15) (aL 720 (vp_updL cur ((90 * k) + c) (dg1 ((90 * s) + c))))) (by rw [List.set_set]) ?_
      refine n_iinc (pc := 72) (c := 1) [(3, .int (nI (c + 1))), (2, .int (nI (90 * s))), (1, .int (nI k)), (0, .ref Y)] 0 dX12_takeThousand_72 rfl (by decide) (by decide) rfl ?_
      refine g_goto (pc := 75) 40 dX12_takeThousand_75 (by decide) ?_
      refine GP.lsub _ (by simp) (ih (c + 1) _ (by omega) (hF.st (by omega)) (fun j hj9 => ?_))
      rw [sl_up]
      by_cases e : j = c
      · rw [e, upL_s]; rfl
      · rw [upL_n e]; exact hj j (by omega)
theorem mp_takeThousand (w : Wd) {Y : Nat} {th st nu dg dd ld be ib ta fa re ig : Int32} {dg9 : Nat → Int64} {m9 : Nat → Int32} (hY : w[Y]? = some (oM Y th st nu dg dd ld be ib ta fa re ig)) (hN : nuC w Y dg9 m9) {s k : Nat} (hs : s < 4) (hk : k ≤ 7) (hT : mdT w Y) : EX12_takeThousand [.ref Y, .int (nI k), .int (nI (90 * s))] w (fun r w' => r = none ∧ ∃ dg' m', nuC w' Y dg' m' ∧ (∃ n', n' ≤ 46 ∧ nuV dg' m' s n' (1000 ^ (2 ^ k))) ∧ mdT w' Y ∧ nuG (fun j => j = s ∨ j = 4) dg9 m9 dg' m' ∧ FR (nuS2 Y) w w') := by
  refine EP.of (plainFor_of_name (by decide)) [(0, .ref Y), (1, .int (nI k)), (2, .int (nI (90 * s)))] rfl (Nat.le_of_ble_eq_true rfl) (fun r wf h => by obtain ⟨rfl, -⟩ := h; trivial) ?_
  show BX12_takeThousand w _ w 0 [(0, .ref Y), (1, .int (nI k)), (2, .int (nI (90 * s)))] []
  obtain ⟨t9, tm9, t15, t16, hth⟩ := hT
  rcases hth k (by omega) with h0 | ⟨n, h1, h2, h3, h4, h5⟩
  · ·
      refine g_aload_n (pc := 0) 0 dX12_takeThousand_0 rfl rfl ?_
      refine g_get (pc := 1) dX12_takeThousand_1 fk_X12_57 hY rfl ?_
      refine g_iload_n (pc := 4) 1 dX12_takeThousand_4 rfl rfl ?_
      refine g_iald (pc := 5) k dX12_takeThousand_5 t16 (IXn (by omega) (by omega)) ?_
      refine GP.ti (nI 0) h0 ?_
      refine n_if_ne (pc := 6) 78 dX12_takeThousand_6 (by decide) (by omega) (fun hz => ?_) (fun hz => ?_)
      · exact absurd rfl hz
      · refine g_aload_n (pc := 9) 0 dX12_takeThousand_9 rfl rfl ?_
        refine g_iload_n (pc := 10) 2 dX12_takeThousand_10 rfl rfl ?_
        refine g_ldc2 (pc := 11) kc_X12_212 dX12_takeThousand_11 ?_
        refine g_callV (pc := 14) [.int (nI (90 * s)), .long (1000)] dX12_takeThousand_14 cv_X12_214.1 cv_X12_214.2.1 cv_X12_214.2.2.1 cv_X12_214.2.2.2 hY rfl rfl (Nat.le_of_ble_eq_true rfl) (by decide) (by decide) (mp_tellNumber _ hY hN (s := s) (by omega) (v := 1000) rfl) ?_
        rintro _ w1 ⟨rfl, dg1, m1, hN1, ⟨n1, hl1, hV1⟩, hF1, hM1, hR1⟩
        refine g_aload_n (pc := 17) 0 dX12_takeThousand_17 rfl rfl ?_
        refine g_iload_n (pc := 18) 2 dX12_takeThousand_18 rfl rfl ?_
        refine g_iload_n (pc := 19) 1 dX12_takeThousand_19 rfl rfl ?_
        refine g_callV (pc := 20) [.int (nI (90 * s)), .int (nI k)] dX12_takeThousand_20 cv_X12_218.1 cv_X12_218.2.1 cv_X12_218.2.2.1 cv_X12_218.2.2.2 (hR1.lk (by unfold nuS; omega) hY) rfl rfl (Nat.le_of_ble_eq_true rfl) (by decide) (by decide) (mp_raise _ (hR1.lk (by unfold nuS; omega) hY) hN1 hs hV1 hk (fun i hi => th_c i (by omega))) ?_
        rintro _ w2 ⟨rfl, dg2, m2, hN2, ⟨n2, hV2⟩, hG2, hR2⟩
        refine g_aload_n (pc := 23) 0 dX12_takeThousand_23 rfl rfl ?_
        refine g_get (pc := 24) dX12_takeThousand_24 fk_X12_57 ((hR1.tr hR2).lk (by unfold nuS; omega) hY) rfl ?_
        refine g_iload_n (pc := 27) 1 dX12_takeThousand_27 rfl rfl ?_
        refine g_aload_n (pc := 28) 0 dX12_takeThousand_28 rfl rfl ?_
        refine g_get (pc := 29) dX12_takeThousand_29 fk_X12_51 ((hR1.tr hR2).lk (by unfold nuS; omega) hY) rfl ?_
        refine g_iload_n (pc := 32) 2 dX12_takeThousand_32 rfl rfl ?_
        refine g_bipush (pc := 33) (v := nI 90) dX12_takeThousand_33 (by decide) ?_
        refine n_idiv (pc := 35) dX12_takeThousand_35 (by omega) (by omega) (by omega) ?_
        refine GP.ti (nI s) (by rw [show 90 * s / 90 = s by omega]) ?_
        refine g_iald (pc := 36) s dX12_takeThousand_36 hN2.2 (IXn (by omega) (by omega)) ?_
        refine GP.ti (nI n2) hV2.1 ?_
        refine g_iast (pc := 37) k dX12_takeThousand_37 ((hR1.tr hR2).lk (by unfold nuS; omega) t16) (IXn (by omega) (by omega)) ?_
        refine g_iconst (pc := 38) (v := nI 0) dX12_takeThousand_38 (by decide) ?_
        refine g_istore_n (pc := 39) [(3, .int (nI 0)), (0, .ref Y), (1, .int (nI k)), (2, .int (nI (90 * s)))] dX12_takeThousand_39 rfl (by decide) rfl ?_
        refine GP.weq ((w2.set (Y + 16) (aI 0 8 (upd tm9 k (nI n2)))).set (Y + 15) (aL 720 t9)) (set_same (lk_ne (show (Y + 16) ≠ (Y + 15) by omega) ((hR1.tr hR2).lk (by unfold nuS; omega) t15))).symm ?_
        exact GP.lsub _ (by simp) (tt_3 hY hs hk hN2 ((hR1.tr hR2).mono (fun _ g => nuS_2 g)) ((nuG.of hF1 hM1 (Or.inl rfl)).tr hG2) ((hR1.tr hR2).lk (by unfold nuS; omega) t15) ((hR1.tr hR2).lk (by unfold nuS; omega) t16) hth hV2 n2 0 t9 (by omega) nuF.rf (fun j hj => absurd hj (by omega)))
  · ·
      refine g_aload_n (pc := 0) 0 dX12_takeThousand_0 rfl rfl ?_
      refine g_get (pc := 1) dX12_takeThousand_1 fk_X12_57 hY rfl ?_
      refine g_iload_n (pc := 4) 1 dX12_takeThousand_4 rfl rfl ?_
      refine g_iald (pc := 5) k dX12_takeThousand_5 t16 (IXn (by omega) (by omega)) ?_
      refine GP.ti (nI n) h1 ?_
      refine n_if_ne (pc := 6) 78 dX12_takeThousand_6 (by decide) (by omega) (fun hz => ?_) (fun hz => ?_)
      · exact GP.lsub _ (by simp) (tt_1 hY hs hk hN FR.rf nuG.rf t15 t16 hth h1 h3 h4 h5)
      · exact absurd hz (by omega)
def lowQ (A : Nat → Nat) (n k t : Nat) : Prop := ∃ i, i ≤ n ∧ t ^ (2 ^ k) * binI n i ≤ 1000 ^ (2 ^ k) * A i
def lvA (l : Nat → Int64) (k : Nat) : Nat → Nat := fun j => (l (13 * k + j)).toInt.natAbs
theorem low_skip {n k i t : Nat} (hn : n ≤ 12) (hi : i ≤ n) (ht : t ≠ 0) : ¬ (t ^ (2 ^ k) * binI n i ≤ 1000 ^ (2 ^ k) * 0) := by
  have h1 : 0 < t ^ (2 ^ k) := Nat.pow_pos (by omega)
  have h2 := (bin_b n (by omega) i (by omega) hi).1
  have h3 := Nat.mul_pos h1 h2
  omega
abbrev BX12_isLow (w0 : Wd) (Post : Option Value → Wd → Prop) (w : Wd) (pc : Nat) (ls : List (Nat × Value)) (st : List Value) : Prop := GP "isLow" RX12 cX12_isLow 7 (some .boolean) 3 117 none w0 Post w pc ls st
abbrev EX12_isLow (As : List Value) (w : Wd) (Post : Option Value → Wd → Prop) : Prop := EP yX12_isLow cX12_isLow 7 (some .boolean) 3 As w Post
theorem lw_body {w0 w w1 : Wd} {Y : Nat} {th st nu dg dd be ib ta fa re ig : Int32} {l : Nat → Int64} {n k t : Nat} (hY : w[Y]? = some (oM Y th st nu dg dd (nI n) be ib ta fa re ig)) (a12 : w[Y + 12]? = some (aL 91 l)) (hn : n ≤ 12) (hk : k ≤ 6) (ht9 : t < 268435456) (ht : t ^ (2 ^ k) < 268435456 ^ 45) {i : Nat} (hi : i ≤ n) (hO : nuO w1 Y) (hR0 : FR (nuS2 Y) w w1) (K1 : ∀ w2, nuO w2 Y → FR (nuS2 Y) w w2 → t ^ (2 ^ k) * binI n i ≤ 1000 ^ (2 ^ k) * lvA l k i → BX12_isLow w0 (fun r w' => ((r = some (.int (nI 1)) ∧ lowQ (lvA l k) n k t) ∨ (r = some (.int (nI 0)) ∧ ¬ lowQ (lvA l k) n k t)) ∧ nuO w' Y ∧ FR (nuS2 Y) w w') w2 156 [(4, .int (nI i)), (3, .int (nI 1)), (2, .int (nI t)), (1, .int (nI k)), (0, .ref Y)] []) (K0 : ∀ w2, nuO w2 Y → FR (nuS2 Y) w w2 → ¬ (t ^ (2 ^ k) * binI n i ≤ 1000 ^ (2 ^ k) * lvA l k i) → BX12_isLow w0 (fun r w' => ((r = some (.int (nI 1)) ∧ lowQ (lvA l k) n k t) ∨ (r = some (.int (nI 0)) ∧ ¬ lowQ (lvA l k) n k t)) ∧ nuO w' Y ∧ FR (nuS2 Y) w w') w2 156 [(4, .int (nI i)), (3, .int (nI 0)), (2, .int (nI t)), (1, .int (nI k)), (0, .ref Y)] []) : BX12_isLow w0 (fun r w' => ((r = some (.int (nI 1)) ∧ lowQ (lvA l k) n k t) ∨ (r = some (.int (nI 0)) ∧ ¬ lowQ (lvA l k) n k t)) ∧ nuO w' Y ∧ FR (nuS2 Y) w w') w1 65 [(4, .int (nI i)), (3, .int (nI 0)), (2, .int (nI t)), (1, .int (nI k)), (0, .ref Y)] [] := by
  obtain ⟨⟨dg1, m1, hN1⟩, hT1⟩ := hO
  have hb9 := bin_b n (by omega) i (by omega) hi
  have et : ((nI t).toInt64).toInt = (t : Int) := by rw [IL, nI_toInt (by omega)]
  have hpw : ∀ q, q < k → t ^ (2 ^ q) < 268435456 ^ 45 := fun q hq => by
    by_cases e0 : t = 0
    · rw [e0, Nat.zero_pow (Nat.pow_pos (by decide))]; decide
    · exact Nat.lt_of_le_of_lt (Nat.pow_le_pow_right (by omega) (Nat.pow_le_pow_right (by decide) (by omega))) ht
  refine g_aload_n (pc := 65) 4 dX12_isLow_65 rfl rfl ?_
  refine g_iconst (pc := 66) (v := nI 0) dX12_isLow_66 (by decide) ?_
  refine g_iload_n (pc := 67) 2 dX12_isLow_67 rfl rfl ?_
  refine g_i2l (pc := 68) dX12_isLow_68 ?_
  refine g_callV (pc := 69) [.int (nI 0), .long ((nI t).toInt64)] dX12_isLow_69 cv_X12_214.1 cv_X12_214.2.1 cv_X12_214.2.2.1 cv_X12_214.2.2.2 (hR0.lk (by unfold nuS2; omega) hY) rfl rfl (Nat.le_of_ble_eq_true rfl) (by decide) (by decide) (mp_tellNumber _ (hR0.lk (by unfold nuS2; omega) hY) hN1 (s := 0) (by omega) et) ?_
  rintro _ w2 ⟨rfl, dg2, m2, hN2, ⟨n2, hl2, hV2⟩, hF2, hM2, hR2⟩
  refine g_aload_n (pc := 72) 4 dX12_isLow_72 rfl rfl ?_
  refine g_iconst (pc := 73) (v := nI 0) dX12_isLow_73 (by decide) ?_
  refine g_iload_n (pc := 74) 3 dX12_isLow_74 rfl rfl ?_
  refine g_callV (pc := 75) [.int (nI 0), .int (nI k)] dX12_isLow_75 cv_X12_218.1 cv_X12_218.2.1 cv_X12_218.2.2.1 cv_X12_218.2.2.2 (hR2.lk (by unfold nuS; omega) (hR0.lk (by unfold nuS2; omega) hY)) rfl rfl (Nat.le_of_ble_eq_true rfl) (by decide) (by decide) (mp_raise _ (hR2.lk (by unfold nuS; omega) (hR0.lk (by unfold nuS2; omega) hY)) hN2 (s := 0) (by omega) hV2 (by omega) hpw) ?_
  rintro _ w3 ⟨rfl, dg3, m3, hN3, ⟨n3, hV3⟩, hG3, hR3⟩
  refine g_aload_n (pc := 78) 4 dX12_isLow_78 rfl rfl ?_
  refine g_bipush (pc := 79) (v := nI 90) dX12_isLow_79 (by decide) ?_
  refine g_aload_n (pc := 81) 4 dX12_isLow_81 rfl rfl ?_
  refine g_get (pc := 82) dX12_isLow_82 fk_X12_183 (hR3.lk (by unfold nuS; omega) (hR2.lk (by unfold nuS; omega) (hR0.lk (by unfold nuS2; omega) hY))) rfl ?_
  refine g_iload (pc := 85) 0 dX12_isLow_85 rfl ?_
  refine g_callS (pc := 87) [.int (nI n), .int (nI i)] dX12_isLow_87 cs_X12_221.1 cs_X12_221.2 rfl rfl (Nat.le_of_ble_eq_true rfl) (by decide) (by decide) (mp_choose _ hn hi) ?_
  rintro _ wc ⟨vc, rfl, hvc, ec⟩
  refine GP.weq _ ec ?_
  refine g_callV (pc := 90) [.int (nI 90), .long vc] dX12_isLow_90 cv_X12_214.1 cv_X12_214.2.1 cv_X12_214.2.2.1 cv_X12_214.2.2.2 (hR3.lk (by unfold nuS; omega) (hR2.lk (by unfold nuS; omega) (hR0.lk (by unfold nuS2; omega) hY))) rfl rfl (Nat.le_of_ble_eq_true rfl) (by decide) (by decide) (mp_tellNumber _ (hR3.lk (by unfold nuS; omega) (hR2.lk (by unfold nuS; omega) (hR0.lk (by unfold nuS2; omega) hY))) hN3 (s := 1) (by omega) hvc) ?_
  rintro _ w4 ⟨rfl, dg4, m4, hN4, ⟨n4, hl4, hV4⟩, hF4, hM4, hR4⟩
  refine g_aload_n (pc := 93) 4 dX12_isLow_93 rfl rfl ?_
  refine g_iconst (pc := 94) (v := nI 0) dX12_isLow_94 (by decide) ?_
  refine g_bipush (pc := 95) (v := nI 90) dX12_isLow_95 (by decide) ?_
  refine g_sipush (pc := 97) (v := nI 180) dX12_isLow_97 (by decide) ?_
  have hl3 := hV3.len ht
  have hV5 := hV3.kp hF4 hM4 (by omega)
  refine g_callV (pc := 100) [.int (nI 0), .int (nI 90), .int (nI 180)] dX12_isLow_100 cv_X12_204.1 cv_X12_204.2.1 cv_X12_204.2.2.1 cv_X12_204.2.2.2 (hR4.lk (by unfold nuS; omega) (hR3.lk (by unfold nuS; omega) (hR2.lk (by unfold nuS; omega) (hR0.lk (by unfold nuS2; omega) hY)))) rfl rfl (Nat.le_of_ble_eq_true rfl) (by decide) (by decide) (mp_product _ (hR4.lk (by unfold nuS; omega) (hR3.lk (by unfold nuS; omega) (hR2.lk (by unfold nuS; omega) (hR0.lk (by unfold nuS2; omega) hY)))) hN4 (a := 0) (b := 1) (t := 2) (by omega) (by omega) (by omega) (by omega) (by omega) hV5 hV4 (by omega)) ?_
  rintro _ w5 ⟨rfl, dg5, m5, hN5, ⟨n5, hl5, hV6⟩, hF5, hM5, hR5⟩
  refine g_aload_n (pc := 103) 4 dX12_isLow_103 rfl rfl ?_
  refine g_iload_n (pc := 104) 3 dX12_isLow_104 rfl rfl ?_
  refine g_iconst (pc := 105) (v := nI 0) dX12_isLow_105 (by decide) ?_
  have hT5 := mdT_fr (mdT_fr (mdT_fr (mdT_fr hT1 hR2) hR3) hR4) hR5
  refine g_callV (pc := 106) [.int (nI k), .int (nI 0)] dX12_isLow_106 cv_X12_225.1 cv_X12_225.2.1 cv_X12_225.2.2.1 cv_X12_225.2.2.2 (hR5.lk (by unfold nuS; omega) (hR4.lk (by unfold nuS; omega) (hR3.lk (by unfold nuS; omega) (hR2.lk (by unfold nuS; omega) (hR0.lk (by unfold nuS2; omega) hY))))) rfl rfl (Nat.le_of_ble_eq_true rfl) (by decide) (by decide) (mp_takeThousand _ (hR5.lk (by unfold nuS; omega) (hR4.lk (by unfold nuS; omega) (hR3.lk (by unfold nuS; omega) (hR2.lk (by unfold nuS; omega) (hR0.lk (by unfold nuS2; omega) hY))))) hN5 (s := 0) (by omega) (by omega) hT5) ?_
  rintro _ w6 ⟨rfl, dg6, m6, hN6, ⟨n6, hl6, hV7⟩, hT6, hG6, hR6⟩
  refine g_aload_n (pc := 109) 4 dX12_isLow_109 rfl rfl ?_
  refine g_bipush (pc := 110) (v := nI 90) dX12_isLow_110 (by decide) ?_
  refine g_aload_n (pc := 112) 4 dX12_isLow_112 rfl rfl ?_
  refine g_get (pc := 113) dX12_isLow_113 fk_X12_45 (hR6.lk (by unfold nuS2; omega) (hR5.lk (by unfold nuS; omega) (hR4.lk (by unfold nuS; omega) (hR3.lk (by unfold nuS; omega) (hR2.lk (by unfold nuS; omega) (hR0.lk (by unfold nuS2; omega) hY)))))) rfl ?_
  refine g_bipush (pc := 116) (v := nI 13) dX12_isLow_116 (by decide) ?_
  refine g_iload_n (pc := 118) 3 dX12_isLow_118 rfl rfl ?_
  refine n_imul (pc := 119) dX12_isLow_119 ?_
  refine g_iload (pc := 120) 0 dX12_isLow_120 rfl ?_
  refine n_iadd (pc := 122) dX12_isLow_122 ?_
  refine g_lald (pc := 123) ((13 * k) + i) dX12_isLow_123 (hR6.lk (by unfold nuS2; omega) (hR5.lk (by unfold nuS; omega) (hR4.lk (by unfold nuS; omega) (hR3.lk (by unfold nuS; omega) (hR2.lk (by unfold nuS; omega) (hR0.lk (by unfold nuS2; omega) a12)))))) (IXn (by omega) (by omega)) ?_
  have hV8 := hV6.kg hG6 (by omega)
  refine g_callV (pc := 124) [.int (nI 90), .long (l ((13 * k) + i))] dX12_isLow_124 cv_X12_228.1 cv_X12_228.2.1 cv_X12_228.2.2.1 cv_X12_228.2.2.2 (hR6.lk (by unfold nuS2; omega) (hR5.lk (by unfold nuS; omega) (hR4.lk (by unfold nuS; omega) (hR3.lk (by unfold nuS; omega) (hR2.lk (by unfold nuS; omega) (hR0.lk (by unfold nuS2; omega) hY)))))) rfl rfl (Nat.le_of_ble_eq_true rfl) (by decide) (by decide) (mp_layLong _ (hR6.lk (by unfold nuS2; omega) (hR5.lk (by unfold nuS; omega) (hR4.lk (by unfold nuS; omega) (hR3.lk (by unfold nuS; omega) (hR2.lk (by unfold nuS; omega) (hR0.lk (by unfold nuS2; omega) hY)))))) hN6 (s := 1) (by omega)) ?_
  rintro _ w7 ⟨rfl, dg7, m7, hN7, ⟨n7, hl7, hV9⟩, hF7, hM7, hR7⟩
  refine g_aload_n (pc := 127) 4 dX12_isLow_127 rfl rfl ?_
  refine g_iconst (pc := 128) (v := nI 0) dX12_isLow_128 (by decide) ?_
  refine g_bipush (pc := 129) (v := nI 90) dX12_isLow_129 (by decide) ?_
  refine g_sipush (pc := 131) (v := nI 270) dX12_isLow_131 (by decide) ?_
  refine g_callV (pc := 134) [.int (nI 0), .int (nI 90), .int (nI 270)] dX12_isLow_134 cv_X12_204.1 cv_X12_204.2.1 cv_X12_204.2.2.1 cv_X12_204.2.2.2 (hR7.lk (by unfold nuS; omega) (hR6.lk (by unfold nuS2; omega) (hR5.lk (by unfold nuS; omega) (hR4.lk (by unfold nuS; omega) (hR3.lk (by unfold nuS; omega) (hR2.lk (by unfold nuS; omega) (hR0.lk (by unfold nuS2; omega) hY))))))) rfl rfl (Nat.le_of_ble_eq_true rfl) (by decide) (by decide) (mp_product _ (hR7.lk (by unfold nuS; omega) (hR6.lk (by unfold nuS2; omega) (hR5.lk (by unfold nuS; omega) (hR4.lk (by unfold nuS; omega) (hR3.lk (by unfold nuS; omega) (hR2.lk (by unfold nuS; omega) (hR0.lk (by unfold nuS2; omega) hY))))))) hN7 (a := 0) (b := 1) (t := 3) (by omega) (by omega) (by omega) (by omega) (by omega) (hV7.kp hF7 hM7 (by omega)) hV9 (by omega)) ?_
  rintro _ w8 ⟨rfl, dg8, m8, hN8, ⟨n8, hl8, hV10⟩, hF8, hM8, hR8⟩
  refine g_aload_n (pc := 137) 4 dX12_isLow_137 rfl rfl ?_
  refine g_sipush (pc := 138) (v := nI 180) dX12_isLow_138 (by decide) ?_
  refine g_sipush (pc := 141) (v := nI 270) dX12_isLow_141 (by decide) ?_
  have hVa := (hV8.kp hF7 hM7 (by omega)).kp hF8 hM8 (by omega)
  have hO8 : nuO w8 Y := ⟨⟨dg8, m8, hN8⟩, mdT_fr (mdT_fr hT6 hR7) hR8⟩
  have hR9 : FR (nuS2 Y) w w8 := hR0.tr ((((hR2.tr (hR3.tr (hR4.tr hR5))).mono (fun _ g => nuS_2 g)).tr hR6).tr ((hR7.tr hR8).mono (fun _ g => nuS_2 g)))
  have hle : ∀ q : Prop, (q ↔ t ^ (2 ^ k) * binI n i ≤ 1000 ^ (2 ^ k) * (l (13 * k + i)).toInt.natAbs) → (q ↔ t ^ (2 ^ k) * binI n i ≤ 1000 ^ (2 ^ k) * lvA l k i) := fun _ h => h
  refine g_callV (pc := 144) [.int (nI 180), .int (nI 270)] dX12_isLow_144 cv_X12_231.1 cv_X12_231.2.1 cv_X12_231.2.2.1 cv_X12_231.2.2.2 (hR8.lk (by unfold nuS; omega) (hR7.lk (by unfold nuS; omega) (hR6.lk (by unfold nuS2; omega) (hR5.lk (by unfold nuS; omega) (hR4.lk (by unfold nuS; omega) (hR3.lk (by unfold nuS; omega) (hR2.lk (by unfold nuS; omega) (hR0.lk (by unfold nuS2; omega) hY)))))))) rfl rfl (Nat.le_of_ble_eq_true rfl) (by decide) (by decide) (mp_compareNumbers _ (hR8.lk (by unfold nuS; omega) (hR7.lk (by unfold nuS; omega) (hR6.lk (by unfold nuS2; omega) (hR5.lk (by unfold nuS; omega) (hR4.lk (by unfold nuS; omega) (hR3.lk (by unfold nuS; omega) (hR2.lk (by unfold nuS; omega) (hR0.lk (by unfold nuS2; omega) hY)))))))) hN8 (a := 2) (b := 3) (by omega) (by omega) hVa hV10) ?_
  rintro _ w9 (⟨hc, rfl, e9⟩ | ⟨hc, rfl, e9⟩ | ⟨hc, rfl, e9⟩)
  · refine GP.weq _ e9 ?_
    refine g_if_gt (pc := 147) 154 dX12_isLow_147 (by decide) (fun hd9 => ?_) (fun hd9 => ?_)
    · exact absurd hd9 (by decide)
    · refine g_iconst (pc := 150) (v := nI 1) dX12_isLow_150 (by decide) ?_
      refine g_goto (pc := 151) 155 dX12_isLow_151 (by decide) ?_
      refine g_istore_n (pc := 155) [(3, .int (nI 1)), (4, .int (nI i)), (2, .int (nI t)), (1, .int (nI k)), (0, .ref Y)] dX12_isLow_155 rfl (by decide) rfl ?_
      exact GP.lsub _ (by simp) (K1 w8 hO8 hR9 (Nat.le_of_lt hc))
  · refine GP.weq _ e9 ?_
    refine n_if_gt (pc := 147) 154 dX12_isLow_147 (by decide) (by omega) (fun hd9 => ?_) (fun hd9 => ?_)
    · exact absurd rfl hd9
    · refine g_iconst (pc := 150) (v := nI 1) dX12_isLow_150 (by decide) ?_
      refine g_goto (pc := 151) 155 dX12_isLow_151 (by decide) ?_
      refine g_istore_n (pc := 155) [(3, .int (nI 1)), (4, .int (nI i)), (2, .int (nI t)), (1, .int (nI k)), (0, .ref Y)] dX12_isLow_155 rfl (by decide) rfl ?_
      exact GP.lsub _ (by simp) (K1 w8 hO8 hR9 (Nat.le_of_eq hc))
  · refine GP.weq _ e9 ?_
    refine n_if_gt (pc := 147) 154 dX12_isLow_147 (by decide) (by omega) (fun hd9 => ?_) (fun hd9 => ?_)
    · refine g_iconst (pc := 154) (v := nI 0) dX12_isLow_154 (by decide) ?_
      refine g_istore_n (pc := 155) [(3, .int (nI 0)), (4, .int (nI i)), (2, .int (nI t)), (1, .int (nI k)), (0, .ref Y)] dX12_isLow_155 rfl (by decide) rfl ?_
      exact GP.lsub _ (by simp) (K0 w8 hO8 hR9 (Nat.not_le.mpr hc))
    · exact absurd hd9 (by decide)
theorem lw_loop {w0 w : Wd} {Y : Nat} {th st nu dg dd be ib ta fa re ig : Int32} {l : Nat → Int64} {n k t : Nat} (hY : w[Y]? = some (oM Y th st nu dg dd (nI n) be ib ta fa re ig)) (a12 : w[Y + 12]? = some (aL 91 l)) (hn : n ≤ 12) (hk : k ≤ 6) (ht9 : t < 268435456) (ht : t ^ (2 ^ k) < 268435456 ^ 45) : ∀ (z i : Nat) (w1 : Wd), n + 1 = i + z → nuO w1 Y → FR (nuS2 Y) w w1 → (∀ j, j < i → ¬ (t ^ (2 ^ k) * binI n j ≤ 1000 ^ (2 ^ k) * lvA l k j)) → BX12_isLow w0 (fun r w' => ((r = some (.int (nI 1)) ∧ lowQ (lvA l k) n k t) ∨ (r = some (.int (nI 0)) ∧ ¬ lowQ (lvA l k) n k t)) ∧ nuO w' Y ∧ FR (nuS2 Y) w w') w1 5 [(4, .int (nI i)), (3, .int (nI 0)), (2, .int (nI t)), (1, .int (nI k)), (0, .ref Y)] [] := by
  intro z
  induction z with
  | zero =>
    intro i w1 hz hO hR0 hj
    refine g_iload (pc := 5) 0 dX12_isLow_5 rfl ?_
    refine g_aload_n (pc := 7) 4 dX12_isLow_7 rfl rfl ?_
    refine g_get (pc := 8) dX12_isLow_8 fk_X12_183 (hR0.lk (by unfold nuS2; omega) hY) rfl ?_
    refine n_icmp_gt (pc := 11) 162 dX12_isLow_11 (by decide) (by omega) (by omega) (fun hb9 => ?_) (fun hb9 => ?_)
    · refine g_iload_n (pc := 162) 1 dX12_isLow_162 rfl rfl ?_
      exact g_iret (pc := 163) dX12_isLow_163 ⟨Or.inr ⟨rfl, fun ⟨j, h1, h2⟩ => hj j (by omega) h2⟩, hO, hR0⟩
    · exact absurd (show n < i by omega) hb9
  | succ z ih =>
    intro i w1 hz hO hR0 hj
    refine g_iload (pc := 5) 0 dX12_isLow_5 rfl ?_
    refine g_aload_n (pc := 7) 4 dX12_isLow_7 rfl rfl ?_
    refine g_get (pc := 8) dX12_isLow_8 fk_X12_183 (hR0.lk (by unfold nuS2; omega) hY) rfl ?_
    refine n_icmp_gt (pc := 11) 162 dX12_isLow_11 (by decide) (by omega) (by omega) (fun hb9 => ?_) (fun hb9 => ?_)
    · exact absurd hb9 (by omega)
    · refine g_iload_n (pc := 14) 1 dX12_isLow_14 rfl rfl ?_
      refine n_if_ne (pc := 15) 162 dX12_isLow_15 (by decide) (by omega) (fun hs9 => ?_) (fun hs9 => ?_)
      · exact absurd rfl hs9
      · refine g_aload_n (pc := 18) 4 dX12_isLow_18 rfl rfl ?_
        refine g_get (pc := 19) dX12_isLow_19 fk_X12_45 (hR0.lk (by unfold nuS2; omega) hY) rfl ?_
        refine g_bipush (pc := 22) (v := nI 13) dX12_isLow_22 (by decide) ?_
        refine g_iload_n (pc := 24) 3 dX12_isLow_24 rfl rfl ?_
        refine n_imul (pc := 25) dX12_isLow_25 ?_
        refine g_iload (pc := 26) 0 dX12_isLow_26 rfl ?_
        refine n_iadd (pc := 28) dX12_isLow_28 ?_
        refine g_lald (pc := 29) ((13 * k) + i) dX12_isLow_29 (hR0.lk (by unfold nuS2; omega) a12) (IXn (by omega) (by omega)) ?_
        refine g_callS (pc := 30) [.long (l ((13 * k) + i))] dX12_isLow_30 cs_X12_146.1 cs_X12_146.2 rfl rfl (Nat.le_of_ble_eq_true rfl) (by decide) (by decide) (mp_size _) ?_
        rintro _ w9 ⟨x2, rfl, hs1, hs2, e9⟩
        refine GP.weq _ e9 ?_
        have hnext : ∀ w2, nuO w2 Y → FR (nuS2 Y) w w2 → ¬ (t ^ (2 ^ k) * binI n i ≤ 1000 ^ (2 ^ k) * lvA l k i) → BX12_isLow w0 (fun r w' => ((r = some (.int (nI 1)) ∧ lowQ (lvA l k) n k t) ∨ (r = some (.int (nI 0)) ∧ ¬ lowQ (lvA l k) n k t)) ∧ nuO w' Y ∧ FR (nuS2 Y) w w') w2 156 [(4, .int (nI i)), (3, .int (nI 0)), (2, .int (nI t)), (1, .int (nI k)), (0, .ref Y)] [] := by
          intro w2 hO2 hR2 hno
          refine n_iinc (pc := 156) (c := 1) [(4, .int (nI (i + 1))), (3, .int (nI 0)), (2, .int (nI t)), (1, .int (nI k)), (0, .ref Y)] 0 dX12_isLow_156 rfl (by decide) (by decide) rfl ?_
          refine g_goto (pc := 159) 5 dX12_isLow_159 (by decide) ?_
          refine GP.lsub _ (by simp) (ih (i + 1) w2 (by omega) hO2 hR2 (fun j hj9 => ?_))
          by_cases e : j = i
          · rw [e]; exact hno
          · exact hj j (by omega)
        have hhave : ∀ w2, nuO w2 Y → FR (nuS2 Y) w w2 → t ^ (2 ^ k) * binI n i ≤ 1000 ^ (2 ^ k) * lvA l k i → BX12_isLow w0 (fun r w' => ((r = some (.int (nI 1)) ∧ lowQ (lvA l k) n k t) ∨ (r = some (.int (nI 0)) ∧ ¬ lowQ (lvA l k) n k t)) ∧ nuO w' Y ∧ FR (nuS2 Y) w w') w2 156 [(4, .int (nI i)), (3, .int (nI 1)), (2, .int (nI t)), (1, .int (nI k)), (0, .ref Y)] [] := by
          intro w2 hO2 hR2 hyes
          refine n_iinc (pc := 156) (c := 1) [(4, .int (nI (i + 1))), (3, .int (nI 1)), (2, .int (nI t)), (1, .int (nI k)), (0, .ref Y)] 0 dX12_isLow_156 rfl (by decide) (by decide) rfl ?_
          refine g_goto (pc := 159) 5 dX12_isLow_159 (by decide) ?_
          refine g_iload (pc := 5) 0 dX12_isLow_5 rfl ?_
          refine g_aload_n (pc := 7) 4 dX12_isLow_7 rfl rfl ?_
          refine g_get (pc := 8) dX12_isLow_8 fk_X12_183 (hR2.lk (by unfold nuS2; omega) hY) rfl ?_
          refine n_icmp_gt (pc := 11) 162 dX12_isLow_11 (by decide) (by omega) (by omega) (fun hq9 => ?_) (fun hq9 => ?_)
          · refine g_iload_n (pc := 162) 1 dX12_isLow_162 rfl rfl ?_
            exact g_iret (pc := 163) dX12_isLow_163 ⟨Or.inl ⟨rfl, i, by omega, hyes⟩, hO2, hR2⟩
          · refine g_iload_n (pc := 14) 1 dX12_isLow_14 rfl rfl ?_
            refine n_if_ne (pc := 15) 162 dX12_isLow_15 (by decide) (by omega) (fun hq8 => ?_) (fun hq8 => ?_)
            · refine g_iload_n (pc := 162) 1 dX12_isLow_162 rfl rfl ?_
              exact g_iret (pc := 163) dX12_isLow_163 ⟨Or.inl ⟨rfl, i, by omega, hyes⟩, hO2, hR2⟩
            · exact absurd hq8 (by decide)
        refine g_lstore (pc := 33) [(5, .long x2), (4, .int (nI i)), (3, .int (nI 0)), (2, .int (nI t)), (1, .int (nI k)), (0, .ref Y)] dX12_isLow_33 (by decide) rfl ?_
        refine g_lload (pc := 35) 0 dX12_isLow_35 rfl ?_
        refine g_lconst (pc := 37) (v := 0) dX12_isLow_37 (by decide) ?_
        refine g_lcmp_gt (pc := 38) 65 dX12_isLow_38 dX12_isLow_39 (by decide) (fun hp9 => ?_) (fun hp9 => ?_)
        · exact GP.lsub _ (by simp) (lw_body hY a12 hn hk ht9 ht (i := i) (by omega) hO hR0 hhave hnext)
        · refine g_iload_n (pc := 42) 3 dX12_isLow_42 rfl rfl ?_
          refine n_if_eq (pc := 43) 65 dX12_isLow_43 (by decide) (by omega) (fun ht0 => ?_) (fun ht0 => ?_)
          · exact GP.lsub _ (by simp) (lw_body hY a12 hn hk ht9 ht (i := i) (by omega) hO hR0 hhave hnext)
          · refine g_aload_n (pc := 46) 5 dX12_isLow_46 rfl rfl ?_
            refine g_get (pc := 47) dX12_isLow_47 fk_X12_45 (hR0.lk (by unfold nuS2; omega) hY) rfl ?_
            refine g_bipush (pc := 50) (v := nI 13) dX12_isLow_50 (by decide) ?_
            refine g_iload_n (pc := 52) 4 dX12_isLow_52 rfl rfl ?_
            refine n_imul (pc := 53) dX12_isLow_53 ?_
            refine g_iload (pc := 54) 1 dX12_isLow_54 rfl ?_
            refine n_iadd (pc := 56) dX12_isLow_56 ?_
            refine g_lald (pc := 57) ((13 * k) + i) dX12_isLow_57 (hR0.lk (by unfold nuS2; omega) a12) (IXn (by omega) (by omega)) ?_
            refine g_ldc2 (pc := 58) kc_X12_177 dX12_isLow_58 ?_
            refine g_lcmp_ne (pc := 61) 156 dX12_isLow_61 dX12_isLow_62 (by decide) (fun hm9 => ?_) (fun hm9 => ?_)
            · have hx0 : (l (13 * k + i)).toInt = 0 := by
                have h1 : ¬ (0 : Int) < x2.toInt := fun g => hp9 (Int64.lt_iff_toInt_lt.mpr g)
                have h2 : (l (13 * k + i)).toInt ≠ -9223372036854775808 := fun g => hm9 (Int64.toInt_inj.mp (g.trans (by decide)))
                by_cases g : (l (13 * k + i)).toInt < 0
                · rw [hs1 g, L_neg h2] at h1; omega
                · rw [hs2 g] at h1; omega
              have hA0 : lvA l k i = 0 := by show (l (13 * k + i)).toInt.natAbs = 0; rw [hx0]; rfl
              exact GP.lsub _ (by simp) (hnext w1 hO hR0 (by rw [hA0]; exact low_skip hn (by omega) ht0))
            · exact GP.lsub _ (by simp) (lw_body hY a12 hn hk ht9 ht (i := i) (by omega) hO hR0 hhave hnext)
theorem mp_isLow (w : Wd) {Y : Nat} {th st nu dg dd be ib ta fa re ig : Int32} {l : Nat → Int64} {n k t : Nat} (hY : w[Y]? = some (oM Y th st nu dg dd (nI n) be ib ta fa re ig)) (a12 : w[Y + 12]? = some (aL 91 l)) (hn : n ≤ 12) (hk : k ≤ 6) (ht9 : t < 268435456) (ht : t ^ (2 ^ k) < 268435456 ^ 45) (hO : nuO w Y) : EX12_isLow [.ref Y, .int (nI k), .int (nI t)] w (fun r w' => ((r = some (.int (nI 1)) ∧ lowQ (lvA l k) n k t) ∨ (r = some (.int (nI 0)) ∧ ¬ lowQ (lvA l k) n k t)) ∧ nuO w' Y ∧ FR (nuS2 Y) w w') := by
  refine EP.of (plainFor_of_name (by decide)) [(0, .ref Y), (1, .int (nI k)), (2, .int (nI t))] rfl (Nat.le_of_ble_eq_true rfl) (fun r wf h => by rcases h.1 with ⟨rfl, -⟩ | ⟨rfl, -⟩; exact Or.inr rfl; exact Or.inl rfl) ?_
  show BX12_isLow w _ w 0 [(0, .ref Y), (1, .int (nI k)), (2, .int (nI t))] []
  refine g_iconst (pc := 0) (v := nI 0) dX12_isLow_0 (by decide) ?_
  refine g_istore_n (pc := 1) [(3, .int (nI 0)), (0, .ref Y), (1, .int (nI k)), (2, .int (nI t))] dX12_isLow_1 rfl (by decide) rfl ?_
  refine g_iconst (pc := 2) (v := nI 0) dX12_isLow_2 (by decide) ?_
  refine g_istore (pc := 3) [(4, .int (nI 0)), (3, .int (nI 0)), (0, .ref Y), (1, .int (nI k)), (2, .int (nI t))] dX12_isLow_3 (by decide) rfl ?_
  exact GP.lsub _ (by simp) (lw_loop hY a12 hn hk ht9 ht (n + 1) 0 w (by omega) hO FR.rf (fun j hj => absurd hj (by omega)))
