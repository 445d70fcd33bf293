/-! Circle: writeCyclotomic, the whole -/
theorem wc_mid {w0 w : Wd} {Post : Option Value → Wd → Prop} {C tp n : Nat} {mk : Int64} {lf : Nat → Int64} (hC : w[C]? = some (oC (C + 1) (C + 2) (C + 3) (C + 4) (C + 5) tp mk)) (h3 : w[C + 3]? = some (aL 13 lf)) {d : Nat} {wy dg : Int32} {f : Nat → Int64} (hd : 1 ≤ d) (hd2 : d < 100) (hw1 : -1 ≤ wy.toInt) (hw2 : wy.toInt ≤ 1) (hg1 : -10000 ≤ dg.toInt) (hg2 : dg.toInt ≤ 10000) (hk : ∀ (dg2 : Int32) (g : Nat → Int64), dg2.toInt = dg.toInt + wy.toInt * d → cySt wy.toInt d f g → BX0_writeCyclotomic w0 Post (w.set (C + 3) (aL 13 g)) 140 [(4, .int wy), (3, .int (nI d)), (2, .int dg2), (0, .ref C), (1, .int (nI n))] []) : BX0_writeCyclotomic w0 Post (w.set (C + 3) (aL 13 f)) 51 [(3, .int (nI d)), (2, .int dg), (0, .ref C), (1, .int (nI n))] [.int wy] := by
  have z0 : (0 : Int32).toInt = 0 := by decide
  have zd : (nI d).toInt = d := nI_toInt (by omega)
  obtain ⟨dg2, hdg2⟩ : ∃ z : Int32, dg + wy * (nI d) = z := ⟨_, rfl⟩
  have hpr : -100 ≤ wy.toInt * (d : Int) ∧ wy.toInt * (d : Int) ≤ 100 := by
    rcases (show wy.toInt = -1 ∨ wy.toInt = 0 ∨ wy.toInt = 1 by omega) with e | e | e <;> rw [e] <;> omega
  have hm : (wy * nI d).toInt = wy.toInt * d := by rw [I_mul (by rw [zd]; omega) (by rw [zd]; omega), zd]
  have hdg3 : dg2.toInt = dg.toInt + wy.toInt * d := by rw [← hdg2, I_add (by rw [hm]; omega) (by rw [hm]; omega), hm]
  refine g_istore (pc := 51) [(4, .int wy), (3, .int (nI d)), (2, .int dg), (0, .ref C), (1, .int (nI n))] dX0_writeCyclotomic_51 (by decide) rfl ?_
  refine g_iload_n (pc := 53) 2 dX0_writeCyclotomic_53 rfl rfl ?_
  refine g_iload (pc := 54) 0 dX0_writeCyclotomic_54 rfl ?_
  refine g_iload_n (pc := 56) 1 dX0_writeCyclotomic_56 rfl rfl ?_
  refine g_imul (pc := 57) dX0_writeCyclotomic_57 ?_
  refine g_iadd (pc := 58) dX0_writeCyclotomic_58 ?_
  refine GP.ti dg2 hdg2 ?_
  refine g_istore_n (pc := 59) [(2, .int dg2), (4, .int wy), (3, .int (nI d)), (0, .ref C), (1, .int (nI n))] dX0_writeCyclotomic_59 rfl (by decide) rfl ?_
  refine g_bipush (pc := 60) (v := nI 12) dX0_writeCyclotomic_60 (by decide) ?_
  refine g_istore (pc := 62) [(5, .int (nI 12)), (2, .int dg2), (4, .int wy), (3, .int (nI d)), (0, .ref C), (1, .int (nI n))] dX0_writeCyclotomic_62 (by decide) rfl ?_
  rcases (show 0 < wy.toInt ∨ wy.toInt < 0 ∨ wy.toInt = 0 by omega) with hs | hs | hs
  · refine GP.lsub [(5, .int (nI 12)), (4, .int wy), (3, .int (nI d)), (2, .int dg2), (0, .ref C), (1, .int (nI n))] (by simp) (wc_dn hC h3 (f := f) hd hd2 hs (fun g hg => ?_) 12 f (Nat.le_refl _) (Or.inr rfl) (fun q hq => by rw [if_neg (fun g => by omega)]))
    refine g_iload_n (pc := 100) 1 dX0_writeCyclotomic_100 rfl rfl ?_
    refine g_istore (pc := 101) [(5, .int (nI d)), (4, .int wy), (3, .int (nI d)), (2, .int dg2), (0, .ref C), (1, .int (nI n))] dX0_writeCyclotomic_101 (by decide) rfl ?_
    refine g_iload (pc := 103) 1 dX0_writeCyclotomic_103 rfl ?_
    refine g_if_ge (pc := 105) 140 dX0_writeCyclotomic_105 (by decide) (fun h0 => ?_) (fun h0 => ?_)
    · exact GP.lsub _ (by simp) (hk dg2 g hdg3 ⟨fun _ => hg, fun h9 => absurd h9 (by omega), fun h9 => absurd h9 (by omega)⟩)
    · rw [Int32.le_iff_toInt_le, z0] at h0
      exact absurd h0 (by omega)
  · refine g_iload (pc := 64) 2 dX0_writeCyclotomic_64 rfl ?_
    refine g_if_le (pc := 66) 100 dX0_writeCyclotomic_66 (by decide) (fun h0 => ?_) (fun h0 => ?_)
    · refine g_iload_n (pc := 100) 3 dX0_writeCyclotomic_100 rfl rfl ?_
      refine g_istore (pc := 101) [(5, .int (nI d)), (2, .int dg2), (4, .int wy), (3, .int (nI d)), (0, .ref C), (1, .int (nI n))] dX0_writeCyclotomic_101 (by decide) rfl ?_
      exact GP.lsub _ (by simp) (wc_up hC h3 (f := f) hd hs (fun g hg => hk dg2 g hdg3 hg) (13 - d) d f (by omega) (Nat.le_refl _) (fun q hq => ⟨fun h9 => ⟨fun _ => rfl, fun h8 => absurd h9 (by omega)⟩, fun _ => rfl⟩) hd2)
    · rw [Int32.le_iff_toInt_le, z0] at h0
      exact absurd h0 (by omega)
  · refine g_iload (pc := 64) 2 dX0_writeCyclotomic_64 rfl ?_
    refine g_if_le (pc := 66) 100 dX0_writeCyclotomic_66 (by decide) (fun h0 => ?_) (fun h0 => ?_)
    · refine g_iload_n (pc := 100) 3 dX0_writeCyclotomic_100 rfl rfl ?_
      refine g_istore (pc := 101) [(5, .int (nI d)), (2, .int dg2), (4, .int wy), (3, .int (nI d)), (0, .ref C), (1, .int (nI n))] dX0_writeCyclotomic_101 (by decide) rfl ?_
      refine g_iload (pc := 103) 2 dX0_writeCyclotomic_103 rfl ?_
      refine g_if_ge (pc := 105) 140 dX0_writeCyclotomic_105 (by decide) (fun h1 => ?_) (fun h1 => ?_)
      · exact GP.lsub _ (by simp) (hk dg2 f hdg3 ⟨fun h9 => absurd h9 (by omega), fun h9 => absurd h9 (by omega), fun _ _ _ => rfl⟩)
      · rw [Int32.le_iff_toInt_le, z0] at h1
        exact absurd h1 (by omega)
    · rw [Int32.le_iff_toInt_le, z0] at h0
      exact absurd h0 (by omega)
theorem wc_out {w0 w : Wd} {C tp n : Nat} {mk : Int64} {lf : Nat → Int64} (hC : w[C]? = some (oC (C + 1) (C + 2) (C + 3) (C + 4) (C + 5) tp mk)) (h3 : w[C + 3]? = some (aL 13 lf)) (hn : n ≤ 42) : ∀ (z d : Nat) (dg : Int32) (f : Nat → Int64), n = d + z → wcR n d dg.toInt f → -(100 * (d : Int)) ≤ dg.toInt → dg.toInt ≤ 100 * d → BX0_writeCyclotomic w0 (fun r w' => ∃ (v : Int32) (g : Nat → Int64), r = some (.int v) ∧ wcR n n v.toInt g ∧ w' = w.set (C + 3) (aL 13 g)) (w.set (C + 3) (aL 13 f)) 30 [(3, .int (nI (d + 1))), (2, .int dg), (0, .ref C), (1, .int (nI n))] [] := by
  intro z
  induction z with
  | zero =>
    intro d dg f hz hR h1 h2
    refine g_iload_n (pc := 30) 0 dX0_writeCyclotomic_30 rfl rfl ?_
    refine g_iload_n (pc := 31) 3 dX0_writeCyclotomic_31 rfl rfl ?_
    refine n_icmp_gt (pc := 32) 146 dX0_writeCyclotomic_32 (by decide) (by omega) (by omega) (fun hb => ?_) (fun hb => ?_)
    · refine g_iload_n (pc := 146) 1 dX0_writeCyclotomic_146 rfl rfl ?_
      exact g_iret (pc := 147) dX0_writeCyclotomic_147 ⟨dg, f, rfl, by rw [show d = n by omega] at hR; exact hR, rfl⟩
    · exact absurd hb (by omega)
  | succ z ih =>
    intro d dg f hz hR h1 h2
    have hmd : n % (d + 1) < d + 1 := Nat.mod_lt _ (by omega)
    have hnd : n / (d + 1) ≤ n := Nat.div_le_self _ _
    have hk : ∀ wy : Int32, wy.toInt = cyWy n (d + 1) → -1 ≤ wy.toInt → wy.toInt ≤ 1 → BX0_writeCyclotomic w0 (fun r w' => ∃ (v : Int32) (g : Nat → Int64), r = some (.int v) ∧ wcR n n v.toInt g ∧ w' = w.set (C + 3) (aL 13 g)) (w.set (C + 3) (aL 13 f)) 51 [(3, .int (nI (d + 1))), (2, .int dg), (0, .ref C), (1, .int (nI n))] [.int wy] := by
      intro wy hwy g1 g2
      refine wc_mid hC h3 (d := d + 1) (by omega) (by omega) g1 g2 (by omega) (by omega) (fun dg2 g hdg hst => ?_)
      have hpr : -100 ≤ wy.toInt * ((d + 1 : Nat) : Int) ∧ wy.toInt * ((d + 1 : Nat) : Int) ≤ 100 := by
        rcases (show wy.toInt = -1 ∨ wy.toInt = 0 ∨ wy.toInt = 1 by omega) with e | e | e <;> rw [e] <;> omega
      refine n_iinc (pc := 140) (c := 1) [(3, .int (nI ((d + 1) + 1))), (4, .int wy), (2, .int dg2), (0, .ref C), (1, .int (nI n))] 1 dX0_writeCyclotomic_140 rfl (by decide) (by decide) rfl ?_
      refine g_goto (pc := 143) 30 dX0_writeCyclotomic_143 (by decide) ?_
      exact GP.lsub _ (by simp) (ih (d + 1) dg2 g (by omega) ⟨dg.toInt, f, hR, by rw [hdg, hwy], by rw [← hwy]; exact hst⟩ (by omega) (by omega))
    refine g_iload_n (pc := 30) 0 dX0_writeCyclotomic_30 rfl rfl ?_
    refine g_iload_n (pc := 31) 3 dX0_writeCyclotomic_31 rfl rfl ?_
    refine n_icmp_gt (pc := 32) 146 dX0_writeCyclotomic_32 (by decide) (by omega) (by omega) (fun hb => ?_) (fun hb => ?_)
    · exact absurd hb (by omega)
    · refine g_iload_n (pc := 35) 3 dX0_writeCyclotomic_35 rfl rfl ?_
      refine g_iload_n (pc := 36) 0 dX0_writeCyclotomic_36 rfl rfl ?_
      refine n_irem (pc := 37) dX0_writeCyclotomic_37 (by omega) (by omega) (by omega) ?_
      refine n_if_ne (pc := 38) 50 dX0_writeCyclotomic_38 (by decide) (by omega) (fun hm => ?_) (fun hm => ?_)
      · refine g_iconst (pc := 50) (v := nI 0) dX0_writeCyclotomic_50 (by decide) ?_
        exact hk (nI 0) (by unfold cyWy; rw [if_neg hm]; decide) (by decide) (by decide)
      · refine g_iload_n (pc := 41) 3 dX0_writeCyclotomic_41 rfl rfl ?_
        refine g_iload_n (pc := 42) 0 dX0_writeCyclotomic_42 rfl rfl ?_
        refine n_idiv (pc := 43) dX0_writeCyclotomic_43 (by omega) (by omega) (by omega) ?_
        refine g_callS (pc := 44) [.int (nI (n / (d + 1)))] dX0_writeCyclotomic_44 cs_X0_104.1 cs_X0_104.2 rfl rfl (Nat.le_of_ble_eq_true rfl) (by decide) (by decide) (sp_moebius _ (n := n / (d + 1)) (by omega)) ?_
        rintro _ w9 ⟨v, rfl, hv, g1, g2, e9⟩
        refine GP.weq _ e9 ?_
        refine g_goto (pc := 47) 51 dX0_writeCyclotomic_47 (by decide) ?_
        exact hk v (by unfold cyWy; rw [if_pos (by omega)]; exact hv) g1 g2
theorem sp_writeCyclotomic (w : Wd) {C tp n : Nat} {mk : Int64} {lf : Nat → Int64} (hC : w[C]? = some (oC (C + 1) (C + 2) (C + 3) (C + 4) (C + 5) tp mk)) (h3 : w[C + 3]? = some (aL 13 lf)) (hn : n ≤ 42) : EX0_writeCyclotomic [.ref C, .int (nI n)] w (fun r w' => ∃ (v : Int32) (g : Nat → Int64), r = some (.int v) ∧ wcR n n v.toInt g ∧ w' = w.set (C + 3) (aL 13 g)) := by
  refine EP.of (plainFor_of_name (by decide)) [(0, .ref C), (1, .int (nI n))] rfl (Nat.le_of_ble_eq_true rfl) (fun r wf h => by obtain ⟨v, g, rfl, -⟩ := h; trivial) ?_
  show BX0_writeCyclotomic w _ w 0 [(0, .ref C), (1, .int (nI n))] []
  refine g_aload_n (pc := 0) 0 dX0_writeCyclotomic_0 rfl rfl ?_
  refine g_get (pc := 1) dX0_writeCyclotomic_1 fk_X0_21 hC rfl ?_
  refine g_lconst (pc := 4) (v := 0) dX0_writeCyclotomic_4 (by decide) ?_
  refine g_callS (pc := 5) [.ref (C + 3), .long 0] dX0_writeCyclotomic_5 cs_X0_83.1 cs_X0_83.2 rfl rfl (Nat.le_of_ble_eq_true rfl) (by decide) (by decide) (sp_fill1 _ (C + 3) 13 lf 0 h3 (by decide)) ?_
  rintro _ w9 ⟨rfl, e9⟩
  refine GP.weq _ e9 ?_
  refine g_aload_n (pc := 8) 0 dX0_writeCyclotomic_8 rfl rfl ?_
  refine g_get (pc := 9) dX0_writeCyclotomic_9 fk_X0_21 (lk_ne (by omega) hC) rfl ?_
  refine g_iconst (pc := 12) (v := nI 0) dX0_writeCyclotomic_12 (by decide) ?_
  refine g_iload_n (pc := 13) 1 dX0_writeCyclotomic_13 rfl rfl ?_
  refine g_iconst (pc := 14) (v := nI 1) dX0_writeCyclotomic_14 (by decide) ?_
  refine n_icmp_ne (pc := 15) 24 dX0_writeCyclotomic_15 (by decide) (by omega) (by omega) (fun h1 => ?_) (fun h1 => ?_)
  · refine g_lconst (pc := 24) (v := 1) dX0_writeCyclotomic_24 (by decide) ?_
    refine g_last (pc := 25) 0 dX0_writeCyclotomic_25 (lk_eq h3) (IXn (by omega) (by omega)) ?_
    refine GP.weq (w.set (C + 3) (aL 13 (vp_updL (fillF lf 0 13 0) 0 1))) (by rw [List.set_set]) ?_
    refine g_iconst (pc := 26) (v := nI 0) dX0_writeCyclotomic_26 (by decide) ?_
    refine g_istore_n (pc := 27) [(2, .int (nI 0)), (0, .ref C), (1, .int (nI n))] dX0_writeCyclotomic_27 rfl (by decide) rfl ?_
    refine g_iconst (pc := 28) (v := nI 1) dX0_writeCyclotomic_28 (by decide) ?_
    refine g_istore_n (pc := 29) [(3, .int (nI 1)), (2, .int (nI 0)), (0, .ref C), (1, .int (nI n))] dX0_writeCyclotomic_29 rfl (by decide) rfl ?_
    exact GP.lsub _ (by simp) (wc_out hC h3 hn n 0 (nI 0) _ (by omega) ⟨by decide, (fun p hp => by by_cases e : p = 0; · { rw [e, upL_s, if_pos rfl, if_neg h1] }; · { rw [upL_n e, if_neg e]; simp only [fillF]; rw [if_pos (by omega)] })⟩ (by decide) (by decide))
  · refine g_ldc2 (pc := 18) kc_X0_102 dX0_writeCyclotomic_18 ?_
    refine g_goto (pc := 21) 25 dX0_writeCyclotomic_21 (by decide) ?_
    refine g_last (pc := 25) 0 dX0_writeCyclotomic_25 (lk_eq h3) (IXn (by omega) (by omega)) ?_
    refine GP.weq (w.set (C + 3) (aL 13 (vp_updL (fillF lf 0 13 0) 0 (-1)))) (by rw [List.set_set]) ?_
    refine g_iconst (pc := 26) (v := nI 0) dX0_writeCyclotomic_26 (by decide) ?_
    refine g_istore_n (pc := 27) [(2, .int (nI 0)), (0, .ref C), (1, .int (nI n))] dX0_writeCyclotomic_27 rfl (by decide) rfl ?_
    refine g_iconst (pc := 28) (v := nI 1) dX0_writeCyclotomic_28 (by decide) ?_
    refine g_istore_n (pc := 29) [(3, .int (nI 1)), (2, .int (nI 0)), (0, .ref C), (1, .int (nI n))] dX0_writeCyclotomic_29 rfl (by decide) rfl ?_
    exact GP.lsub _ (by simp) (wc_out hC h3 hn n 0 (nI 0) _ (by omega) ⟨by decide, (fun p hp => by by_cases e : p = 0; · { rw [e, upL_s, if_pos rfl, if_pos (by omega)] }; · { rw [upL_n e, if_neg e]; simp only [fillF]; rw [if_pos (by omega)] })⟩ (by decide) (by decide))
