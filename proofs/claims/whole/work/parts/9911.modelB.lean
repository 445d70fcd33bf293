/-! the reference: layLevels -/
/-- levels up to T lie there -/
def lvM (l : Nat → Int64) (F : Nat → Int) (n T : Nat) : Prop := ∀ t, t ≤ T → ∀ j, j < 13 → (l (13 * t + j)).toInt = if j ≤ n then lvs F n t j else 0
theorem lvM_rw {l : Nat → Int64} {F : Nat → Int} {n T k : Nat} (h : lvM l F n T) (hk : k ≤ T) (hn : n ≤ 12) : ∀ j, j ≤ n → rwL l k j = lvs F n k j := fun j hj => by
  unfold rwL
  rw [if_pos (by omega), h k hk j (by omega), if_pos hj]
def laF (l h : Nat → Int64) (n p : Nat) : Nat → Int64 := fun i => if i < p then (if i ≤ n then h i else 0) else l i
theorem laF_s {l h : Nat → Int64} {n p : Nat} {v : Int64} (hv : v = if p ≤ n then h p else 0) : vp_updL (laF l h n p) p v = laF l h n (p + 1) := by
  funext i
  by_cases e : i = p
  · rw [e, upL_s, hv]
    unfold laF
    rw [if_pos (show p < p + 1 by omega)]
  · rw [upL_n e]
    unfold laF
    by_cases e2 : i < p
    · rw [if_pos e2, if_pos (show i < p + 1 by omega)]
    · rw [if_neg e2, if_neg (show ¬ i < p + 1 by omega)]
theorem laF_0 {l h : Nat → Int64} {n : Nat} : laF l h n 0 = l := by
  funext i
  unfold laF
  rw [if_neg (by omega)]
def zrL (l : Nat → Int64) (a p : Nat) : Nat → Int64 := fun i => if a ≤ i ∧ i < a + p then 0 else l i
theorem zrL_s {l : Nat → Int64} {a p : Nat} : vp_updL (zrL l a p) (a + p) 0 = zrL l a (p + 1) := by
  funext i
  by_cases e : i = a + p
  · rw [e, upL_s]
    unfold zrL
    rw [if_pos (by omega)]
  · rw [upL_n e]
    unfold zrL
    by_cases e2 : a ≤ i ∧ i < a + p
    · rw [if_pos e2, if_pos (by omega)]
    · rw [if_neg e2, if_neg (by omega)]
theorem zrL_0 {l : Nat → Int64} {a : Nat} : zrL l a 0 = l := by
  funext i
  unfold zrL
  rw [if_neg (by omega)]
def llI (F : Nat → Int) (n k b T : Nat) (l : Nat → Int64) : Prop := lvM l F n T ∧ (∀ t, t < T → sqd (lvs F n t) n) ∧ ((b = 0 ∧ T = k) ∨ (b = 1 ∧ T + 1 = k ∧ ¬ sqd (lvs F n T) n))
theorem llI_s {F : Nat → Int} {n k b : Nat} {l l' : Nat → Int64} (hn : n ≤ 12) (h : llI F n k 0 k l) (h2 : lqO (zrL l (13 * (k + 1)) 13) k n (n + 1) b l') : llI F n (k + 1) b (if b = 0 then k + 1 else k) l' := by
  obtain ⟨h1, h3, -⟩ := h
  obtain ⟨q1, q2⟩ := h2
  have hz : ∀ t, t < 13 * (k + 1) → zrL l (13 * (k + 1)) 13 t = l t := fun t ht => by
    unfold zrL
    rw [if_neg (by omega)]
  have hr : rwL (zrL l (13 * (k + 1)) 13) k = rwL l k := rwL_cg hz
  rw [hr] at q2
  have hrk := lvM_rw h1 (Nat.le_refl k) hn
  have hlow : lvM l' F n k := fun t ht j hj => by
    rw [q1 _ (by omega), hz _ (by omega)]
    exact h1 t ht j hj
  rcases q2 with ⟨rfl, q3, q4⟩ | ⟨rfl, q3⟩
  · rw [if_pos rfl]
    refine ⟨fun t ht j hj => ?_, fun t ht => ?_, Or.inl ⟨rfl, rfl⟩⟩
    · by_cases e : t = k + 1
      · rw [e]
        by_cases e2 : j ≤ n
        · rw [if_pos e2, (q3 j (by omega)).2]
          exact gco_congr e2 hrk
        · rw [if_neg e2, q4 _ (by omega)]
          unfold zrL
          rw [if_pos (by omega)]
          rfl
      · exact hlow t (by omega) j hj
    · by_cases e : t = k
      · rw [e]
        exact (sqd_cg hrk).mp (fun j hj => (q3 j (by omega)).1)
      · exact h3 t (by omega)
  · rw [if_neg (by omega)]
    exact ⟨hlow, h3, Or.inr ⟨rfl, rfl, fun g => q3 ((sqd_cg (fun j hj => (hrk j hj).symm)).mp g)⟩⟩
theorem llI_e {F : Nat → Int} {n k b T : Nat} {l : Nat → Int64} (h : llI F n k b T l) (hk : k ≤ 6) (hb : b = 1 ∨ k = 6) : topL F n 6 T := by
  obtain ⟨-, h2, h3⟩ := h
  rcases h3 with ⟨h3, h4⟩ | ⟨h3, h4, h5⟩
  · refine ⟨by omega, h2, fun g => absurd g (by omega)⟩
  · exact ⟨by omega, h2, fun _ => h5⟩
abbrev BX12_layLevels (w0 : Wd) (Post : Option Value → Wd → Prop) (w : Wd) (pc : Nat) (ls : List (Nat × Value)) (st : List Value) : Prop := GP "layLevels" RX12 cX12_layLevels 3 none 2 78 none w0 Post w pc ls st
abbrev EX12_layLevels (As : List Value) (w : Wd) (Post : Option Value → Wd → Prop) : Prop := EP yX12_layLevels cX12_layLevels 3 none 2 As w Post
theorem ll_1 {w0 w : Wd} {Y : Nat} {th st nu dd be ib ta fa re ig : Int32} {l h : Nat → Int64} {n : Nat} (hY : w[Y]? = some (oM Y th st nu (nI n) dd (nI n) be ib ta fa re ig)) (a7 : w[Y + 7]? = some (aL 60 h)) (a12 : w[Y + 12]? = some (aL 91 l)) (hn : n ≤ 12) {Q : Option Value → Wd → Prop} (K : BX12_layLevels w0 Q (w.set (Y + 12) (aL 91 (laF l h n 13))) 46 [(0, .ref Y)] []) : ∀ (z p : Nat), 13 = p + z → BX12_layLevels w0 Q (w.set (Y + 12) (aL 91 (laF l h n p))) 10 [(1, .int (nI p)), (0, .ref Y)] [] := by
  intro z
  induction z with
  | zero =>
    intro p hz
    refine g_iload_n (pc := 10) 0 dX12_layLevels_10 rfl rfl ?_
    refine g_bipush (pc := 11) (v := nI 12) dX12_layLevels_11 (by decide) ?_
    refine n_icmp_gt (pc := 13) 46 dX12_layLevels_13 (by decide) (by omega) (by omega) (fun hb9 => ?_) (fun hb9 => ?_)
    · have e9 : p = 13 := by omega
      subst e9
      exact GP.lsub _ (by simp) K
    · exact absurd hb9 (by omega)
  | succ z ih =>
    intro p hz
    refine g_iload_n (pc := 10) 0 dX12_layLevels_10 rfl rfl ?_
    refine g_bipush (pc := 11) (v := nI 12) dX12_layLevels_11 (by decide) ?_
    refine n_icmp_gt (pc := 13) 46 dX12_layLevels_13 (by decide) (by omega) (by omega) (fun hb9 => ?_) (fun hb9 => ?_)
    · exact absurd hb9 (by omega)
    · refine g_aload_n (pc := 16) 1 dX12_layLevels_16 rfl rfl ?_
      refine g_get (pc := 17) dX12_layLevels_17 fk_X12_45 (lk_ne (show (Y + 12) ≠ Y by omega) hY) rfl ?_
      refine g_iload_n (pc := 20) 0 dX12_layLevels_20 rfl rfl ?_
      refine g_iload_n (pc := 21) 0 dX12_layLevels_21 rfl rfl ?_
      refine g_aload_n (pc := 22) 1 dX12_layLevels_22 rfl rfl ?_
      refine g_get (pc := 23) dX12_layLevels_23 fk_X12_113 (lk_ne (show (Y + 12) ≠ Y by omega) hY) rfl ?_
      refine n_icmp_gt (pc := 26) 38 dX12_layLevels_26 (by decide) (by omega) (by omega) (fun hc => ?_) (fun hc => ?_)
      · refine g_lconst (pc := 38) (v := 0) dX12_layLevels_38 (by decide) ?_
        refine g_last (pc := 39) p dX12_layLevels_39 (lk_eq a12) (IXn (by omega) (by omega)) ?_
        refine GP.weq (w.set (Y + 12) (aL 91 (vp_updL (laF l h n p) p 0))) (by rw [List.set_set]) ?_
        refine n_iinc (pc := 40) (c := 1) [(1, .int (nI (p + 1))), (0, .ref Y)] 0 dX12_layLevels_40 rfl (by decide) (by decide) rfl ?_
        refine g_goto (pc := 43) 10 dX12_layLevels_43 (by decide) ?_
        rw [laF_s (show (0 : Int64) = _ from (if_neg (by omega)).symm)]
        exact GP.lsub _ (by simp) (ih (p + 1) (by omega))
      · refine g_aload_n (pc := 29) 1 dX12_layLevels_29 rfl rfl ?_
        refine g_get (pc := 30) dX12_layLevels_30 fk_X12_29 (lk_ne (show (Y + 12) ≠ Y by omega) hY) rfl ?_
        refine g_iload_n (pc := 33) 0 dX12_layLevels_33 rfl rfl ?_
        refine g_lald (pc := 34) p dX12_layLevels_34 (lk_ne (show (Y + 12) ≠ (Y + 7) by omega) a7) (IXn (by omega) (by omega)) ?_
        refine g_goto (pc := 35) 39 dX12_layLevels_35 (by decide) ?_
        refine g_last (pc := 39) p dX12_layLevels_39 (lk_eq a12) (IXn (by omega) (by omega)) ?_
        refine GP.weq (w.set (Y + 12) (aL 91 (vp_updL (laF l h n p) p (h p)))) (by rw [List.set_set]) ?_
        refine n_iinc (pc := 40) (c := 1) [(1, .int (nI (p + 1))), (0, .ref Y)] 0 dX12_layLevels_40 rfl (by decide) (by decide) rfl ?_
        refine g_goto (pc := 43) 10 dX12_layLevels_43 (by decide) ?_
        rw [laF_s (show h p = _ from (if_pos (by omega)).symm)]
        exact GP.lsub _ (by simp) (ih (p + 1) (by omega))
theorem ll_3 {w0 w : Wd} {Y : Nat} {th st nu dg dd ld be ib ta fa re ig : Int32} {l : Nat → Int64} {k : Nat} (hY : w[Y]? = some (oM Y th st nu dg dd ld be ib ta fa re ig)) (a12 : w[Y + 12]? = some (aL 91 l)) (hk : k ≤ 5) {Q : Option Value → Wd → Prop} (K : BX12_layLevels w0 Q (w.set (Y + 12) (aL 91 (zrL l (13 * (k + 1)) 13))) 99 [(1, .int (nI k)), (0, .ref Y)] []) : ∀ (z p : Nat), 13 = p + z → BX12_layLevels w0 Q (w.set (Y + 12) (aL 91 (zrL l (13 * (k + 1)) p))) 73 [(2, .int (nI p)), (1, .int (nI k)), (0, .ref Y)] [] := by
  intro z
  induction z with
  | zero =>
    intro p hz
    refine g_iload_n (pc := 73) 0 dX12_layLevels_73 rfl rfl ?_
    refine g_bipush (pc := 74) (v := nI 12) dX12_layLevels_74 (by decide) ?_
    refine n_icmp_gt (pc := 76) 99 dX12_layLevels_76 (by decide) (by omega) (by omega) (fun hb9 => ?_) (fun hb9 => ?_)
    · have e9 : p = 13 := by omega
      subst e9
      exact GP.lsub _ (by simp) K
    · exact absurd hb9 (by omega)
  | succ z ih =>
    intro p hz
    refine g_iload_n (pc := 73) 0 dX12_layLevels_73 rfl rfl ?_
    refine g_bipush (pc := 74) (v := nI 12) dX12_layLevels_74 (by decide) ?_
    refine n_icmp_gt (pc := 76) 99 dX12_layLevels_76 (by decide) (by omega) (by omega) (fun hb9 => ?_) (fun hb9 => ?_)
    · exact absurd hb9 (by omega)
    · refine g_aload_n (pc := 79) 2 dX12_layLevels_79 rfl rfl ?_
      refine g_get (pc := 80) dX12_layLevels_80 fk_X12_45 (lk_ne (show (Y + 12) ≠ Y by omega) hY) rfl ?_
      refine g_bipush (pc := 83) (v := nI 13) dX12_layLevels_83 (by decide) ?_
      refine g_iload_n (pc := 85) 1 dX12_layLevels_85 rfl rfl ?_
      refine g_iconst (pc := 86) (v := nI 1) dX12_layLevels_86 (by decide) ?_
      refine n_iadd (pc := 87) dX12_layLevels_87 ?_
      refine n_imul (pc := 88) dX12_layLevels_88 ?_
      refine g_iload_n (pc := 89) 0 dX12_layLevels_89 rfl rfl ?_
      refine n_iadd (pc := 90) dX12_layLevels_90 ?_
      refine g_lconst (pc := 91) (v := 0) dX12_layLevels_91 (by decide) ?_
      refine g_last (pc := 92) ((13 * (k + 1)) + p) dX12_layLevels_92 (lk_eq a12) (IXn (by omega) (by omega)) ?_
      refine GP.weq (w.set (Y + 12) (aL 91 (vp_updL (zrL l (13 * (k + 1)) p) ((13 * (k + 1)) + p) 0))) (by rw [List.set_set]) ?_
      refine n_iinc (pc := 93) (c := 1) [(2, .int (nI (p + 1))), (1, .int (nI k)), (0, .ref Y)] 0 dX12_layLevels_93 rfl (by decide) (by decide) rfl ?_
      refine g_goto (pc := 96) 73 dX12_layLevels_96 (by decide) ?_
      rw [zrL_s]
      exact GP.lsub _ (by simp) (ih (p + 1) (by omega))
theorem ll_2 {w0 w : Wd} {Y : Nat} {th st nu dg dd ld be ib ta fa re ig : Int32} {l0 : Nat → Int64} {n : Nat} {F : Nat → Int} (hY : w[Y]? = some (oM Y th st nu dg dd ld be ib ta fa re ig)) (a12 : w[Y + 12]? = some (aL 91 l0)) (hn : n ≤ 12) : ∀ (z k b T : Nat) (l : Nat → Int64), 6 = k + z → llI F n k b T l → BX12_layLevels w0 (fun r w' => r = none ∧ ∃ (T b : Nat) (l : Nat → Int64), topL F n 6 T ∧ lvM l F n T ∧ w' = ((w.set (Y + 12) (aL 91 l)).set Y (oM Y th st nu (nI n) dd (nI n) (nI T) (nI b) ta fa re ig))) ((w.set (Y + 12) (aL 91 l)).set Y (oM Y th st nu (nI n) dd (nI n) (nI T) (nI b) ta fa re ig)) 58 [(1, .int (nI k)), (0, .ref Y)] [] := by
  intro z
  induction z with
  | zero =>
    intro k b T l hz hI
    refine g_iload_n (pc := 58) 0 dX12_layLevels_58 rfl rfl ?_
    refine g_bipush (pc := 59) (v := nI 6) dX12_layLevels_59 (by decide) ?_
    refine n_icmp_ge (pc := 61) 131 dX12_layLevels_61 (by decide) (by omega) (by omega) (fun hb9 => ?_) (fun hb9 => ?_)
    · exact g_vret (pc := 131) dX12_layLevels_131 ⟨rfl, T, b, l, llI_e hI (by omega) (Or.inr (by omega)), hI.1, rfl⟩
    · exact absurd hb9 (by omega)
  | succ z ih =>
    intro k b T l hz hI
    refine g_iload_n (pc := 58) 0 dX12_layLevels_58 rfl rfl ?_
    refine g_bipush (pc := 59) (v := nI 6) dX12_layLevels_59 (by decide) ?_
    refine n_icmp_ge (pc := 61) 131 dX12_layLevels_61 (by decide) (by omega) (by omega) (fun hb9 => ?_) (fun hb9 => ?_)
    · exact absurd hb9 (by omega)
    · refine g_aload_n (pc := 64) 1 dX12_layLevels_64 rfl rfl ?_
      refine g_get (pc := 65) dX12_layLevels_65 fk_X12_179 (lk_eq (lk_ne (show (Y + 12) ≠ Y by omega) hY)) rfl ?_
      obtain ⟨hI1, hI2, hI3⟩ := id hI
      rcases hI3 with ⟨rfl, rfl⟩ | ⟨rfl, hI4, hI5⟩
      · ·
          refine n_if_ne (pc := 68) 131 dX12_layLevels_68 (by decide) (by omega) (fun hd9 => ?_) (fun hd9 => ?_)
          · exact absurd rfl hd9
          · refine g_iconst (pc := 71) (v := nI 0) dX12_layLevels_71 (by decide) ?_
            refine g_istore_n (pc := 72) [(2, .int (nI 0)), (1, .int (nI T)), (0, .ref Y)] dX12_layLevels_72 rfl (by decide) rfl ?_
            obtain ⟨w1, ew1⟩ : ∃ wy : Wd, wy = w.set Y (oM Y th st nu (nI n) dd (nI n) (nI T) (nI 0) ta fa re ig) := ⟨_, rfl⟩
            have hY1 : w1[Y]? = some (oM Y th st nu (nI n) dd (nI n) (nI T) (nI 0) ta fa re ig) := by rw [ew1]; exact lk_eq hY
            have a121 : w1[Y + 12]? = some (aL 91 l0) := by rw [ew1]; exact lk_ne (by omega) a12
            have a122 : (w1.set (Y + 12) (aL 91 l))[Y + 12]? = some (aL 91 l) := lk_eq a121
            have hY2 : (w1.set (Y + 12) (aL 91 l))[Y]? = some (oM Y th st nu (nI n) dd (nI n) (nI T) (nI 0) ta fa re ig) := lk_ne (by omega) hY1
            refine GP.weq ((w1.set (Y + 12) (aL 91 l)).set (Y + 12) (aL 91 (zrL l (13 * (T + 1)) 0))) (by rw [zrL_0, List.set_set, ew1, List.set_comm _ _ (show Y ≠ Y + 12 by omega)]) ?_
            refine GP.lsub _ (by simp) (ll_3 hY2 a122 (show T ≤ 5 by omega) ?_ 13 0 rfl)
            rw [List.set_set]
            refine g_aload_n (pc := 99) 1 dX12_layLevels_99 rfl rfl ?_
            refine g_iload_n (pc := 100) 0 dX12_layLevels_100 rfl rfl ?_
            refine g_callV (pc := 101) [.int (nI T)] dX12_layLevels_101 cv_X12_199.1 cv_X12_199.2.1 cv_X12_199.2.2.1 cv_X12_199.2.2.2 (lk_ne (show (Y + 12) ≠ Y by omega) hY1) rfl rfl (Nat.le_of_ble_eq_true rfl) (by decide) (by decide) (mp_squares _ (lk_ne (show (Y + 12) ≠ Y by omega) hY1) (lk_eq a121) hn (show T ≤ 5 by omega)) ?_
            rintro _ w9 ⟨rfl, b, l', hq, e9⟩
            rw [List.set_set] at e9
            refine GP.weq _ e9 ?_
            have hS := llI_s hn hI hq
            refine g_aload_n (pc := 104) 1 dX12_layLevels_104 rfl rfl ?_
            refine g_aload_n (pc := 105) 1 dX12_layLevels_105 rfl rfl ?_
            refine g_get (pc := 106) dX12_layLevels_106 fk_X12_179 (lk_eq (lk_ne (show (Y + 12) ≠ Y by omega) hY1)) rfl ?_
            have hb01 : b = 0 ∨ b = 1 := by rcases hq.2 with g | g; exact Or.inl g.1; exact Or.inr g.1
            rcases hb01 with rfl | rfl
            · ·
                refine n_if_eq (pc := 109) 119 dX12_layLevels_109 (by decide) (by omega) (fun hd9 => ?_) (fun hd9 => ?_)
                · refine g_iload_n (pc := 119) 0 dX12_layLevels_119 rfl rfl ?_
                  refine g_iconst (pc := 120) (v := nI 1) dX12_layLevels_120 (by decide) ?_
                  refine n_iadd (pc := 121) dX12_layLevels_121 ?_
                  refine g_put (pc := 122) (.int th :: .int st :: .ref (Y + 1) :: .ref (Y + 2) :: .ref (Y + 3) :: .ref (Y + 4) :: .int nu :: .ref (Y + 5) :: .ref (Y + 6) :: .ref (Y + 7) :: .int (nI n) :: .ref (Y + 8) :: .int dd :: .ref (Y + 9) :: .ref (Y + 10) :: .ref (Y + 11) :: .ref (Y + 12) :: .int (nI n) :: .int (nI (T + 1)) :: .int (nI 0) :: .ref (Y + 13) :: .ref (Y + 14) :: .ref (Y + 15) :: .ref (Y + 16) :: .ref (Y + 17) :: .int ta :: .int fa :: .int re :: .int ig :: .ref (Y + 18) :: .ref (Y + 19) :: .ref (Y + 20) :: .ref (Y + 21) :: []) dX12_layLevels_122 fk_X12_196 (lk_eq (lk_ne (show (Y + 12) ≠ Y by omega) hY1)) (Nat.le_of_ble_eq_true rfl) rfl rfl ?_
                  refine GP.weq ((w1.set (Y + 12) (aL 91 l')).set Y (.inr (11, .int th :: .int st :: .ref (Y + 1) :: .ref (Y + 2) :: .ref (Y + 3) :: .ref (Y + 4) :: .int nu :: .ref (Y + 5) :: .ref (Y + 6) :: .ref (Y + 7) :: .int (nI n) :: .ref (Y + 8) :: .int dd :: .ref (Y + 9) :: .ref (Y + 10) :: .ref (Y + 11) :: .ref (Y + 12) :: .int (nI n) :: .int (nI (T + 1)) :: .int (nI 0) :: .ref (Y + 13) :: .ref (Y + 14) :: .ref (Y + 15) :: .ref (Y + 16) :: .ref (Y + 17) :: .int ta :: .int fa :: .int re :: .int ig :: .ref (Y + 18) :: .ref (Y + 19) :: .ref (Y + 20) :: .ref (Y + 21) :: []))) (by rw [List.set_set]) ?_
                  refine n_iinc (pc := 125) (c := 1) [(1, .int (nI (T + 1))), (0, .ref Y)] 0 dX12_layLevels_125 rfl (by decide) (by decide) rfl ?_
                  refine g_goto (pc := 128) 58 dX12_layLevels_128 (by decide) ?_
                  refine GP.weq ((w.set (Y + 12) (aL 91 l')).set Y (oM Y th st nu (nI n) dd (nI n) (nI (T + 1)) (nI 0) ta fa re ig)) (by rw [ew1, List.set_comm _ _ (show Y ≠ Y + 12 by omega), List.set_set]) ?_
                  exact GP.lsub _ (by simp) (ih (T + 1) 0 (T + 1) l' (by omega) (by have := hS; rw [if_pos rfl] at this; exact this))
                · exact absurd rfl hd9
            · ·
                refine n_if_eq (pc := 109) 119 dX12_layLevels_109 (by decide) (by omega) (fun hd9 => ?_) (fun hd9 => ?_)
                · exact absurd hd9 (by decide)
                · refine g_aload_n (pc := 112) 1 dX12_layLevels_112 rfl rfl ?_
                  refine g_get (pc := 113) dX12_layLevels_113 fk_X12_196 (lk_eq (lk_ne (show (Y + 12) ≠ Y by omega) hY1)) rfl ?_
                  refine g_goto (pc := 116) 122 dX12_layLevels_116 (by decide) ?_
                  refine g_put (pc := 122) (.int th :: .int st :: .ref (Y + 1) :: .ref (Y + 2) :: .ref (Y + 3) :: .ref (Y + 4) :: .int nu :: .ref (Y + 5) :: .ref (Y + 6) :: .ref (Y + 7) :: .int (nI n) :: .ref (Y + 8) :: .int dd :: .ref (Y + 9) :: .ref (Y + 10) :: .ref (Y + 11) :: .ref (Y + 12) :: .int (nI n) :: .int (nI T) :: .int (nI 1) :: .ref (Y + 13) :: .ref (Y + 14) :: .ref (Y + 15) :: .ref (Y + 16) :: .ref (Y + 17) :: .int ta :: .int fa :: .int re :: .int ig :: .ref (Y + 18) :: .ref (Y + 19) :: .ref (Y + 20) :: .ref (Y + 21) :: []) dX12_layLevels_122 fk_X12_196 (lk_eq (lk_ne (show (Y + 12) ≠ Y by omega) hY1)) (Nat.le_of_ble_eq_true rfl) rfl rfl ?_
                  refine GP.weq ((w1.set (Y + 12) (aL 91 l')).set Y (.inr (11, .int th :: .int st :: .ref (Y + 1) :: .ref (Y + 2) :: .ref (Y + 3) :: .ref (Y + 4) :: .int nu :: .ref (Y + 5) :: .ref (Y + 6) :: .ref (Y + 7) :: .int (nI n) :: .ref (Y + 8) :: .int dd :: .ref (Y + 9) :: .ref (Y + 10) :: .ref (Y + 11) :: .ref (Y + 12) :: .int (nI n) :: .int (nI T) :: .int (nI 1) :: .ref (Y + 13) :: .ref (Y + 14) :: .ref (Y + 15) :: .ref (Y + 16) :: .ref (Y + 17) :: .int ta :: .int fa :: .int re :: .int ig :: .ref (Y + 18) :: .ref (Y + 19) :: .ref (Y + 20) :: .ref (Y + 21) :: []))) (by rw [List.set_set]) ?_
                  refine n_iinc (pc := 125) (c := 1) [(1, .int (nI (T + 1))), (0, .ref Y)] 0 dX12_layLevels_125 rfl (by decide) (by decide) rfl ?_
                  refine g_goto (pc := 128) 58 dX12_layLevels_128 (by decide) ?_
                  refine GP.weq ((w.set (Y + 12) (aL 91 l')).set Y (oM Y th st nu (nI n) dd (nI n) (nI (T)) (nI 1) ta fa re ig)) (by rw [ew1, List.set_comm _ _ (show Y ≠ Y + 12 by omega), List.set_set]) ?_
                  exact GP.lsub _ (by simp) (ih (T + 1) 1 (T) l' (by omega) (by have := hS; rw [if_neg (by omega)] at this; exact this))
      · ·
          refine n_if_ne (pc := 68) 131 dX12_layLevels_68 (by decide) (by omega) (fun hd9 => ?_) (fun hd9 => ?_)
          · exact g_vret (pc := 131) dX12_layLevels_131 ⟨rfl, T, 1, l, llI_e hI (by omega) (Or.inl rfl), hI.1, rfl⟩
          · exact absurd hd9 (by decide)
theorem mp_layLevels (w : Wd) {Y : Nat} {th st nu dd ld be ib ta fa re ig : Int32} {l0 h : Nat → Int64} {n : Nat} {F : Nat → Int} (hY : w[Y]? = some (oM Y th st nu (nI n) dd ld be ib ta fa re ig)) (a7 : w[Y + 7]? = some (aL 60 h)) (a12 : w[Y + 12]? = some (aL 91 l0)) (hn : n ≤ 12) (hF : ∀ j, j ≤ n → (h j).toInt = F j) : EX12_layLevels [.ref Y] w (fun r w' => r = none ∧ ∃ (T b : Nat) (l : Nat → Int64), topL F n 6 T ∧ lvM l F n T ∧ w' = ((w.set (Y + 12) (aL 91 l)).set Y (oM Y th st nu (nI n) dd (nI n) (nI T) (nI b) ta fa re ig))) := by
  refine EP.of (plainFor_of_name (by decide)) [(0, .ref Y)] rfl (Nat.le_of_ble_eq_true rfl) (fun r wf h => by obtain ⟨rfl, -⟩ := h; trivial) ?_
  show BX12_layLevels w _ w 0 [(0, .ref Y)] []
  refine g_aload_n (pc := 0) 0 dX12_layLevels_0 rfl rfl ?_
  refine g_aload_n (pc := 1) 0 dX12_layLevels_1 rfl rfl ?_
  refine g_get (pc := 2) dX12_layLevels_2 fk_X12_113 hY rfl ?_
  refine g_put (pc := 5) (.int th :: .int st :: .ref (Y + 1) :: .ref (Y + 2) :: .ref (Y + 3) :: .ref (Y + 4) :: .int nu :: .ref (Y + 5) :: .ref (Y + 6) :: .ref (Y + 7) :: .int (nI n) :: .ref (Y + 8) :: .int dd :: .ref (Y + 9) :: .ref (Y + 10) :: .ref (Y + 11) :: .ref (Y + 12) :: .int (nI n) :: .int be :: .int ib :: .ref (Y + 13) :: .ref (Y + 14) :: .ref (Y + 15) :: .ref (Y + 16) :: .ref (Y + 17) :: .int ta :: .int fa :: .int re :: .int ig :: .ref (Y + 18) :: .ref (Y + 19) :: .ref (Y + 20) :: .ref (Y + 21) :: []) dX12_layLevels_5 fk_X12_183 hY (Nat.le_of_ble_eq_true rfl) rfl rfl ?_
  refine g_iconst (pc := 8) (v := nI 0) dX12_layLevels_8 (by decide) ?_
  refine g_istore_n (pc := 9) [(1, .int (nI 0)), (0, .ref Y)] dX12_layLevels_9 rfl (by decide) rfl ?_
  obtain ⟨w1, ew1⟩ : ∃ wy : Wd, wy = w.set Y (oM Y th st nu (nI n) dd (nI n) be ib ta fa re ig) := ⟨_, rfl⟩
  have hY1 : w1[Y]? = some (oM Y th st nu (nI n) dd (nI n) be ib ta fa re ig) := by rw [ew1]; exact lk_eq hY
  have a71 : w1[Y + 7]? = some (aL 60 h) := by rw [ew1]; exact lk_ne (by omega) a7
  have a121 : w1[Y + 12]? = some (aL 91 l0) := by rw [ew1]; exact lk_ne (by omega) a12
  refine GP.weq (w1.set (Y + 12) (aL 91 (laF l0 h n 0))) (by rw [laF_0, set_same a121, ew1]) ?_
  refine GP.lsub _ (by simp) (ll_1 hY1 a71 a121 hn ?_ 13 0 rfl)
  refine g_aload_n (pc := 46) 0 dX12_layLevels_46 rfl rfl ?_
  refine g_iconst (pc := 47) (v := nI 0) dX12_layLevels_47 (by decide) ?_
  refine g_put (pc := 48) (.int th :: .int st :: .ref (Y + 1) :: .ref (Y + 2) :: .ref (Y + 3) :: .ref (Y + 4) :: .int nu :: .ref (Y + 5) :: .ref (Y + 6) :: .ref (Y + 7) :: .int (nI n) :: .ref (Y + 8) :: .int dd :: .ref (Y + 9) :: .ref (Y + 10) :: .ref (Y + 11) :: .ref (Y + 12) :: .int (nI n) :: .int (nI 0) :: .int ib :: .ref (Y + 13) :: .ref (Y + 14) :: .ref (Y + 15) :: .ref (Y + 16) :: .ref (Y + 17) :: .int ta :: .int fa :: .int re :: .int ig :: .ref (Y + 18) :: .ref (Y + 19) :: .ref (Y + 20) :: .ref (Y + 21) :: []) dX12_layLevels_48 fk_X12_196 (lk_ne (show (Y + 12) ≠ Y by omega) hY1) (Nat.le_of_ble_eq_true rfl) rfl rfl ?_
  refine g_aload_n (pc := 51) 0 dX12_layLevels_51 rfl rfl ?_
  refine g_iconst (pc := 52) (v := nI 0) dX12_layLevels_52 (by decide) ?_
  refine g_put (pc := 53) (.int th :: .int st :: .ref (Y + 1) :: .ref (Y + 2) :: .ref (Y + 3) :: .ref (Y + 4) :: .int nu :: .ref (Y + 5) :: .ref (Y + 6) :: .ref (Y + 7) :: .int (nI n) :: .ref (Y + 8) :: .int dd :: .ref (Y + 9) :: .ref (Y + 10) :: .ref (Y + 11) :: .ref (Y + 12) :: .int (nI n) :: .int (nI 0) :: .int (nI 0) :: .ref (Y + 13) :: .ref (Y + 14) :: .ref (Y + 15) :: .ref (Y + 16) :: .ref (Y + 17) :: .int ta :: .int fa :: .int re :: .int ig :: .ref (Y + 18) :: .ref (Y + 19) :: .ref (Y + 20) :: .ref (Y + 21) :: []) dX12_layLevels_53 fk_X12_179 (lk_eq (lk_ne (show (Y + 12) ≠ Y by omega) hY1)) (Nat.le_of_ble_eq_true rfl) rfl rfl ?_
  refine GP.weq ((w1.set (Y + 12) (aL 91 (laF l0 h n 13))).set Y (.inr (11, .int th :: .int st :: .ref (Y + 1) :: .ref (Y + 2) :: .ref (Y + 3) :: .ref (Y + 4) :: .int nu :: .ref (Y + 5) :: .ref (Y + 6) :: .ref (Y + 7) :: .int (nI n) :: .ref (Y + 8) :: .int dd :: .ref (Y + 9) :: .ref (Y + 10) :: .ref (Y + 11) :: .ref (Y + 12) :: .int (nI n) :: .int (nI 0) :: .int (nI 0) :: .ref (Y + 13) :: .ref (Y + 14) :: .ref (Y + 15) :: .ref (Y + 16) :: .ref (Y + 17) :: .int ta :: .int fa :: .int re :: .int ig :: .ref (Y + 18) :: .ref (Y + 19) :: .ref (Y + 20) :: .ref (Y + 21) :: []))) (by rw [List.set_set]) ?_
  refine g_iconst (pc := 56) (v := nI 0) dX12_layLevels_56 (by decide) ?_
  refine g_istore_n (pc := 57) [(1, .int (nI 0)), (0, .ref Y)] dX12_layLevels_57 rfl (by decide) rfl ?_
  have hI : llI F n 0 0 0 (laF l0 h n 13) := ⟨fun t ht j hj => ?_, fun t ht => absurd ht (Nat.not_lt_zero _), Or.inl ⟨rfl, rfl⟩⟩
  rotate_left
  · rw [show t = 0 by omega, show 13 * 0 + j = j by omega]
    unfold laF
    rw [if_pos hj]
    by_cases e : j ≤ n
    · rw [if_pos e, if_pos e]
      exact hF j e
    · rw [if_neg e, if_neg e]
      rfl
  refine GP.weq ((w.set (Y + 12) (aL 91 (laF l0 h n 13))).set Y (oM Y th st nu (nI n) dd (nI n) (nI 0) (nI 0) ta fa re ig)) (by rw [ew1, List.set_comm _ _ (show Y ≠ Y + 12 by omega), List.set_set]) ?_
  exact GP.lsub _ (by simp) (ll_2 (w := w) hY a12 hn 6 0 0 0 _ rfl hI)
