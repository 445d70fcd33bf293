/-! Gauge: setLimit -/
theorem shl1k {k : Nat} (hk : k ≤ 6) : (nI 1) <<< ((nI k) &&& 31) = nI (2 ^ k) := by
  rcases (show k = 0 ∨ k = 1 ∨ k = 2 ∨ k = 3 ∨ k = 4 ∨ k = 5 ∨ k = 6 by omega) with h | h | h | h | h | h | h <;> subst h <;> decide
def limS (G q i : Nat) : Prop := (G + 20 ≤ i ∧ i ≤ G + 23) ∨ i = q ∨ i = q + 1
theorem lim_lt {v k : Nat} (hv : v ≤ 9999) (hk : k ≤ 6) : v ^ (2 ^ (k + 1)) / 1000000 ^ (2 ^ k) < 268435456 ^ 24 := by
  have h0 : v ^ (2 ^ (k + 1)) ≤ 10000 ^ (2 ^ (k + 1)) := Nat.pow_le_pow_left (by omega) _
  have h1 : 10000 ^ (2 ^ (k + 1)) = 100 ^ (2 ^ k) * 1000000 ^ (2 ^ k) := by
    rw [pow2s, ← Nat.mul_pow]
  have h2 : v ^ (2 ^ (k + 1)) / 1000000 ^ (2 ^ k) ≤ 100 ^ (2 ^ k) := by
    apply Nat.div_le_of_le_mul
    rw [Nat.mul_comm, ← h1]
    exact h0
  have h3 : 2 ^ k ≤ 2 ^ 6 := Nat.pow_le_pow_right (by decide) hk
  have h4 : 100 ^ (2 ^ k) ≤ 100 ^ 64 := Nat.pow_le_pow_right (by decide) h3
  have h5 : 100 ^ 64 < 268435456 ^ 24 := by decide +kernel
  omega
abbrev BX2_setLimit (w0 : Wd) (Post : Option Value → Wd → Prop) (w : Wd) (pc : Nat) (ls : List (Nat × Value)) (st : List Value) : Prop := GP "setLimit" RX2 cX2_setLimit 6 none 4 156 none w0 Post w pc ls st
abbrev EX2_setLimit (As : List Value) (w : Wd) (Post : Option Value → Wd → Prop) : Prop := EP yX2_setLimit cX2_setLimit 6 none 4 As w Post
theorem sl_loop {w0 w : Wd} {G q v k : Nat} {bb bl : Int32} (hG : gauC w G bb bl) (hq : whC w q 24) (hd : q + 1 < G ∨ G + 39 < q) (hv : v ≤ 9999) (hk : k ≤ 6) {p : Nat} (hp : p = G + 20 ∨ p = G + 22) : ∀ (z i : Nat) (w1 : Wd), 2 ^ k = i + z → whV w1 p 128 ((v ^ (2 ^ (k + 1)) / 1000000 ^ i : Nat) : Int) → whC w1 (G + 20) 128 → whC w1 (G + 22) 128 → FR (powS G) w w1 → BX2_setLimit w0 (fun r w' => r = none ∧ whV w' q 24 ((v ^ (2 ^ (k + 1)) / 1000000 ^ (2 ^ k) : Nat) : Int) ∧ gauC w' G bb bl ∧ FR (limS G q) w w') w1 13 [(5, .int (nI i)), (4, .ref p), (0, .ref G), (1, .int (nI v)), (2, .int (nI k)), (3, .ref q)] [] := by
  intro z
  induction z with
  | zero =>
    intro i w1 hz hV h20 h22 hF
    obtain ⟨np, dp, hp1, -⟩ := id hV
    have hq1 := hq.fr hF (by unfold powS; omega) (by unfold powS; omega)
    obtain ⟨nq, dq, hq2, -⟩ := id hq1
    have h2k : 2 ^ k ≤ 2 ^ 6 := Nat.pow_le_pow_right (by decide) hk
    refine g_iload (pc := 13) 0 dX2_setLimit_13 rfl ?_
    refine g_iconst (pc := 15) (v := nI 1) dX2_setLimit_15 (by decide) ?_
    refine g_iload_n (pc := 16) 4 dX2_setLimit_16 rfl rfl ?_
    refine g_ishl (pc := 17) dX2_setLimit_17 ?_
    refine GP.ti (nI (2 ^ k)) (shl1k hk) ?_
    refine n_icmp_ge (pc := 18) 34 dX2_setLimit_18 (by decide) (by omega) (by omega) (fun hb => ?_) (fun hb => ?_)
    · have ei : i = 2 ^ k := by omega
      rw [ei] at hV
      refine g_aload_n (pc := 34) 5 dX2_setLimit_34 rfl rfl ?_
      refine g_aload (pc := 35) 1 dX2_setLimit_35 rfl ?_
      refine g_callV (pc := 37) [.ref p] dX2_setLimit_37 cv_X2_115.1 cv_X2_115.2.1 cv_X2_115.2.2.1 cv_X2_115.2.2.2 hq2 rfl rfl (Nat.le_of_ble_eq_true rfl) (by decide) (by decide) (wh_to _ (k := 24) hq1 hV (by omega) (by decide) (by decide) (nlt_ipow (lim_lt hv hk)) (by decide)) ?_
      rintro _ w2 ⟨rfl, hV2, hF2⟩
      have hG1 := hG.keep hF (fun i hi => by unfold powS at hi; omega) (hG.2.2.2.1.fr hF (by unfold powS; omega) (by unfold powS; omega)) (hG.2.2.2.2.1.fr hF (by unfold powS; omega) (by unfold powS; omega)) h20 h22
      have hF3 : FR (limS G q) w w2 := (hF.mono (fun i hi => Or.inl hi)).tr (hF2.mono (fun i hi => Or.inr hi))
      obtain ⟨g1, g2, g3, g4, g5, g6, g7⟩ := hG1
      have hS2 : ∀ i, wS q i → ¬ (G + 1 ≤ i ∧ i ≤ G + 15) ∧ ¬ (G + 24 ≤ i ∧ i ≤ G + 39) := fun i hi => by unfold wS at hi; omega
      have U : ∀ i, G ≤ i → i ≤ G + 39 → ¬ wS q i := fun i h1 h2 hi => by unfold wS at hi; omega
      exact g_vret (pc := 40) dX2_setLimit_40 ⟨rfl, hV2, ⟨hF2.lk (U _ (by omega) (by omega)) g1, g2.fr hF2 hS2, g3.fr hF2 hS2, g4.fr hF2 (U _ (by omega) (by omega)) (U _ (by omega) (by omega)), g5.fr hF2 (U _ (by omega) (by omega)) (U _ (by omega) (by omega)), g6.fr hF2 (U _ (by omega) (by omega)) (U _ (by omega) (by omega)), g7.fr hF2 (U _ (by omega) (by omega)) (U _ (by omega) (by omega))⟩, hF3⟩
    · exact absurd hb (by omega)
  | succ z ih =>
    intro i w1 hz hV h20 h22 hF
    obtain ⟨np, dp, hp1, -⟩ := id hV
    have hq1 := hq.fr hF (by unfold powS; omega) (by unfold powS; omega)
    obtain ⟨nq, dq, hq2, -⟩ := id hq1
    have h2k : 2 ^ k ≤ 2 ^ 6 := Nat.pow_le_pow_right (by decide) hk
    refine g_iload (pc := 13) 0 dX2_setLimit_13 rfl ?_
    refine g_iconst (pc := 15) (v := nI 1) dX2_setLimit_15 (by decide) ?_
    refine g_iload_n (pc := 16) 4 dX2_setLimit_16 rfl rfl ?_
    refine g_ishl (pc := 17) dX2_setLimit_17 ?_
    refine GP.ti (nI (2 ^ k)) (shl1k hk) ?_
    refine n_icmp_ge (pc := 18) 34 dX2_setLimit_18 (by decide) (by omega) (by omega) (fun hb => ?_) (fun hb => ?_)
    · exact absurd hb (by omega)
    · refine g_aload (pc := 21) 1 dX2_setLimit_21 rfl ?_
      refine g_ldc (pc := 23) kc_X2_114 dX2_setLimit_23 ?_
      refine GP.ti (nI 1000000) (by decide) ?_
      refine g_callV (pc := 25) [.int (nI 1000000)] dX2_setLimit_25 cv_X2_82.1 cv_X2_82.2.1 cv_X2_82.2.2.1 cv_X2_82.2.2.2 hp1 rfl rfl (Nat.le_of_ble_eq_true rfl) (by decide) (by decide) (wh_divide _ hV (by decide) (by decide) (by decide)) ?_
      rintro _ w2 ⟨rfl, hV2, hF2⟩
      refine n_iinc (pc := 28) (c := 1) [(5, .int (nI (i + 1))), (4, .ref p), (0, .ref G), (1, .int (nI v)), (2, .int (nI k)), (3, .ref q)] 0 dX2_setLimit_28 rfl (by decide) (by decide) rfl ?_
      refine g_goto (pc := 31) 13 dX2_setLimit_31 (by decide) ?_
      have hV3 : whV w2 p 128 ((v ^ (2 ^ (k + 1)) / 1000000 ^ (i + 1) : Nat) : Int) := by
        rw [Nat.pow_succ (n := 1000000), ← Nat.div_div_eq_div_mul, Int.natCast_ediv]
        exact hV2
      have h20' : whC w2 (G + 20) 128 := by
        rcases hp with e | e
        · rw [← e]; exact hV2.c
        · exact h20.fr hF2 (by unfold wS; omega) (by unfold wS; omega)
      have h22' : whC w2 (G + 22) 128 := by
        rcases hp with e | e
        · exact h22.fr hF2 (by unfold wS; omega) (by unfold wS; omega)
        · rw [← e]; exact hV2.c
      exact GP.lsub _ (by simp) (ih (i + 1) w2 (by omega) hV3 h20' h22' (hF.tr (hF2.mono (fun j hj => by unfold wS at hj; unfold powS; omega))))
theorem sp_setLimit (w : Wd) {G q v k : Nat} {bb bl : Int32} (hG : gauC w G bb bl) (hq : whC w q 24) (hd : q + 1 < G ∨ G + 39 < q) (hv : v ≤ 9999) (hk : k ≤ 6) : EX2_setLimit [.ref G, .int (nI v), .int (nI k), .ref q] w (fun r w' => r = none ∧ whV w' q 24 ((v ^ (2 ^ (k + 1)) / 1000000 ^ (2 ^ k) : Nat) : Int) ∧ gauC w' G bb bl ∧ FR (limS G q) w w') := by
  refine EP.of (plainFor_of_name (by decide)) [(0, .ref G), (1, .int (nI v)), (2, .int (nI k)), (3, .ref q)] rfl (Nat.le_of_ble_eq_true rfl) (fun r wf h => by obtain ⟨rfl, -⟩ := h; trivial) ?_
  show BX2_setLimit w _ w 0 [(0, .ref G), (1, .int (nI v)), (2, .int (nI k)), (3, .ref q)] []
  have hg := hG.1
  refine g_aload_n (pc := 0) 0 dX2_setLimit_0 rfl rfl ?_
  refine g_iload_n (pc := 1) 1 dX2_setLimit_1 rfl rfl ?_
  refine g_iload_n (pc := 2) 2 dX2_setLimit_2 rfl rfl ?_
  refine g_iconst (pc := 3) (v := nI 1) dX2_setLimit_3 (by decide) ?_
  refine n_iadd (pc := 4) dX2_setLimit_4 ?_
  refine g_callV (pc := 5) [.int (nI v), .int (nI (k + 1))] dX2_setLimit_5 cv_X2_110.1 cv_X2_110.2.1 cv_X2_110.2.2.1 cv_X2_110.2.2.2 hg rfl rfl (Nat.le_of_ble_eq_true rfl) (by decide) (by decide) (sp_powerOf _ (x := v) (s := k + 1) hG (by omega) (by omega)) ?_
  rintro _ w2 ⟨p, rfl, hp, hV2, h20, h22, hF2⟩
  refine g_astore (pc := 8) [(4, .ref p), (0, .ref G), (1, .int (nI v)), (2, .int (nI k)), (3, .ref q)] dX2_setLimit_8 (by decide) rfl ?_
  refine g_iconst (pc := 10) (v := nI 0) dX2_setLimit_10 (by decide) ?_
  refine g_istore (pc := 11) [(5, .int (nI 0)), (4, .ref p), (0, .ref G), (1, .int (nI v)), (2, .int (nI k)), (3, .ref q)] dX2_setLimit_11 (by decide) rfl ?_
  exact GP.lsub _ (by simp) (sl_loop hG hq hd hv hk hp (2 ^ k) 0 w2 (by omega) (by rw [Nat.pow_zero, Nat.div_one]; exact hV2) h20 h22 hF2)
