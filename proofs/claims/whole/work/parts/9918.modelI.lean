/-! the reference: laySquares, isHigh, lowOf, highOf -/
def sqN (A : Nat → Nat) : Nat → Nat
  | 0 => 0
  | n + 1 => sqN A n + A n * A n
theorem lvA_b {l : Nat → Int64} {k j : Nat} : lvA l k j ≤ 9223372036854775808 := by
  have h1 := L_lo (l (13 * k + j))
  have h2 := L_hi (l (13 * k + j))
  show (l (13 * k + j)).toInt.natAbs ≤ _
  omega
theorem sqN_b {A : Nat → Nat} (h : ∀ j, A j ≤ 9223372036854775808) : ∀ n : Nat, sqN A n ≤ n * 85070591730234615865843651857942052864
  | 0 => Nat.zero_le _
  | n + 1 => by
    have h1 := sqN_b h n
    have h2 : A n * A n ≤ 9223372036854775808 * 9223372036854775808 := Nat.mul_le_mul (h n) (h n)
    show sqN A n + A n * A n ≤ _
    omega
def hiW (w : Wd) (Y S : Nat) : Prop := ∃ dg m n, nuC w Y dg m ∧ nuV dg m 3 n S ∧ mdT w Y
abbrev BX12_laySquares (w0 : Wd) (Post : Option Value → Wd → Prop) (w : Wd) (pc : Nat) (ls : List (Nat × Value)) (st : List Value) : Prop := GP "laySquares" RX12 cX12_laySquares 3 none 3 117 none w0 Post w pc ls st
abbrev EX12_laySquares (As : List Value) (w : Wd) (Post : Option Value → Wd → Prop) : Prop := EP yX12_laySquares cX12_laySquares 3 none 3 As w Post
theorem lsq_loop {w0 w : Wd} {Y : Nat} {th st nu dg dd be ib ta fa re ig : Int32} {l : Nat → Int64} {n k : Nat} (hY : w[Y]? = some (oM Y th st nu dg dd (nI n) be ib ta fa re ig)) (a12 : w[Y + 12]? = some (aL 91 l)) (hn : n ≤ 12) (hk : k ≤ 6) : ∀ (z i : Nat) (w1 : Wd) (dg1 : Nat → Int64) (m1 : Nat → Int32) (n1 : Nat), n + 1 = i + z → nuC w1 Y dg1 m1 → mdT w1 Y → nuV dg1 m1 2 n1 (sqN (lvA l k) i) → FR (nuS2 Y) w w1 → BX12_laySquares w0 (fun r w' => r = none ∧ hiW w' Y (1000 ^ (2 ^ (k + 1)) * sqN (lvA l k) (n + 1)) ∧ FR (nuS2 Y) w w') w1 9 [(2, .int (nI i)), (1, .int (nI k)), (0, .ref Y)] [] := by
  intro z
  induction z with
  | zero =>
    intro i w1 dg1 m1 n1 hz hN1 hT1 hV1 hR0
    have hlen : n1 ≤ 6 := hV1.len (Nat.lt_of_le_of_lt (sqN_b (fun j => lvA_b) i) (by omega))
    refine g_iload_n (pc := 9) 0 dX12_laySquares_9 rfl rfl ?_
    refine g_aload_n (pc := 10) 2 dX12_laySquares_10 rfl rfl ?_
    refine g_get (pc := 11) dX12_laySquares_11 fk_X12_183 (hR0.lk (by unfold nuS2; omega) hY) rfl ?_
    refine n_icmp_gt (pc := 14) 66 dX12_laySquares_14 (by decide) (by omega) (by omega) (fun hb9 => ?_) (fun hb9 => ?_)
    · have e9 : i = n + 1 := by omega
      rw [e9] at hV1
      refine g_aload_n (pc := 66) 2 dX12_laySquares_66 rfl rfl ?_
      refine g_iload_n (pc := 67) 1 dX12_laySquares_67 rfl rfl ?_
      refine g_iconst (pc := 68) (v := nI 1) dX12_laySquares_68 (by decide) ?_
      refine n_iadd (pc := 69) dX12_laySquares_69 ?_
      refine g_iconst (pc := 70) (v := nI 0) dX12_laySquares_70 (by decide) ?_
      refine g_callV (pc := 71) [.int (nI (k + 1)), .int (nI 0)] dX12_laySquares_71 cv_X12_225.1 cv_X12_225.2.1 cv_X12_225.2.2.1 cv_X12_225.2.2.2 (hR0.lk (by unfold nuS2; omega) hY) rfl rfl (Nat.le_of_ble_eq_true rfl) (by decide) (by decide) (mp_takeThousand _ (hR0.lk (by unfold nuS2; omega) hY) hN1 (s := 0) (by omega) (by omega) hT1) ?_
      rintro _ w2 ⟨rfl, dg2, m2, hN2, ⟨n2, hl2, hV2⟩, hT2, hG2, hR2⟩
      refine g_aload_n (pc := 74) 2 dX12_laySquares_74 rfl rfl ?_
      refine g_iconst (pc := 75) (v := nI 0) dX12_laySquares_75 (by decide) ?_
      refine g_sipush (pc := 76) (v := nI 180) dX12_laySquares_76 (by decide) ?_
      refine g_sipush (pc := 79) (v := nI 270) dX12_laySquares_79 (by decide) ?_
      refine g_callV (pc := 82) [.int (nI 0), .int (nI 180), .int (nI 270)] dX12_laySquares_82 cv_X12_204.1 cv_X12_204.2.1 cv_X12_204.2.2.1 cv_X12_204.2.2.2 (hR2.lk (by unfold nuS2; omega) (hR0.lk (by unfold nuS2; omega) hY)) rfl rfl (Nat.le_of_ble_eq_true rfl) (by decide) (by decide) (mp_product _ (hR2.lk (by unfold nuS2; omega) (hR0.lk (by unfold nuS2; omega) hY)) hN2 (a := 0) (b := 2) (t := 3) (by omega) (by omega) (by omega) (by omega) (by omega) hV2 (hV1.kg hG2 (by omega)) (by omega)) ?_
      rintro _ w3 ⟨rfl, dg3, m3, hN3, ⟨n3, hl3, hV3⟩, hF3, hM3, hR3⟩
      exact g_vret (pc := 85) dX12_laySquares_85 ⟨rfl, ⟨dg3, m3, n3, hN3, hV3, mdT_fr hT2 hR3⟩, hR0.tr (hR2.tr (hR3.mono (fun _ g => nuS_2 g)))⟩
    · exact absurd (show n < i by omega) hb9
  | succ z ih =>
    intro i w1 dg1 m1 n1 hz hN1 hT1 hV1 hR0
    have hlen : n1 ≤ 6 := hV1.len (Nat.lt_of_le_of_lt (sqN_b (fun j => lvA_b) i) (by omega))
    refine g_iload_n (pc := 9) 0 dX12_laySquares_9 rfl rfl ?_
    refine g_aload_n (pc := 10) 2 dX12_laySquares_10 rfl rfl ?_
    refine g_get (pc := 11) dX12_laySquares_11 fk_X12_183 (hR0.lk (by unfold nuS2; omega) hY) rfl ?_
    refine n_icmp_gt (pc := 14) 66 dX12_laySquares_14 (by decide) (by omega) (by omega) (fun hb9 => ?_) (fun hb9 => ?_)
    · exact absurd hb9 (by omega)
    · refine g_aload_n (pc := 17) 2 dX12_laySquares_17 rfl rfl ?_
      refine g_iconst (pc := 18) (v := nI 0) dX12_laySquares_18 (by decide) ?_
      refine g_aload_n (pc := 19) 2 dX12_laySquares_19 rfl rfl ?_
      refine g_get (pc := 20) dX12_laySquares_20 fk_X12_45 (hR0.lk (by unfold nuS2; omega) hY) rfl ?_
      refine g_bipush (pc := 23) (v := nI 13) dX12_laySquares_23 (by decide) ?_
      refine g_iload_n (pc := 25) 1 dX12_laySquares_25 rfl rfl ?_
      refine n_imul (pc := 26) dX12_laySquares_26 ?_
      refine g_iload_n (pc := 27) 0 dX12_laySquares_27 rfl rfl ?_
      refine n_iadd (pc := 28) dX12_laySquares_28 ?_
      refine g_lald (pc := 29) ((13 * k) + i) dX12_laySquares_29 (hR0.lk (by unfold nuS2; omega) a12) (IXn (by omega) (by omega)) ?_
      refine g_callV (pc := 30) [.int (nI 0), .long (l ((13 * k) + i))] dX12_laySquares_30 cv_X12_228.1 cv_X12_228.2.1 cv_X12_228.2.2.1 cv_X12_228.2.2.2 (hR0.lk (by unfold nuS2; omega) hY) rfl rfl (Nat.le_of_ble_eq_true rfl) (by decide) (by decide) (mp_layLong _ (hR0.lk (by unfold nuS2; omega) hY) hN1 (s := 0) (by omega)) ?_
      rintro _ w2 ⟨rfl, dg2, m2, hN2, ⟨n2, hl2, hV2⟩, hF2, hM2, hR2⟩
      refine g_aload_n (pc := 33) 2 dX12_laySquares_33 rfl rfl ?_
      refine g_iconst (pc := 34) (v := nI 0) dX12_laySquares_34 (by decide) ?_
      refine g_bipush (pc := 35) (v := nI 90) dX12_laySquares_35 (by decide) ?_
      refine g_callV (pc := 37) [.int (nI 0), .int (nI 90)] dX12_laySquares_37 cv_X12_208.1 cv_X12_208.2.1 cv_X12_208.2.2.1 cv_X12_208.2.2.2 (hR2.lk (by unfold nuS; omega) (hR0.lk (by unfold nuS2; omega) hY)) rfl rfl (Nat.le_of_ble_eq_true rfl) (by decide) (by decide) (mp_copyNumber _ (hR2.lk (by unfold nuS; omega) (hR0.lk (by unfold nuS2; omega) hY)) hN2 (a := 0) (b := 1) (by omega) (by omega) (by omega) hV2) ?_
      rintro _ w3 ⟨rfl, dg3, m3, hN3, hV3, hF3, hM3, hR3⟩
      refine g_aload_n (pc := 40) 2 dX12_laySquares_40 rfl rfl ?_
      refine g_iconst (pc := 41) (v := nI 0) dX12_laySquares_41 (by decide) ?_
      refine g_bipush (pc := 42) (v := nI 90) dX12_laySquares_42 (by decide) ?_
      refine g_sipush (pc := 44) (v := nI 360) dX12_laySquares_44 (by decide) ?_
      refine g_callV (pc := 47) [.int (nI 0), .int (nI 90), .int (nI 360)] dX12_laySquares_47 cv_X12_204.1 cv_X12_204.2.1 cv_X12_204.2.2.1 cv_X12_204.2.2.2 (hR3.lk (by unfold nuS; omega) (hR2.lk (by unfold nuS; omega) (hR0.lk (by unfold nuS2; omega) hY))) rfl rfl (Nat.le_of_ble_eq_true rfl) (by decide) (by decide) (mp_product _ (hR3.lk (by unfold nuS; omega) (hR2.lk (by unfold nuS; omega) (hR0.lk (by unfold nuS2; omega) hY))) hN3 (a := 0) (b := 1) (t := 4) (by omega) (by omega) (by omega) (by omega) (by omega) (hV2.kp hF3 hM3 (by omega)) hV3 (by omega)) ?_
      rintro _ w4 ⟨rfl, dg4, m4, hN4, ⟨n4, hl4, hV4⟩, hF4, hM4, hR4⟩
      refine g_aload_n (pc := 50) 2 dX12_laySquares_50 rfl rfl ?_
      refine g_sipush (pc := 51) (v := nI 360) dX12_laySquares_51 (by decide) ?_
      refine g_sipush (pc := 54) (v := nI 180) dX12_laySquares_54 (by decide) ?_
      refine g_callV (pc := 57) [.int (nI 360), .int (nI 180)] dX12_laySquares_57 cv_X12_236.1 cv_X12_236.2.1 cv_X12_236.2.2.1 cv_X12_236.2.2.2 (hR4.lk (by unfold nuS; omega) (hR3.lk (by unfold nuS; omega) (hR2.lk (by unfold nuS; omega) (hR0.lk (by unfold nuS2; omega) hY)))) rfl rfl (Nat.le_of_ble_eq_true rfl) (by decide) (by decide) (mp_add _ (hR4.lk (by unfold nuS; omega) (hR3.lk (by unfold nuS; omega) (hR2.lk (by unfold nuS; omega) (hR0.lk (by unfold nuS2; omega) hY)))) hN4 (a := 4) (t := 2) (by omega) (by omega) (by omega) hV4 (((hV1.kp hF2 hM2 (by omega)).kp hF3 hM3 (by omega)).kp hF4 hM4 (by omega)) (by omega) (by omega)) ?_
      rintro _ w5 ⟨rfl, dg5, m5, hN5, ⟨n5, hl5, hV5⟩, hF5, hM5, hR5⟩
      refine n_iinc (pc := 60) (c := 1) [(2, .int (nI (i + 1))), (1, .int (nI k)), (0, .ref Y)] 0 dX12_laySquares_60 rfl (by decide) (by decide) rfl ?_
      refine g_goto (pc := 63) 9 dX12_laySquares_63 (by decide) ?_
      exact GP.lsub _ (by simp) (ih (i + 1) w5 dg5 m5 n5 (by omega) hN5 (mdT_fr (mdT_fr (mdT_fr (mdT_fr hT1 hR2) hR3) hR4) hR5) hV5 (hR0.tr ((hR2.tr (hR3.tr (hR4.tr hR5))).mono (fun _ g => nuS_2 g))))
theorem mp_laySquares (w : Wd) {Y : Nat} {th st nu dg dd be ib ta fa re ig : Int32} {l : Nat → Int64} {n k : Nat} (hY : w[Y]? = some (oM Y th st nu dg dd (nI n) be ib ta fa re ig)) (a12 : w[Y + 12]? = some (aL 91 l)) (hn : n ≤ 12) (hk : k ≤ 6) (hO : nuO w Y) : EX12_laySquares [.ref Y, .int (nI k)] w (fun r w' => r = none ∧ hiW w' Y (1000 ^ (2 ^ (k + 1)) * sqN (lvA l k) (n + 1)) ∧ FR (nuS2 Y) w w') := by
  refine EP.of (plainFor_of_name (by decide)) [(0, .ref Y), (1, .int (nI k))] rfl (Nat.le_of_ble_eq_true rfl) (fun r wf h => by obtain ⟨rfl, -⟩ := h; trivial) ?_
  show BX12_laySquares w _ w 0 [(0, .ref Y), (1, .int (nI k))] []
  obtain ⟨⟨dg1, m1, hN1⟩, hT1⟩ := hO
  refine g_aload_n (pc := 0) 0 dX12_laySquares_0 rfl rfl ?_
  refine g_get (pc := 1) dX12_laySquares_1 fk_X12_51 hY rfl ?_
  refine g_iconst (pc := 4) (v := nI 2) dX12_laySquares_4 (by decide) ?_
  refine g_iconst (pc := 5) (v := nI 0) dX12_laySquares_5 (by decide) ?_
  refine g_iast (pc := 6) 2 dX12_laySquares_6 hN1.2 (IXn (by omega) (by omega)) ?_
  refine g_iconst (pc := 7) (v := nI 0) dX12_laySquares_7 (by decide) ?_
  refine g_istore_n (pc := 8) [(2, .int (nI 0)), (0, .ref Y), (1, .int (nI k))] dX12_laySquares_8 rfl (by decide) rfl ?_
  exact GP.lsub _ (by simp) (lsq_loop hY a12 hn hk (n + 1) 0 _ dg1 (upd m1 2 (nI 0)) 0 (by omega) ⟨(lk_ne (show (Y + 14) ≠ (Y + 13) by omega) hN1.1), (lk_eq hN1.2)⟩ (mdT_fr hT1 (FR.st (c' := aI 0 5 (upd m1 2 (nI 0))) FR.rf hN1.2 rfl (by unfold nuS; omega))) ⟨upd_s, by omega, ⟨fun i hi => absurd hi (by omega), Or.inl rfl⟩, rfl⟩ ((FR.st (c' := aI 0 5 (upd m1 2 (nI 0))) FR.rf hN1.2 rfl (by unfold nuS; omega)).mono (fun _ g => nuS_2 g)))
abbrev BX12_isHigh (w0 : Wd) (Post : Option Value → Wd → Prop) (w : Wd) (pc : Nat) (ls : List (Nat × Value)) (st : List Value) : Prop := GP "isHigh" RX12 cX12_isHigh 3 (some .boolean) 2 78 none w0 Post w pc ls st
abbrev EX12_isHigh (As : List Value) (w : Wd) (Post : Option Value → Wd → Prop) : Prop := EP yX12_isHigh cX12_isHigh 3 (some .boolean) 2 As w Post
theorem mp_isHigh (w : Wd) {Y : Nat} {th st nu dg dd ld be ib ta fa re ig : Int32} {k t S : Nat} (hY : w[Y]? = some (oM Y th st nu dg dd ld be ib ta fa re ig)) (hk : k ≤ 6) (ht9 : t < 268435456) (ht : t ^ (2 ^ k) < 268435456 ^ 45) (hW : hiW w Y S) : EX12_isHigh [.ref Y, .int (nI k), .int (nI t)] w (fun r w' => ((r = some (.int (nI 1)) ∧ S ≤ t ^ (2 ^ (k + 1))) ∨ (r = some (.int (nI 0)) ∧ ¬ (S ≤ t ^ (2 ^ (k + 1))))) ∧ hiW w' Y S ∧ FR (nuS2 Y) w w') := by
  refine EP.of (plainFor_of_name (by decide)) [(0, .ref Y), (1, .int (nI k)), (2, .int (nI t))] rfl (Nat.le_of_ble_eq_true rfl) (fun r wf h => by rcases h.1 with ⟨rfl, -⟩ | ⟨rfl, -⟩; exact Or.inr rfl; exact Or.inl rfl) ?_
  show BX12_isHigh w _ w 0 [(0, .ref Y), (1, .int (nI k)), (2, .int (nI t))] []
  obtain ⟨dg1, m1, n1, hN1, hV1, hT1⟩ := hW
  have et : ((nI t).toInt64).toInt = (t : Int) := by rw [IL, nI_toInt (by omega)]
  have hpw : ∀ q, q < k + 1 → t ^ (2 ^ q) < 268435456 ^ 45 := fun q hq => by
    by_cases e0 : t = 0
    · rw [e0, Nat.zero_pow (Nat.pow_pos (by decide))]; decide
    · exact Nat.lt_of_le_of_lt (Nat.pow_le_pow_right (by omega) (Nat.pow_le_pow_right (by decide) (by omega))) ht
  refine g_aload_n (pc := 0) 0 dX12_isHigh_0 rfl rfl ?_
  refine g_iconst (pc := 1) (v := nI 0) dX12_isHigh_1 (by decide) ?_
  refine g_iload_n (pc := 2) 2 dX12_isHigh_2 rfl rfl ?_
  refine g_i2l (pc := 3) dX12_isHigh_3 ?_
  refine g_callV (pc := 4) [.int (nI 0), .long ((nI t).toInt64)] dX12_isHigh_4 cv_X12_214.1 cv_X12_214.2.1 cv_X12_214.2.2.1 cv_X12_214.2.2.2 hY rfl rfl (Nat.le_of_ble_eq_true rfl) (by decide) (by decide) (mp_tellNumber _ hY hN1 (s := 0) (by omega) et) ?_
  rintro _ w2 ⟨rfl, dg2, m2, hN2, ⟨n2, hl2, hV2⟩, hF2, hM2, hR2⟩
  refine g_aload_n (pc := 7) 0 dX12_isHigh_7 rfl rfl ?_
  refine g_iconst (pc := 8) (v := nI 0) dX12_isHigh_8 (by decide) ?_
  refine g_iload_n (pc := 9) 1 dX12_isHigh_9 rfl rfl ?_
  refine g_iconst (pc := 10) (v := nI 1) dX12_isHigh_10 (by decide) ?_
  refine n_iadd (pc := 11) dX12_isHigh_11 ?_
  refine g_callV (pc := 12) [.int (nI 0), .int (nI (k + 1))] dX12_isHigh_12 cv_X12_218.1 cv_X12_218.2.1 cv_X12_218.2.2.1 cv_X12_218.2.2.2 (hR2.lk (by unfold nuS; omega) hY) rfl rfl (Nat.le_of_ble_eq_true rfl) (by decide) (by decide) (mp_raise _ (hR2.lk (by unfold nuS; omega) hY) hN2 (s := 0) (k := k + 1) (by omega) hV2 (by omega) hpw) ?_
  rintro _ w3 ⟨rfl, dg3, m3, hN3, ⟨n3, hV3⟩, hG3, hR3⟩
  refine g_aload_n (pc := 15) 0 dX12_isHigh_15 rfl rfl ?_
  refine g_iconst (pc := 16) (v := nI 0) dX12_isHigh_16 (by decide) ?_
  refine g_sipush (pc := 17) (v := nI 270) dX12_isHigh_17 (by decide) ?_
  have hV4 := (hV1.kp hF2 hM2 (by omega)).kg hG3 (by omega)
  have hW3 : hiW w3 Y S := ⟨dg3, m3, n1, hN3, hV4, mdT_fr (mdT_fr hT1 hR2) hR3⟩
  have hR4 : FR (nuS2 Y) w w3 := (hR2.tr hR3).mono (fun _ g => nuS_2 g)
  refine g_callV (pc := 20) [.int (nI 0), .int (nI 270)] dX12_isHigh_20 cv_X12_231.1 cv_X12_231.2.1 cv_X12_231.2.2.1 cv_X12_231.2.2.2 (hR3.lk (by unfold nuS; omega) (hR2.lk (by unfold nuS; omega) hY)) rfl rfl (Nat.le_of_ble_eq_true rfl) (by decide) (by decide) (mp_compareNumbers _ (hR3.lk (by unfold nuS; omega) (hR2.lk (by unfold nuS; omega) hY)) hN3 (a := 0) (b := 3) (by omega) (by omega) hV3 hV4) ?_
  rintro _ w9 (⟨hc, rfl, e9⟩ | ⟨hc, rfl, e9⟩ | ⟨hc, rfl, e9⟩)
  · refine GP.weq _ e9 ?_
    refine g_if_lt (pc := 23) 30 dX12_isHigh_23 (by decide) (fun hd9 => ?_) (fun hd9 => ?_)
    · refine g_iconst (pc := 30) (v := nI 0) dX12_isHigh_30 (by decide) ?_
      exact g_iret (pc := 31) dX12_isHigh_31 ⟨Or.inr ⟨rfl, Nat.not_le.mpr hc⟩, hW3, hR4⟩
    · exact absurd (by decide) hd9
  · refine GP.weq _ e9 ?_
    refine n_if_lt (pc := 23) 30 dX12_isHigh_23 (by decide) (by omega) ?_
    refine g_iconst (pc := 26) (v := nI 1) dX12_isHigh_26 (by decide) ?_
    refine g_goto (pc := 27) 31 dX12_isHigh_27 (by decide) ?_
    exact g_iret (pc := 31) dX12_isHigh_31 ⟨Or.inl ⟨rfl, Nat.le_of_eq hc.symm⟩, hW3, hR4⟩
  · refine GP.weq _ e9 ?_
    refine n_if_lt (pc := 23) 30 dX12_isHigh_23 (by decide) (by omega) ?_
    refine g_iconst (pc := 26) (v := nI 1) dX12_isHigh_26 (by decide) ?_
    refine g_goto (pc := 27) 31 dX12_isHigh_27 (by decide) ?_
    exact g_iret (pc := 31) dX12_isHigh_31 ⟨Or.inl ⟨rfl, Nat.le_of_lt hc⟩, hW3, hR4⟩
theorem cap_l : ∀ k, k < 7 → 2 ^ (2 ^ k) * (1000 ^ (2 ^ k) * 9223372036854775808) < 268435456 ^ 45 := by decide +kernel
theorem cap_h : ∀ k, k < 7 → 2 ^ (2 ^ k) * (1000 ^ (2 ^ k) * 36893488147419103232) < 268435456 ^ 45 := by decide +kernel
theorem low_cap {A : Nat → Nat} {n k u : Nat} (hn : n ≤ 12) (hk : k ≤ 6) (hA : ∀ j, A j ≤ 9223372036854775808) (h : lowQ A n k u) : (u * 2) ^ (2 ^ k) < 268435456 ^ 45 := by
  obtain ⟨i, hi, h1⟩ := h
  have h2 := (bin_b n (by omega) i (by omega) hi).1
  have h3 : u ^ (2 ^ k) ≤ u ^ (2 ^ k) * binI n i := Nat.le_mul_of_pos_right _ h2
  have h4 : 1000 ^ (2 ^ k) * A i ≤ 1000 ^ (2 ^ k) * 9223372036854775808 := Nat.mul_le_mul_left _ (hA i)
  have h5 : u ^ (2 ^ k) ≤ 1000 ^ (2 ^ k) * 9223372036854775808 := Nat.le_trans h3 (Nat.le_trans h1 h4)
  rw [Nat.mul_comm u 2, Nat.mul_pow]
  exact Nat.lt_of_le_of_lt (Nat.mul_le_mul_left _ h5) (cap_l k (by omega))
theorem low_dn {A : Nat → Nat} {n k t u : Nat} (h : lowQ A n k u) (ht : t ≤ u) : lowQ A n k t := by
  obtain ⟨i, hi, h1⟩ := h
  exact ⟨i, hi, Nat.le_trans (Nat.mul_le_mul_right _ (Nat.pow_le_pow_left ht _)) h1⟩
theorem low_0 {A : Nat → Nat} {n k : Nat} : lowQ A n k 0 := ⟨0, Nat.zero_le _, by rw [Nat.zero_pow (Nat.pow_pos (by decide)), Nat.zero_mul]; exact Nat.zero_le _⟩
theorem one_cap (k : Nat) : 1 ^ (2 ^ k) < 268435456 ^ 45 := by rw [Nat.one_pow]; decide
theorem pw_dn {t u k : Nat} (h : u ^ (2 ^ k) < 268435456 ^ 45) (ht : t ≤ u) : t ^ (2 ^ k) < 268435456 ^ 45 := Nat.lt_of_le_of_lt (Nat.pow_le_pow_left ht _) h
abbrev BX12_lowOf (w0 : Wd) (Post : Option Value → Wd → Prop) (w : Wd) (pc : Nat) (ls : List (Nat × Value)) (st : List Value) : Prop := GP "lowOf" RX12 cX12_lowOf 5 (some .int) 4 156 none w0 Post w pc ls st
abbrev EX12_lowOf (As : List Value) (w : Wd) (Post : Option Value → Wd → Prop) : Prop := EP yX12_lowOf cX12_lowOf 5 (some .int) 4 As w Post
theorem lo_bin {w0 w : Wd} {Y : Nat} {th st nu dg dd be ib ta fa re ig : Int32} {l : Nat → Int64} {n k : Nat} (hY : w[Y]? = some (oM Y th st nu dg dd (nI n) be ib ta fa re ig)) (a12 : w[Y + 12]? = some (aL 91 l)) (hn : n ≤ 12) (hk : k ≤ 6) (hb : ∀ t, lowQ (lvA l k) n k t → t ≤ 129987000) : ∀ (z lo hi : Nat) (w1 : Wd), hi - lo ≤ z → lo < hi → hi < 268435456 → hi ^ (2 ^ k) < 268435456 ^ 45 → lowQ (lvA l k) n k lo → ¬ lowQ (lvA l k) n k hi → nuO w1 Y → FR (nuS2 Y) w w1 → BX12_lowOf w0 (fun r w' => ∃ t, r = some (.int (nI t)) ∧ lowQ (lvA l k) n k t ∧ ¬ lowQ (lvA l k) n k (t + 1) ∧ nuO w' Y ∧ FR (nuS2 Y) w w') w1 22 [(3, .int (nI lo)), (2, .int (nI hi)), (1, .int (nI k)), (0, .ref Y)] [] := by
  intro z
  induction z with
  | zero =>
    intro lo hi w1 hz hlh hi9 hcap hl hh hO hR0
    exact absurd hlh (by omega)
  | succ z ih =>
    intro lo hi w1 hz hlh hi9 hcap hl hh hO hR0
    refine g_iload_n (pc := 22) 1 dX12_lowOf_22 rfl rfl ?_
    refine g_iload_n (pc := 23) 0 dX12_lowOf_23 rfl rfl ?_
    refine n_isub (pc := 24) dX12_lowOf_24 (by omega) ?_
    refine g_iconst (pc := 25) (v := nI 1) dX12_lowOf_25 (by decide) ?_
    refine n_icmp_le (pc := 26) 58 dX12_lowOf_26 (by decide) (by omega) (by omega) (fun hb9 => ?_) (fun hb9 => ?_)
    · have e9 : hi = lo + 1 := by omega
      rw [e9] at hh
      refine g_iload_n (pc := 58) 0 dX12_lowOf_58 rfl rfl ?_
      exact g_iret (pc := 59) dX12_lowOf_59 ⟨lo, rfl, hl, hh, hO, hR0⟩
    · obtain ⟨md, hmd⟩ : ∃ md, md = (lo + hi) / 2 := ⟨_, rfl⟩
      refine g_iload_n (pc := 29) 0 dX12_lowOf_29 rfl rfl ?_
      refine g_iload_n (pc := 30) 1 dX12_lowOf_30 rfl rfl ?_
      refine n_iadd (pc := 31) dX12_lowOf_31 ?_
      refine g_iconst (pc := 32) (v := nI 2) dX12_lowOf_32 (by decide) ?_
      refine n_idiv (pc := 33) dX12_lowOf_33 (by omega) (by omega) (by omega) ?_
      refine GP.ti (nI md) (by rw [hmd]) ?_
      refine g_istore (pc := 34) [(4, .int (nI md)), (3, .int (nI lo)), (2, .int (nI hi)), (1, .int (nI k)), (0, .ref Y)] dX12_lowOf_34 (by decide) rfl ?_
      refine g_aload_n (pc := 36) 4 dX12_lowOf_36 rfl rfl ?_
      refine g_iload_n (pc := 37) 3 dX12_lowOf_37 rfl rfl ?_
      refine g_iload (pc := 38) 0 dX12_lowOf_38 rfl ?_
      refine g_callV (pc := 40) [.int (nI k), .int (nI md)] dX12_lowOf_40 cv_X12_239.1 cv_X12_239.2.1 cv_X12_239.2.2.1 cv_X12_239.2.2.2 (hR0.lk (by unfold nuS2; omega) hY) rfl rfl (Nat.le_of_ble_eq_true rfl) (by decide) (by decide) (mp_isLow _ (hR0.lk (by unfold nuS2; omega) hY) (hR0.lk (by unfold nuS2; omega) a12) hn hk (by omega) (pw_dn hcap (by omega)) hO) ?_
      rintro _ w2 ⟨(⟨rfl, hq⟩ | ⟨rfl, hq⟩), hO2, hR2⟩
      · ·
          refine n_if_eq (pc := 43) 52 dX12_lowOf_43 (by decide) (by omega) (fun hd9 => ?_) (fun hd9 => ?_)
          · exact absurd hd9 (by decide)
          · refine g_iload (pc := 46) 0 dX12_lowOf_46 rfl ?_
            refine g_istore_n (pc := 48) [(3, .int (nI md)), (4, .int (nI md)), (2, .int (nI hi)), (1, .int (nI k)), (0, .ref Y)] dX12_lowOf_48 rfl (by decide) rfl ?_
            refine g_goto (pc := 49) 55 dX12_lowOf_49 (by decide) ?_
            refine g_goto (pc := 55) 22 dX12_lowOf_55 (by decide) ?_
            exact GP.lsub _ (by simp) (ih md hi w2 (by omega) (by omega) (by omega) hcap hq hh hO2 (hR0.tr hR2))
      · ·
          refine n_if_eq (pc := 43) 52 dX12_lowOf_43 (by decide) (by omega) (fun hd9 => ?_) (fun hd9 => ?_)
          · refine g_iload (pc := 52) 0 dX12_lowOf_52 rfl ?_
            refine g_istore_n (pc := 54) [(2, .int (nI md)), (4, .int (nI md)), (3, .int (nI lo)), (1, .int (nI k)), (0, .ref Y)] dX12_lowOf_54 rfl (by decide) rfl ?_
            refine g_goto (pc := 55) 22 dX12_lowOf_55 (by decide) ?_
            exact GP.lsub _ (by simp) (ih lo md w2 (by omega) (by omega) (by omega) (pw_dn hcap (by omega)) hl hq hO2 (hR0.tr hR2))
          · exact absurd rfl hd9
theorem lo_dbl {w0 w : Wd} {Y : Nat} {th st nu dg dd be ib ta fa re ig : Int32} {l : Nat → Int64} {n k : Nat} (hY : w[Y]? = some (oM Y th st nu dg dd (nI n) be ib ta fa re ig)) (a12 : w[Y + 12]? = some (aL 91 l)) (hn : n ≤ 12) (hk : k ≤ 6) (hb : ∀ t, lowQ (lvA l k) n k t → t ≤ 129987000) : ∀ (z hi : Nat) (w1 : Wd), 268435456 ≤ hi * 2 ^ z → 0 < hi → hi < 268435456 → hi ^ (2 ^ k) < 268435456 ^ 45 → lowQ (lvA l k) n k (hi / 2) → nuO w1 Y → FR (nuS2 Y) w w1 → BX12_lowOf w0 (fun r w' => ∃ t, r = some (.int (nI t)) ∧ lowQ (lvA l k) n k t ∧ ¬ lowQ (lvA l k) n k (t + 1) ∧ nuO w' Y ∧ FR (nuS2 Y) w w') w1 2 [(2, .int (nI hi)), (1, .int (nI k)), (0, .ref Y)] [] := by
  intro z
  induction z with
  | zero =>
    intro hi w1 hz h0 hi9 hcap hl hO hR0
    exact absurd hz (by omega)
  | succ z ih =>
    intro hi w1 hz h0 hi9 hcap hl hO hR0
    refine g_aload_n (pc := 2) 2 dX12_lowOf_2 rfl rfl ?_
    refine g_iload_n (pc := 3) 1 dX12_lowOf_3 rfl rfl ?_
    refine g_iload_n (pc := 4) 0 dX12_lowOf_4 rfl rfl ?_
    refine g_callV (pc := 5) [.int (nI k), .int (nI hi)] dX12_lowOf_5 cv_X12_239.1 cv_X12_239.2.1 cv_X12_239.2.2.1 cv_X12_239.2.2.2 (hR0.lk (by unfold nuS2; omega) hY) rfl rfl (Nat.le_of_ble_eq_true rfl) (by decide) (by decide) (mp_isLow _ (hR0.lk (by unfold nuS2; omega) hY) (hR0.lk (by unfold nuS2; omega) a12) hn hk hi9 hcap hO) ?_
    rintro _ w2 ⟨(⟨rfl, hq⟩ | ⟨rfl, hq⟩), hO2, hR2⟩
    · ·
        refine n_if_eq (pc := 8) 18 dX12_lowOf_8 (by decide) (by omega) (fun hd9 => ?_) (fun hd9 => ?_)
        · exact absurd hd9 (by decide)
        · refine g_iload_n (pc := 11) 0 dX12_lowOf_11 rfl rfl ?_
          refine g_iconst (pc := 12) (v := nI 2) dX12_lowOf_12 (by decide) ?_
          refine n_imul (pc := 13) dX12_lowOf_13 ?_
          refine g_istore_n (pc := 14) [(2, .int (nI (hi * 2))), (1, .int (nI k)), (0, .ref Y)] dX12_lowOf_14 rfl (by decide) rfl ?_
          refine g_goto (pc := 15) 2 dX12_lowOf_15 (by decide) ?_
          have hb8 := hb hi hq
          exact GP.lsub _ (by simp) (ih (hi * 2) w2 (by rw [Nat.mul_assoc, Nat.mul_comm 2, ← Nat.pow_succ]; exact hz) (by omega) (by omega) (low_cap hn hk (fun j => lvA_b) hq) (by rw [show hi * 2 / 2 = hi by omega]; exact hq) hO2 (hR0.tr hR2))
    · ·
        refine n_if_eq (pc := 8) 18 dX12_lowOf_8 (by decide) (by omega) (fun hd9 => ?_) (fun hd9 => ?_)
        · refine g_iload_n (pc := 18) 0 dX12_lowOf_18 rfl rfl ?_
          refine g_iconst (pc := 19) (v := nI 2) dX12_lowOf_19 (by decide) ?_
          refine n_idiv (pc := 20) dX12_lowOf_20 (by omega) (by omega) (by omega) ?_
          refine g_istore_n (pc := 21) [(3, .int (nI (hi / 2))), (2, .int (nI hi)), (1, .int (nI k)), (0, .ref Y)] dX12_lowOf_21 rfl (by decide) rfl ?_
          exact GP.lsub _ (by simp) (lo_bin hY a12 hn hk hb hi (hi / 2) hi w2 (by omega) (by omega) hi9 hcap hl hq hO2 (hR0.tr hR2))
        · exact absurd rfl hd9
theorem mp_lowOf (w : Wd) {Y : Nat} {th st nu dg dd be ib ta fa re ig : Int32} {l : Nat → Int64} {n k : Nat} (hY : w[Y]? = some (oM Y th st nu dg dd (nI n) be ib ta fa re ig)) (a12 : w[Y + 12]? = some (aL 91 l)) (hn : n ≤ 12) (hk : k ≤ 6) (hb : ∀ t, lowQ (lvA l k) n k t → t ≤ 129987000) (hO : nuO w Y) : EX12_lowOf [.ref Y, .int (nI k)] w (fun r w' => ∃ t, r = some (.int (nI t)) ∧ lowQ (lvA l k) n k t ∧ ¬ lowQ (lvA l k) n k (t + 1) ∧ nuO w' Y ∧ FR (nuS2 Y) w w') := by
  refine EP.of (plainFor_of_name (by decide)) [(0, .ref Y), (1, .int (nI k))] rfl (Nat.le_of_ble_eq_true rfl) (fun r wf h => by obtain ⟨t, rfl, -⟩ := h; trivial) ?_
  show BX12_lowOf w _ w 0 [(0, .ref Y), (1, .int (nI k))] []
  refine g_iconst (pc := 0) (v := nI 1) dX12_lowOf_0 (by decide) ?_
  refine g_istore_n (pc := 1) [(2, .int (nI 1)), (0, .ref Y), (1, .int (nI k))] dX12_lowOf_1 rfl (by decide) rfl ?_
  exact GP.lsub _ (by simp) (lo_dbl hY a12 hn hk hb 28 1 w (by decide) (by omega) (by omega) (one_cap k) low_0 hO FR.rf)
theorem high_cap {k u S : Nat} (hk : k ≤ 6) (hS : S ≤ 1000 ^ (2 ^ (k + 1)) * 1361129467683753853853498429727072845824) (h : ¬ S ≤ u ^ (2 ^ (k + 1))) : (u * 2) ^ (2 ^ k) < 268435456 ^ 45 := by
  have h1 : u ^ (2 ^ k) < 1000 ^ (2 ^ k) * 36893488147419103232 := by
    refine Classical.byContradiction (fun g => h (Nat.le_trans hS ?_))
    have g2 := Nat.mul_le_mul (Nat.not_lt.mp g) (Nat.not_lt.mp g)
    have e1 : u ^ (2 ^ k) * u ^ (2 ^ k) = u ^ (2 ^ (k + 1)) := by rw [Nat.pow_succ 2 k, Nat.pow_mul, Nat.pow_two]
    have e2 : (1000 : Nat) ^ (2 ^ k) * 1000 ^ (2 ^ k) = 1000 ^ (2 ^ (k + 1)) := by rw [Nat.pow_succ 2 k, Nat.pow_mul, Nat.pow_two]
    rw [e1, Nat.mul_mul_mul_comm, e2] at g2
    exact g2
  rw [Nat.mul_comm u 2, Nat.mul_pow]
  exact Nat.lt_of_le_of_lt (Nat.mul_le_mul_left _ (Nat.le_of_lt h1)) (cap_h k (by omega))
abbrev BX12_highOf (w0 : Wd) (Post : Option Value → Wd → Prop) (w : Wd) (pc : Nat) (ls : List (Nat × Value)) (st : List Value) : Prop := GP "highOf" RX12 cX12_highOf 5 (some .int) 4 156 none w0 Post w pc ls st
abbrev EX12_highOf (As : List Value) (w : Wd) (Post : Option Value → Wd → Prop) : Prop := EP yX12_highOf cX12_highOf 5 (some .int) 4 As w Post
theorem hiW.o {w : Wd} {Y S : Nat} (h : hiW w Y S) : nuO w Y := by
  obtain ⟨dg, m, n, h1, h2, h3⟩ := h
  exact ⟨⟨dg, m, h1⟩, h3⟩
theorem hi_b {S t k : Nat} (hS2 : S ≤ 129987000 ^ (2 ^ (k + 1))) (h : ¬ S ≤ t ^ (2 ^ (k + 1))) : t < 129987000 := Nat.lt_of_not_le (fun g => h (Nat.le_trans hS2 (Nat.pow_le_pow_left g _)))
theorem hi_bin {w0 w : Wd} {Y : Nat} {th st nu dg dd be ib ta fa re ig : Int32} {n k S : Nat} (hY : w[Y]? = some (oM Y th st nu dg dd (nI n) be ib ta fa re ig)) (hk : k ≤ 6) (hS0 : 0 < S) (hS1 : S ≤ 1000 ^ (2 ^ (k + 1)) * 1361129467683753853853498429727072845824) (hS2 : S ≤ 129987000 ^ (2 ^ (k + 1))) : ∀ (z lo hi : Nat) (w1 : Wd), hi - lo ≤ z → lo < hi → hi < 268435456 → hi ^ (2 ^ k) < 268435456 ^ 45 → ¬ S ≤ lo ^ (2 ^ (k + 1)) → S ≤ hi ^ (2 ^ (k + 1)) → hiW w1 Y S → FR (nuS2 Y) w w1 → BX12_highOf w0 (fun r w' => ∃ t, r = some (.int (nI (t + 1))) ∧ S ≤ (t + 1) ^ (2 ^ (k + 1)) ∧ ¬ S ≤ t ^ (2 ^ (k + 1)) ∧ t < 129987000 ∧ nuO w' Y ∧ FR (nuS2 Y) w w') w1 27 [(3, .int (nI lo)), (2, .int (nI hi)), (1, .int (nI k)), (0, .ref Y)] [] := by
  intro z
  induction z with
  | zero =>
    intro lo hi w1 hz hlh hi9 hcap hl hh hO hR0
    exact absurd hlh (by omega)
  | succ z ih =>
    intro lo hi w1 hz hlh hi9 hcap hl hh hO hR0
    refine g_iload_n (pc := 27) 1 dX12_highOf_27 rfl rfl ?_
    refine g_iload_n (pc := 28) 0 dX12_highOf_28 rfl rfl ?_
    refine n_isub (pc := 29) dX12_highOf_29 (by omega) ?_
    refine g_iconst (pc := 30) (v := nI 1) dX12_highOf_30 (by decide) ?_
    refine n_icmp_le (pc := 31) 63 dX12_highOf_31 (by decide) (by omega) (by omega) (fun hb9 => ?_) (fun hb9 => ?_)
    · have e9 : hi = lo + 1 := by omega
      rw [e9] at hh
      refine g_iload_n (pc := 63) 1 dX12_highOf_63 rfl rfl ?_
      exact g_iret (pc := 64) dX12_highOf_64 ⟨lo, by rw [e9], hh, hl, hi_b hS2 hl, hO.o, hR0⟩
    · obtain ⟨md, hmd⟩ : ∃ md, md = (lo + hi) / 2 := ⟨_, rfl⟩
      refine g_iload_n (pc := 34) 0 dX12_highOf_34 rfl rfl ?_
      refine g_iload_n (pc := 35) 1 dX12_highOf_35 rfl rfl ?_
      refine n_iadd (pc := 36) dX12_highOf_36 ?_
      refine g_iconst (pc := 37) (v := nI 2) dX12_highOf_37 (by decide) ?_
      refine n_idiv (pc := 38) dX12_highOf_38 (by omega) (by omega) (by omega) ?_
      refine GP.ti (nI md) (by rw [hmd]) ?_
      refine g_istore (pc := 39) [(4, .int (nI md)), (3, .int (nI lo)), (2, .int (nI hi)), (1, .int (nI k)), (0, .ref Y)] dX12_highOf_39 (by decide) rfl ?_
      refine g_aload_n (pc := 41) 4 dX12_highOf_41 rfl rfl ?_
      refine g_iload_n (pc := 42) 3 dX12_highOf_42 rfl rfl ?_
      refine g_iload (pc := 43) 0 dX12_highOf_43 rfl ?_
      refine g_callV (pc := 45) [.int (nI k), .int (nI md)] dX12_highOf_45 cv_X12_246.1 cv_X12_246.2.1 cv_X12_246.2.2.1 cv_X12_246.2.2.2 (hR0.lk (by unfold nuS2; omega) hY) rfl rfl (Nat.le_of_ble_eq_true rfl) (by decide) (by decide) (mp_isHigh _ (hR0.lk (by unfold nuS2; omega) hY) hk (by omega) (pw_dn hcap (by omega)) hO) ?_
      rintro _ w2 ⟨(⟨rfl, hq⟩ | ⟨rfl, hq⟩), hO2, hR2⟩
      · ·
          refine n_if_eq (pc := 48) 57 dX12_highOf_48 (by decide) (by omega) (fun hd9 => ?_) (fun hd9 => ?_)
          · exact absurd hd9 (by decide)
          · refine g_iload (pc := 51) 0 dX12_highOf_51 rfl ?_
            refine g_istore_n (pc := 53) [(2, .int (nI md)), (4, .int (nI md)), (3, .int (nI lo)), (1, .int (nI k)), (0, .ref Y)] dX12_highOf_53 rfl (by decide) rfl ?_
            refine g_goto (pc := 54) 60 dX12_highOf_54 (by decide) ?_
            refine g_goto (pc := 60) 27 dX12_highOf_60 (by decide) ?_
            exact GP.lsub _ (by simp) (ih lo md w2 (by omega) (by omega) (by omega) (pw_dn hcap (by omega)) hl hq hO2 (hR0.tr hR2))
      · ·
          refine n_if_eq (pc := 48) 57 dX12_highOf_48 (by decide) (by omega) (fun hd9 => ?_) (fun hd9 => ?_)
          · refine g_iload (pc := 57) 0 dX12_highOf_57 rfl ?_
            refine g_istore_n (pc := 59) [(3, .int (nI md)), (4, .int (nI md)), (2, .int (nI hi)), (1, .int (nI k)), (0, .ref Y)] dX12_highOf_59 rfl (by decide) rfl ?_
            refine g_goto (pc := 60) 27 dX12_highOf_60 (by decide) ?_
            exact GP.lsub _ (by simp) (ih md hi w2 (by omega) (by omega) (by omega) hcap hq hh hO2 (hR0.tr hR2))
          · exact absurd rfl hd9
theorem hi_dbl {w0 w : Wd} {Y : Nat} {th st nu dg dd be ib ta fa re ig : Int32} {n k S : Nat} (hY : w[Y]? = some (oM Y th st nu dg dd (nI n) be ib ta fa re ig)) (hk : k ≤ 6) (hS0 : 0 < S) (hS1 : S ≤ 1000 ^ (2 ^ (k + 1)) * 1361129467683753853853498429727072845824) (hS2 : S ≤ 129987000 ^ (2 ^ (k + 1))) : ∀ (z hi : Nat) (w1 : Wd), 268435456 ≤ hi * 2 ^ z → 0 < hi → hi < 268435456 → hi ^ (2 ^ k) < 268435456 ^ 45 → ¬ S ≤ (hi / 2) ^ (2 ^ (k + 1)) → hiW w1 Y S → FR (nuS2 Y) w w1 → BX12_highOf w0 (fun r w' => ∃ t, r = some (.int (nI (t + 1))) ∧ S ≤ (t + 1) ^ (2 ^ (k + 1)) ∧ ¬ S ≤ t ^ (2 ^ (k + 1)) ∧ t < 129987000 ∧ nuO w' Y ∧ FR (nuS2 Y) w w') w1 7 [(2, .int (nI hi)), (1, .int (nI k)), (0, .ref Y)] [] := by
  intro z
  induction z with
  | zero =>
    intro hi w1 hz h0 hi9 hcap hl hO hR0
    exact absurd hz (by omega)
  | succ z ih =>
    intro hi w1 hz h0 hi9 hcap hl hO hR0
    refine g_aload_n (pc := 7) 2 dX12_highOf_7 rfl rfl ?_
    refine g_iload_n (pc := 8) 1 dX12_highOf_8 rfl rfl ?_
    refine g_iload_n (pc := 9) 0 dX12_highOf_9 rfl rfl ?_
    refine g_callV (pc := 10) [.int (nI k), .int (nI hi)] dX12_highOf_10 cv_X12_246.1 cv_X12_246.2.1 cv_X12_246.2.2.1 cv_X12_246.2.2.2 (hR0.lk (by unfold nuS2; omega) hY) rfl rfl (Nat.le_of_ble_eq_true rfl) (by decide) (by decide) (mp_isHigh _ (hR0.lk (by unfold nuS2; omega) hY) hk hi9 hcap hO) ?_
    rintro _ w2 ⟨(⟨rfl, hq⟩ | ⟨rfl, hq⟩), hO2, hR2⟩
    · ·
        refine n_if_ne (pc := 13) 23 dX12_highOf_13 (by decide) (by omega) (fun hd9 => ?_) (fun hd9 => ?_)
        · refine g_iload_n (pc := 23) 0 dX12_highOf_23 rfl rfl ?_
          refine g_iconst (pc := 24) (v := nI 2) dX12_highOf_24 (by decide) ?_
          refine n_idiv (pc := 25) dX12_highOf_25 (by omega) (by omega) (by omega) ?_
          refine g_istore_n (pc := 26) [(3, .int (nI (hi / 2))), (2, .int (nI hi)), (1, .int (nI k)), (0, .ref Y)] dX12_highOf_26 rfl (by decide) rfl ?_
          exact GP.lsub _ (by simp) (hi_bin hY hk hS0 hS1 hS2 hi (hi / 2) hi w2 (by omega) (by omega) hi9 hcap hl hq hO2 (hR0.tr hR2))
        · exact absurd hd9 (by decide)
    · ·
        refine n_if_ne (pc := 13) 23 dX12_highOf_13 (by decide) (by omega) (fun hd9 => ?_) (fun hd9 => ?_)
        · exact absurd rfl hd9
        · refine g_iload_n (pc := 16) 0 dX12_highOf_16 rfl rfl ?_
          refine g_iconst (pc := 17) (v := nI 2) dX12_highOf_17 (by decide) ?_
          refine n_imul (pc := 18) dX12_highOf_18 ?_
          refine g_istore_n (pc := 19) [(2, .int (nI (hi * 2))), (1, .int (nI k)), (0, .ref Y)] dX12_highOf_19 rfl (by decide) rfl ?_
          refine g_goto (pc := 20) 7 dX12_highOf_20 (by decide) ?_
          have hb8 := hi_b hS2 hq
          exact GP.lsub _ (by simp) (ih (hi * 2) w2 (by rw [Nat.mul_assoc, Nat.mul_comm 2, ← Nat.pow_succ]; exact hz) (by omega) (by omega) (high_cap hk hS1 hq) (by rw [show hi * 2 / 2 = hi by omega]; exact hq) hO2 (hR0.tr hR2))
theorem mp_highOf (w : Wd) {Y : Nat} {th st nu dg dd be ib ta fa re ig : Int32} {l : Nat → Int64} {n k : Nat} (hY : w[Y]? = some (oM Y th st nu dg dd (nI n) be ib ta fa re ig)) (a12 : w[Y + 12]? = some (aL 91 l)) (hn : n ≤ 12) (hk : k ≤ 6) (hS0 : 0 < 1000 ^ (2 ^ (k + 1)) * sqN (lvA l k) (n + 1)) (hS2 : 1000 ^ (2 ^ (k + 1)) * sqN (lvA l k) (n + 1) ≤ 129987000 ^ (2 ^ (k + 1))) (hO : nuO w Y) : EX12_highOf [.ref Y, .int (nI k)] w (fun r w' => ∃ t, r = some (.int (nI (t + 1))) ∧ 1000 ^ (2 ^ (k + 1)) * sqN (lvA l k) (n + 1) ≤ (t + 1) ^ (2 ^ (k + 1)) ∧ ¬ 1000 ^ (2 ^ (k + 1)) * sqN (lvA l k) (n + 1) ≤ t ^ (2 ^ (k + 1)) ∧ t < 129987000 ∧ nuO w' Y ∧ FR (nuS2 Y) w w') := by
  refine EP.of (plainFor_of_name (by decide)) [(0, .ref Y), (1, .int (nI k))] rfl (Nat.le_of_ble_eq_true rfl) (fun r wf h => by obtain ⟨t, rfl, -⟩ := h; trivial) ?_
  show BX12_highOf w _ w 0 [(0, .ref Y), (1, .int (nI k))] []
  have hSb := sqN_b (A := lvA l k) (fun j => lvA_b) (n + 1)
  obtain ⟨S, hS⟩ : ∃ S, S = 1000 ^ (2 ^ (k + 1)) * sqN (lvA l k) (n + 1) := ⟨_, rfl⟩
  have hS1 : S ≤ 1000 ^ (2 ^ (k + 1)) * 1361129467683753853853498429727072845824 := by rw [hS]; exact Nat.mul_le_mul_left _ (Nat.le_trans hSb (by omega))
  rw [← hS] at hS0 hS2
  refine g_aload_n (pc := 0) 0 dX12_highOf_0 rfl rfl ?_
  refine g_iload_n (pc := 1) 1 dX12_highOf_1 rfl rfl ?_
  refine g_callV (pc := 2) [.int (nI k)] dX12_highOf_2 cv_X12_243.1 cv_X12_243.2.1 cv_X12_243.2.2.1 cv_X12_243.2.2.2 hY rfl rfl (Nat.le_of_ble_eq_true rfl) (by decide) (by decide) (mp_laySquares _ hY a12 hn hk hO) ?_
  rintro _ w1 ⟨rfl, hW, hR0⟩
  rw [← hS] at hW
  refine g_iconst (pc := 5) (v := nI 1) dX12_highOf_5 (by decide) ?_
  refine g_istore_n (pc := 6) [(2, .int (nI 1)), (0, .ref Y), (1, .int (nI k))] dX12_highOf_6 rfl (by decide) rfl ?_
  refine GP.post ?_ (GP.lsub _ (by simp) (hi_dbl hY hk hS0 hS1 hS2 28 1 w1 (by decide) (by omega) (by omega) (one_cap k) (by rw [show 1 / 2 = 0 from rfl, Nat.zero_pow (Nat.pow_pos (by decide))]; omega) hW hR0))
  rintro r wf ⟨t, h1, h2, h3, h4, h5, h6⟩
  exact ⟨t, h1, hS ▸ h2, hS ▸ h3, h4, h5, h6⟩
