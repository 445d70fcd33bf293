/-! Gauge: lowBy, highBy -/
theorem absU (x : Int64) : (if 0 ≤ x then x else -x).toUInt64.toNat = x.toInt.natAbs := by
  have z0 : (0 : Int64).toInt = 0 := by decide
  by_cases hc : 0 ≤ x
  · rw [if_pos hc]
    rw [Int64.le_iff_toInt_le, z0] at hc
    have := L_toNat hc
    omega
  · rw [if_neg hc]
    rw [Int64.le_iff_toInt_le, z0] at hc
    have e1 : (-x).toUInt64.toNat = (-x.toBitVec).toNat := rfl
    have e2 : x.toInt = x.toBitVec.toInt := rfl
    rw [e1, BitVec.toNat_neg, e2]
    rw [e2] at hc
    have h3 := x.toBitVec.isLt
    rw [BitVec.toInt_eq_toNat_cond] at hc ⊢
    split
    · rename_i h
      rw [if_pos h] at hc
      omega
    · rename_i h
      rw [if_neg h] at hc
      omega
def gauS2 (G i : Nat) : Prop := G + 16 ≤ i ∧ i ≤ G + 23
/-- what lowBy tells -/
def isLow (f : Nat → Int64) (n k t : Nat) : Prop := ∃ b, b ≤ n ∧ (∀ j, j ≤ n → aN f j * binI n b ≤ aN f b * binI n j) ∧ isRoot (1000 ^ (2 ^ k) * aN f b / binI n b) k t
theorem tho_lt {s : Nat} (hs : s ≤ 7) : 1000 ^ (2 ^ s) < 268435456 ^ 46 := by
  have h1 : 2 ^ s ≤ 2 ^ 7 := Nat.pow_le_pow_right (by decide) hs
  have h2 : 1000 ^ (2 ^ s) ≤ 1000 ^ 128 := Nat.pow_le_pow_right (by decide) h1
  have h3 : 1000 ^ 128 < 268435456 ^ 46 := by decide +kernel
  exact Nat.lt_of_le_of_lt h2 h3
abbrev BX2_lowBy (w0 : Wd) (Post : Option Value → Wd → Prop) (w : Wd) (pc : Nat) (ls : List (Nat × Value)) (st : List Value) : Prop := GP "lowBy" RX2 cX2_lowBy 6 (some .int) 5 195 none w0 Post w pc ls st
abbrev EX2_lowBy (As : List Value) (w : Wd) (Post : Option Value → Wd → Prop) : Prop := EP yX2_lowBy cX2_lowBy 6 (some .int) 5 As w Post
theorem sp_lowBy (w : Wd) {G lo O n tp k : Nat} {R : Nat → Nat → Int64} {bb bl : Int32} (hG : gauC w G bb bl) (hL : ladC w lo O n tp R) (hn : n ≤ 12) (hk : k ≤ 6) (hd1 : lo < G ∨ G + 39 < lo) (hd2 : O + 7 < G ∨ G + 39 < O) : EX2_lowBy [.ref G, .ref lo, .int (nI k)] w (fun r w' => ∃ t : Nat, r = some (.int (nI t)) ∧ isLow (R k) n k t ∧ gauC w' G bb bl ∧ FR (gauS2 G) w w') := by
  refine EP.of (plainFor_of_name (by decide)) [(0, .ref G), (1, .ref lo), (2, .int (nI k))] rfl (Nat.le_of_ble_eq_true rfl) (fun r wf h => by obtain ⟨q, rfl, -⟩ := h; trivial) ?_
  show BX2_lowBy w _ w 0 [(0, .ref G), (1, .ref lo), (2, .int (nI k))] []
  obtain ⟨hlo, ⟨rf, hO, hrf⟩, hrows⟩ := hL
  have hG0 := id hG
  obtain ⟨hg, ⟨⟨tf, ht, htf⟩, hts⟩, ⟨⟨yf, hy, hyf⟩, hrow⟩, h16, h18, h20, h22⟩ := hG
  have hRk := hrows k (by omega)
  obtain ⟨n16, d16, h16a, h16b⟩ := id h16
  obtain ⟨n18, d18, h18a, h18b⟩ := id h18
  obtain ⟨yn, hyn, hyi⟩ := hrow n (by omega)
  obtain ⟨NT, hNT, hVT⟩ := hts k (by omega)
  refine g_iload_n (pc := 0) 2 dX2_lowBy_0 rfl rfl ?_
  refine n_if_lt (pc := 1) 10 dX2_lowBy_1 (by decide) (by omega) ?_
  refine g_iload_n (pc := 4) 2 dX2_lowBy_4 rfl rfl ?_
  refine g_bipush (pc := 5) (v := nI 6) dX2_lowBy_5 (by decide) ?_
  refine n_icmp_le (pc := 7) 12 dX2_lowBy_7 (by decide) (by omega) (by omega) (fun hc => ?_) (fun hc => ?_)
  · refine g_aload_n (pc := 12) 1 dX2_lowBy_12 rfl rfl ?_
    refine g_get (pc := 13) dX2_lowBy_13 fk_X2_55 hlo rfl ?_
    refine g_iload_n (pc := 16) 2 dX2_lowBy_16 rfl rfl ?_
    refine g_aald (pc := 17) (v := .ref (O + 1 + k)) k dX2_lowBy_17 hO (by decide) (IXn (by omega) (by omega)) (by rw [hrf k (by omega)]; rfl) ?_
    refine g_astore_n (pc := 18) [(3, .ref (O + 1 + k)), (0, .ref G), (1, .ref lo), (2, .int (nI k))] dX2_lowBy_18 rfl (by decide) rfl ?_
    refine g_aload_n (pc := 19) 2 dX2_lowBy_19 rfl rfl ?_
    refine g_get (pc := 20) dX2_lowBy_20 fk_X2_61 hlo rfl ?_
    refine g_istore (pc := 23) [(4, .int (nI n)), (3, .ref (O + 1 + k)), (0, .ref G), (1, .ref lo), (2, .int (nI k))] dX2_lowBy_23 (by decide) rfl ?_
    refine g_aload_n (pc := 25) 2 dX2_lowBy_25 rfl rfl ?_
    refine g_aload_n (pc := 26) 1 dX2_lowBy_26 rfl rfl ?_
    refine g_iload (pc := 27) 0 dX2_lowBy_27 rfl ?_
    refine g_callV (pc := 29) [.ref (O + 1 + k), .int (nI n)] dX2_lowBy_29 cv_X2_64.1 cv_X2_64.2.1 cv_X2_64.2.2.1 cv_X2_64.2.2.2 hg rfl rfl (Nat.le_of_ble_eq_true rfl) (by decide) (by decide) (sp_greatestShare _ (n := n) hG0 hRk hn) ?_
    rintro _ w9 ⟨b, rfl, hb, hbest, e9⟩
    refine GP.weq _ e9 ?_
    have hWb := binI_b hn hb
    refine g_istore (pc := 32) [(5, .int (nI b)), (4, .int (nI n)), (3, .ref (O + 1 + k)), (0, .ref G), (1, .ref lo), (2, .int (nI k))] dX2_lowBy_32 (by decide) rfl ?_
    refine g_aload_n (pc := 34) 3 dX2_lowBy_34 rfl rfl ?_
    refine g_get (pc := 35) dX2_lowBy_35 fk_X2_25 hg rfl ?_
    refine g_aload_n (pc := 38) 2 dX2_lowBy_38 rfl rfl ?_
    refine g_iload (pc := 39) 0 dX2_lowBy_39 rfl ?_
    refine g_lald (pc := 41) b dX2_lowBy_41 hRk (IXn (by omega) (by omega)) ?_
    refine g_callS (pc := 42) [.long ((R k) b)] dX2_lowBy_42 cs_X2_68.1 cs_X2_68.2 rfl rfl (Nat.le_of_ble_eq_true rfl) (by decide) (by decide) (sp_absL _ (R k b)) ?_
    rintro _ w9 ⟨rfl, e9⟩
    refine GP.weq _ e9 ?_
    refine g_callV (pc := 45) [.long (if 0 ≤ R k b then R k b else -R k b)] dX2_lowBy_45 cv_X2_74.1 cv_X2_74.2.1 cv_X2_74.2.2.1 cv_X2_74.2.2.2 h16a rfl rfl (Nat.le_of_ble_eq_true rfl) (by decide) (by decide) (wh_size _ h16 (by decide) (by decide)) ?_
    rintro _ w2 ⟨rfl, hV2, hF2⟩
    rw [absU] at hV2
    obtain ⟨m16, e16, g16a, -⟩ := id hV2
    refine g_aload_n (pc := 48) 3 dX2_lowBy_48 rfl rfl ?_
    refine g_get (pc := 49) dX2_lowBy_49 fk_X2_29 (hF2.lk (by unfold wS; omega) hg) rfl ?_
    refine g_aload_n (pc := 52) 3 dX2_lowBy_52 rfl rfl ?_
    refine g_get (pc := 53) dX2_lowBy_53 fk_X2_11 (hF2.lk (by unfold wS; omega) hg) rfl ?_
    refine g_iload_n (pc := 56) 5 dX2_lowBy_56 rfl rfl ?_
    refine g_aald (pc := 57) (v := .ref (G + 24 + 2 * k)) k dX2_lowBy_57 (hF2.lk (by unfold wS; omega) ht) (by decide) (IXn (by omega) (by omega)) (by rw [htf k (by omega)]; rfl) ?_
    refine g_aload_n (pc := 58) 3 dX2_lowBy_58 rfl rfl ?_
    refine g_get (pc := 59) dX2_lowBy_59 fk_X2_25 (hF2.lk (by unfold wS; omega) hg) rfl ?_
    have hu2 : ((R k b).toInt.natAbs : Int) < 268435456 ^ 3 := by
      have := L_lo (R k b)
      have := L_hi (R k b)
      rw [show (268435456 : Int) ^ 3 = 19342813113834066795298816 by decide]
      omega
    refine g_callV (pc := 62) [.ref (G + 24 + 2 * k), .ref (G + 16)] dX2_lowBy_62 cv_X2_78.1 cv_X2_78.2.1 cv_X2_78.2.2.1 cv_X2_78.2.2.2 (hF2.lk (by unfold wS; omega) h18a) rfl rfl (Nat.le_of_ble_eq_true rfl) (by decide) (by decide) (wh_product _ (h18.fr hF2 (by unfold wS; omega) (by unfold wS; omega)) (hVT.fr hF2 (by unfold wS; omega) (by unfold wS; omega)) hV2 (by omega) (by omega) (by decide) (by omega) (by decide) (nlt_ipow (tho_lt (by omega))) hu2 (by decide) (by decide)) ?_
    rintro _ w3 ⟨rfl, hV3, hF3⟩
    obtain ⟨m18, e18, g18a, -⟩ := id hV3
    refine g_aload_n (pc := 65) 3 dX2_lowBy_65 rfl rfl ?_
    refine g_get (pc := 66) dX2_lowBy_66 fk_X2_29 (hF3.lk (by unfold wS; omega) (hF2.lk (by unfold wS; omega) hg)) rfl ?_
    refine g_aload_n (pc := 69) 3 dX2_lowBy_69 rfl rfl ?_
    refine g_get (pc := 70) dX2_lowBy_70 fk_X2_19 (hF3.lk (by unfold wS; omega) (hF2.lk (by unfold wS; omega) hg)) rfl ?_
    refine g_iload (pc := 73) 1 dX2_lowBy_73 rfl ?_
    refine g_aald (pc := 75) (v := .ref (G + 3 + n)) n dX2_lowBy_75 (hF3.lk (by unfold wS; omega) (hF2.lk (by unfold wS; omega) hy)) (by decide) (IXn (by omega) (by omega)) (by rw [hyf n (by omega)]; rfl) ?_
    refine g_iload (pc := 76) 0 dX2_lowBy_76 rfl ?_
    refine g_iald (pc := 78) b dX2_lowBy_78 (hF3.lk (by unfold wS; omega) (hF2.lk (by unfold wS; omega) hyn)) (IXn (by omega) (by omega)) ?_
    refine GP.ti (nI (binI n b)) (hyi b hb) ?_
    refine g_callV (pc := 79) [.int (nI (binI n b))] dX2_lowBy_79 cv_X2_82.1 cv_X2_82.2.1 cv_X2_82.2.2.1 cv_X2_82.2.2.2 g18a rfl rfl (Nat.le_of_ble_eq_true rfl) (by decide) (by decide) (wh_divide _ hV3 (by decide) (by omega) (by omega)) ?_
    rintro _ w4 ⟨rfl, hV4, hF4⟩
    have hFF : FR (gauS2 G) w w4 := ((hF2.mono (fun i hi => by unfold wS at hi; unfold gauS2; omega)).tr (hF3.mono (fun i hi => by unfold wS at hi; unfold gauS2; omega))).tr (hF4.mono (fun i hi => by unfold wS at hi; unfold gauS2; omega))
    have hG9 := hG0.keep hFF (fun i hi => hi) (((hV2.fr hF3 (by unfold wS; omega) (by unfold wS; omega)).fr hF4 (by unfold wS; omega) (by unfold wS; omega)).c) hV4.c (((h20.fr hF2 (by unfold wS; omega) (by unfold wS; omega)).fr hF3 (by unfold wS; omega) (by unfold wS; omega)).fr hF4 (by unfold wS; omega) (by unfold wS; omega)) (((h22.fr hF2 (by unfold wS; omega) (by unfold wS; omega)).fr hF3 (by unfold wS; omega) (by unfold wS; omega)).fr hF4 (by unfold wS; omega) (by unfold wS; omega))
    have hV5 : whV w4 (G + 18) 64 ((1000 ^ (2 ^ k) * aN (R k) b / binI n b : Nat) : Int) := by
      rw [Int.natCast_ediv, Int.natCast_mul]
      exact hV4
    refine g_aload_n (pc := 82) 3 dX2_lowBy_82 rfl rfl ?_
    refine g_iload_n (pc := 83) 5 dX2_lowBy_83 rfl rfl ?_
    refine g_callV (pc := 84) [.int (nI k)] dX2_lowBy_84 cv_X2_85.1 cv_X2_85.2.1 cv_X2_85.2.2.1 cv_X2_85.2.2.2 (hF4.lk (by unfold wS; omega) (hF3.lk (by unfold wS; omega) (hF2.lk (by unfold wS; omega) hg))) rfl rfl (Nat.le_of_ble_eq_true rfl) (by decide) (by decide) (sp_root _ (s := k) hG9 hV5 (by omega)) ?_
    rintro _ w5 ⟨t, rfl, hR, hG10, hF10⟩
    exact g_iret (pc := 87) dX2_lowBy_87 ⟨t, rfl, ⟨b, hb, hbest, hR⟩, hG10, hFF.tr (hF10.mono (fun i hi => by unfold powS at hi; unfold gauS2; omega))⟩
  · exact absurd hk hc
/-- what highBy tells -/
def isHigh (f : Nat → Int64) (n k t : Nat) : Prop := ∃ u, t = u + 1 ∧ isRoot (1000 ^ (2 ^ (k + 1)) * (sqs f (n + 1)).toNat - 1) (k + 1) u
theorem sqs_lt {f : Nat → Int64} {n : Nat} (hn : n ≤ 12) : sqs f (n + 1) < 268435456 ^ 5 := by
  have h : ∀ m, 0 ≤ sqs f m ∧ sqs f m ≤ m * 85070591730234615865843651857942052864 := by
    intro m
    induction m with
    | zero => exact ⟨Int.le_refl _, Int.le_refl _⟩
    | succ m ih =>
      have h1 := L_lo (f m)
      have h2 := L_hi (f m)
      have h3 : (f m).toInt * (f m).toInt ≤ 9223372036854775808 * 9223372036854775808 := by
        rcases Int.le_total 0 (f m).toInt with g | g
        · exact Int.mul_le_mul (by omega) (by omega) g (by decide)
        · rw [← Int.neg_mul_neg]
          exact Int.mul_le_mul (by omega) (by omega) (by omega) (by decide)
      have h4 := sq_nn (f m).toInt
      have e : sqs f (m + 1) = sqs f m + (f m).toInt * (f m).toInt := rfl
      rw [e]
      generalize (f m).toInt * (f m).toInt = X at *
      omega
  have h5 := (h (n + 1)).2
  rw [show (268435456 : Int) ^ 5 = 1393796574908163946345982392040522594123776 by decide]
  omega
abbrev BX2_highBy (w0 : Wd) (Post : Option Value → Wd → Prop) (w : Wd) (pc : Nat) (ls : List (Nat × Value)) (st : List Value) : Prop := GP "highBy" RX2 cX2_highBy 3 (some .int) 5 195 none w0 Post w pc ls st
abbrev EX2_highBy (As : List Value) (w : Wd) (Post : Option Value → Wd → Prop) : Prop := EP yX2_highBy cX2_highBy 3 (some .int) 5 As w Post
theorem sp_highBy (w : Wd) {G lo O n tp k : Nat} {R : Nat → Nat → Int64} {bb bl : Int32} (hG : gauC w G bb bl) (hL : ladC w lo O n tp R) (hn : n ≤ 12) (hk : k ≤ 6) (hd1 : lo < G ∨ G + 39 < lo) (hd2 : O + 7 < G ∨ G + 39 < O) (hpos : 0 < sqs (R k) (n + 1)) : EX2_highBy [.ref G, .ref lo, .int (nI k)] w (fun r w' => ∃ t : Nat, r = some (.int (nI t)) ∧ isHigh (R k) n k t ∧ gauC w' G bb bl ∧ FR (gauS2 G) w w') := by
  refine EP.of (plainFor_of_name (by decide)) [(0, .ref G), (1, .ref lo), (2, .int (nI k))] rfl (Nat.le_of_ble_eq_true rfl) (fun r wf h => by obtain ⟨q, rfl, -⟩ := h; trivial) ?_
  show BX2_highBy w _ w 0 [(0, .ref G), (1, .ref lo), (2, .int (nI k))] []
  obtain ⟨hlo, ⟨rf, hO, hrf⟩, hrows⟩ := hL
  have hG0 := id hG
  obtain ⟨hg, ⟨⟨tf, ht, htf⟩, hts⟩, ⟨⟨yf, hy, hyf⟩, hrow⟩, h16, h18, h20, h22⟩ := hG
  have hRk := hrows k (by omega)
  obtain ⟨n16, d16, h16a, h16b⟩ := id h16
  obtain ⟨n18, d18, h18a, h18b⟩ := id h18
  obtain ⟨NT, hNT, hVT⟩ := hts (k + 1) (by omega)
  refine g_iload_n (pc := 0) 2 dX2_highBy_0 rfl rfl ?_
  refine n_if_lt (pc := 1) 10 dX2_highBy_1 (by decide) (by omega) ?_
  refine g_iload_n (pc := 4) 2 dX2_highBy_4 rfl rfl ?_
  refine g_bipush (pc := 5) (v := nI 6) dX2_highBy_5 (by decide) ?_
  refine n_icmp_le (pc := 7) 12 dX2_highBy_7 (by decide) (by omega) (by omega) (fun hc => ?_) (fun hc => ?_)
  · refine g_aload_n (pc := 12) 0 dX2_highBy_12 rfl rfl ?_
    refine g_get (pc := 13) dX2_highBy_13 fk_X2_25 hg rfl ?_
    refine g_aload_n (pc := 16) 1 dX2_highBy_16 rfl rfl ?_
    refine g_get (pc := 17) dX2_highBy_17 fk_X2_55 hlo rfl ?_
    refine g_iload_n (pc := 20) 2 dX2_highBy_20 rfl rfl ?_
    refine g_aald (pc := 21) (v := .ref (O + 1 + k)) k dX2_highBy_21 hO (by decide) (IXn (by omega) (by omega)) (by rw [hrf k (by omega)]; rfl) ?_
    refine g_aload_n (pc := 22) 1 dX2_highBy_22 rfl rfl ?_
    refine g_get (pc := 23) dX2_highBy_23 fk_X2_61 hlo rfl ?_
    refine g_callV (pc := 26) [.ref (O + 1 + k), .int (nI n)] dX2_highBy_26 cv_X2_89.1 cv_X2_89.2.1 cv_X2_89.2.2.1 cv_X2_89.2.2.2 h16a rfl rfl (Nat.le_of_ble_eq_true rfl) (by decide) (by decide) (wh_squares _ (n := n) h16 hRk (by omega) (by decide) (by decide) (by decide) (by omega) hn) ?_
    rintro _ w2 ⟨rfl, hV2, hF2⟩
    obtain ⟨m16, e16, g16a, -⟩ := id hV2
    refine g_aload_n (pc := 29) 0 dX2_highBy_29 rfl rfl ?_
    refine g_get (pc := 30) dX2_highBy_30 fk_X2_29 (hF2.lk (by unfold wS; omega) hg) rfl ?_
    refine g_aload_n (pc := 33) 0 dX2_highBy_33 rfl rfl ?_
    refine g_get (pc := 34) dX2_highBy_34 fk_X2_11 (hF2.lk (by unfold wS; omega) hg) rfl ?_
    refine g_iload_n (pc := 37) 2 dX2_highBy_37 rfl rfl ?_
    refine g_iconst (pc := 38) (v := nI 1) dX2_highBy_38 (by decide) ?_
    refine n_iadd (pc := 39) dX2_highBy_39 ?_
    refine g_aald (pc := 40) (v := .ref (G + 24 + 2 * (k + 1))) (k + 1) dX2_highBy_40 (hF2.lk (by unfold wS; omega) ht) (by decide) (IXn (by omega) (by omega)) (by rw [htf (k + 1) (by omega)]; rfl) ?_
    refine g_aload_n (pc := 41) 0 dX2_highBy_41 rfl rfl ?_
    refine g_get (pc := 42) dX2_highBy_42 fk_X2_25 (hF2.lk (by unfold wS; omega) hg) rfl ?_
    refine g_callV (pc := 45) [.ref (G + 24 + 2 * (k + 1)), .ref (G + 16)] dX2_highBy_45 cv_X2_78.1 cv_X2_78.2.1 cv_X2_78.2.2.1 cv_X2_78.2.2.2 (hF2.lk (by unfold wS; omega) h18a) rfl rfl (Nat.le_of_ble_eq_true rfl) (by decide) (by decide) (wh_product _ (h18.fr hF2 (by unfold wS; omega) (by unfold wS; omega)) (hVT.fr hF2 (by unfold wS; omega) (by unfold wS; omega)) hV2 (by omega) (by omega) (by decide) (by omega) (by decide) (nlt_ipow (tho_lt (by omega))) (sqs_lt hn) (by decide) (by decide)) ?_
    rintro _ w3 ⟨rfl, hV3, hF3⟩
    obtain ⟨m18, e18, g18a, -⟩ := id hV3
    obtain ⟨sq, hsq⟩ : ∃ sq : Nat, sqs (R k) (n + 1) = sq := ⟨(sqs (R k) (n + 1)).toNat, by omega⟩
    have hth : 0 < 1000 ^ (2 ^ (k + 1)) := Nat.pow_pos (by decide)
    have hpr : 0 < 1000 ^ (2 ^ (k + 1)) * sq := Nat.mul_pos hth (by omega)
    rw [hsq, ← Int.natCast_mul] at hV3
    refine g_aload_n (pc := 48) 0 dX2_highBy_48 rfl rfl ?_
    refine g_get (pc := 49) dX2_highBy_49 fk_X2_29 (hF3.lk (by unfold wS; omega) (hF2.lk (by unfold wS; omega) hg)) rfl ?_
    refine g_callV (pc := 52) [] dX2_highBy_52 cv_X2_93.1 cv_X2_93.2.1 cv_X2_93.2.2.1 cv_X2_93.2.2.2 g18a rfl rfl (Nat.le_of_ble_eq_true rfl) (by decide) (by decide) (wh_lessOne _ hV3 (by decide) (by omega)) ?_
    rintro _ w4 ⟨rfl, hV4, hF4⟩
    have hFF : FR (gauS2 G) w w4 := ((hF2.mono (fun i hi => by unfold wS at hi; unfold gauS2; omega)).tr (hF3.mono (fun i hi => by unfold wS at hi; unfold gauS2; omega))).tr (hF4.mono (fun i hi => by unfold wS at hi; unfold gauS2; omega))
    have hG9 := hG0.keep hFF (fun i hi => hi) (((hV2.fr hF3 (by unfold wS; omega) (by unfold wS; omega)).fr hF4 (by unfold wS; omega) (by unfold wS; omega)).c) hV4.c (((h20.fr hF2 (by unfold wS; omega) (by unfold wS; omega)).fr hF3 (by unfold wS; omega) (by unfold wS; omega)).fr hF4 (by unfold wS; omega) (by unfold wS; omega)) (((h22.fr hF2 (by unfold wS; omega) (by unfold wS; omega)).fr hF3 (by unfold wS; omega) (by unfold wS; omega)).fr hF4 (by unfold wS; omega) (by unfold wS; omega))
    have hV5 : whV w4 (G + 18) 64 ((1000 ^ (2 ^ (k + 1)) * sq - 1 : Nat) : Int) := by
      rw [Int.natCast_sub hpr]
      exact hV4
    refine g_aload_n (pc := 55) 0 dX2_highBy_55 rfl rfl ?_
    refine g_iload_n (pc := 56) 2 dX2_highBy_56 rfl rfl ?_
    refine g_iconst (pc := 57) (v := nI 1) dX2_highBy_57 (by decide) ?_
    refine n_iadd (pc := 58) dX2_highBy_58 ?_
    refine g_callV (pc := 59) [.int (nI (k + 1))] dX2_highBy_59 cv_X2_85.1 cv_X2_85.2.1 cv_X2_85.2.2.1 cv_X2_85.2.2.2 (hF4.lk (by unfold wS; omega) (hF3.lk (by unfold wS; omega) (hF2.lk (by unfold wS; omega) hg))) rfl rfl (Nat.le_of_ble_eq_true rfl) (by decide) (by decide) (sp_root _ (s := k + 1) hG9 hV5 (by omega)) ?_
    rintro _ w5 ⟨t, rfl, hR, hG10, hF10⟩
    refine g_iconst (pc := 62) (v := nI 1) dX2_highBy_62 (by decide) ?_
    refine n_iadd (pc := 63) dX2_highBy_63 ?_
    exact g_iret (pc := 64) dX2_highBy_64 ⟨t + 1, rfl, ⟨t, rfl, by rw [hsq, Int.toNat_natCast]; exact hR⟩, hG10, hFF.tr (hF10.mono (fun i hi => by unfold powS at hi; unfold gauS2; omega))⟩
  · exact absurd hk hc
