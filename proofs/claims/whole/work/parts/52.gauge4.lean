abbrev BX2_guessRoot (w0 : Wd) (Post : Option Value → Wd → Prop) (w : Wd) (pc : Nat) (ls : List (Nat × Value)) (st : List Value) : Prop := GP "guessRoot" RX2 cX2_guessRoot 7 (some .int) 1 39 none w0 Post w pc ls st
abbrev EX2_guessRoot (As : List Value) (w : Wd) (Post : Option Value → Wd → Prop) : Prop := EP yX2_guessRoot cX2_guessRoot 7 (some .int) 1 As w Post
theorem gr_3 {w0 w : Wd} {G B E s : Nat} (hE : E = 2000) (hs : s ≤ 7) : ∀ (z i h e : Nat) (sh : Int32) (hd : Int64), s = i + z → hd.toInt = h → h ≤ 4611686018427387904 → sh.toInt = (e : Int) - E → sh.toInt % 2 = 0 → -100 ≤ sh.toInt → sh.toInt ≤ 2000 → (1152921504606846976 ≤ h ∨ sh.toInt ≤ 0) → gI B E i h e → BX2_guessRoot w0 (fun r w' => ∃ g : Nat, r = some (.int (nI g)) ∧ g ≤ 268435455 ∧ g ^ (2 ^ s) ≤ B ∧ w' = w) w 87 [(6, .int (nI i)), (5, .int sh), (2, .long hd), (0, .ref G), (1, .int (nI s))] [] := by
  intro z
  induction z with
  | zero =>
    intro i h e sh hd hi hh hh2 hsh hev hlo hhi hal H
    have esi : s = i := by omega
    subst esi
    have z0 : (0 : Int32).toInt = 0 := by decide
    have z63 : (-63 : Int32).toInt = -63 := by decide
    have zM : (268435455 : Int64).toInt = 268435455 := by decide
    refine g_iload (pc := 87) 0 dX2_guessRoot_87 rfl ?_
    refine g_iload_n (pc := 89) 4 dX2_guessRoot_89 rfl rfl ?_
    refine n_icmp_ge (pc := 90) 130 dX2_guessRoot_90 (by decide) (by omega) (by omega) (fun hb => ?_) (fun hb => ?_)
    · refine g_iload (pc := 130) 1 dX2_guessRoot_130 rfl ?_
      refine g_bipush (pc := 132) (v := -63) dX2_guessRoot_132 (by decide) ?_
      refine g_icmp_gt (pc := 134) 139 dX2_guessRoot_134 (by decide) (fun hc => ?_) (fun hc => ?_)
      · rw [Int32.lt_iff_toInt_lt, z63] at hc
        refine g_iload (pc := 139) 1 dX2_guessRoot_139 rfl ?_
        refine g_if_le (pc := 141) 149 dX2_guessRoot_141 (by decide) (fun hz => ?_) (fun hz => ?_)
        · rw [Int32.le_iff_toInt_le, z0] at hz
          obtain ⟨k, hk⟩ : ∃ k : Nat, sh.toInt = -(k : Int) := ⟨(-sh.toInt).toNat, by omega⟩
          have hns : (-sh).toInt = k := by rw [I_neg (by omega)]; omega
          have hr := L_shrk (x := hd) hns (by omega)
          have hpk : 0 < 2 ^ k := Nat.two_pow_pos k
          have hr2 : (hd >>> ((-sh).toInt64 &&& 63)).toInt = ((h / 2 ^ k : Nat) : Int) := by
            rw [hr, hh]
            simp
          have hdm : h / 2 ^ k * 2 ^ k ≤ h := Nat.div_mul_le_self h (2 ^ k)
          obtain ⟨gq, hgq⟩ : ∃ gq : Nat, h / 2 ^ k = gq := ⟨_, rfl⟩
          rw [hgq] at hr2 hdm
          refine g_ldc2 (pc := 149) kc_X2_137 dX2_guessRoot_149 ?_
          refine g_lload_n (pc := 152) 2 dX2_guessRoot_152 rfl rfl ?_
          refine g_iload (pc := 153) 1 dX2_guessRoot_153 rfl ?_
          refine g_ineg (pc := 155) dX2_guessRoot_155 ?_
          refine g_lshr (pc := 156) dX2_guessRoot_156 ?_
          refine g_callS (pc := 157) [.long (268435455), .long (hd >>> ((-sh).toInt64 &&& 63))] dX2_guessRoot_157 cs_X2_139.1 cs_X2_139.2 rfl rfl (Nat.le_of_ble_eq_true rfl) (by decide) (by decide) (sp_minL _ _ _) ?_
          rintro _ w9 ⟨rfl, e9⟩
          refine GP.weq _ e9 ?_
          by_cases hm : hd >>> ((-sh).toInt64 &&& 63) < (268435455)
          · rw [if_pos hm]
            rw [Int64.lt_iff_toInt_lt, hr2, zM] at hm
            have ei : (hd >>> ((-sh).toInt64 &&& 63)).toInt32 = nI gq := by
              apply Int32.toInt_inj.mp
              rw [LI (by rw [hr2]; omega) (by rw [hr2]; omega), hr2, nI_toInt (by omega)]
            refine g_l2i (pc := 160) dX2_guessRoot_160 ?_
            rw [ei]
            exact g_iret (pc := 161) dX2_guessRoot_161 ⟨gq, rfl, by omega, gI_end H (by omega) hdm, rfl⟩
          · rw [if_neg hm]
            rw [Int64.lt_iff_toInt_lt, hr2, zM] at hm
            refine g_l2i (pc := 160) dX2_guessRoot_160 ?_
            refine GP.ti (nI 268435455) (by decide) ?_
            have h9 : 268435455 * 2 ^ k ≤ h := Nat.le_trans (Nat.mul_le_mul_right _ (by omega)) hdm
            exact g_iret (pc := 161) dX2_guessRoot_161 ⟨268435455, rfl, by omega, gI_end H (by omega) h9, rfl⟩
        · rw [Int32.le_iff_toInt_le, z0] at hz
          refine g_ldc (pc := 144) kc_X2_121 dX2_guessRoot_144 ?_
          refine GP.ti (nI 268435455) (by decide) ?_
          refine g_goto (pc := 146) 161 dX2_guessRoot_146 (by decide) ?_
          exact g_iret (pc := 161) dX2_guessRoot_161 ⟨268435455, rfl, by omega, gI_big H (by omega) (by omega), rfl⟩
      · refine g_iconst (pc := 137) (v := nI 0) dX2_guessRoot_137 (by decide) ?_
        exact g_iret (pc := 138) dX2_guessRoot_138 ⟨0, rfl, by omega, by rw [Nat.zero_pow (Nat.two_pow_pos _)]; exact Nat.zero_le _, rfl⟩
    · exact absurd hb (by omega)
  | succ z ih =>
    intro i h e sh hd hi hh hh2 hsh hev hlo hhi hal H
    obtain ⟨sh1, hsh1⟩ : ∃ sh1 : Int32, sh / nI 2 - nI 30 = sh1 := ⟨_, rfl⟩
    have e1 : sh1.toInt = sh.toInt / 2 - 30 := by
      have z30 : (nI 30).toInt = 30 := by decide
      have ht := td2 sh.toInt
      have ht2 : sh.toInt.tdiv 2 = sh.toInt / 2 := by rw [ht]; split <;> omega
      rw [← hsh1, I_sub (by rw [I_td2, ht2, z30]; omega) (by rw [I_td2, ht2, z30]; omega), I_td2, ht2, z30]
    obtain ⟨sh2, hsh2⟩ : ∃ sh2 : Int32, sh1 + Int32.ofInt (-1) = sh2 := ⟨_, rfl⟩
    have e3 : sh2.toInt = sh.toInt / 2 - 31 := by
      have zm : (Int32.ofInt (-1)).toInt = -1 := by decide
      rw [← hsh2, I_add (by rw [e1, zm]; omega) (by rw [e1, zm]; omega), e1, zm]
      omega
    have e2 : sh1 - sh1 / nI 2 * nI 2 = 0 ↔ sh1.toInt % 2 = 0 := by
      have h9 := I_tm2 sh1
      rw [td2] at h9
      refine ⟨fun g => ?_, fun g => I0.mp ?_⟩
      · rw [g, show (0 : Int32).toInt = 0 by decide] at h9
        split at h9 <;> omega
      · rw [h9]
        split <;> omega
    refine g_iload (pc := 87) 0 dX2_guessRoot_87 rfl ?_
    refine g_iload_n (pc := 89) 4 dX2_guessRoot_89 rfl rfl ?_
    refine n_icmp_ge (pc := 90) 130 dX2_guessRoot_90 (by decide) (by omega) (by omega) (fun hb => ?_) (fun hb => ?_)
    · exact absurd hb (by omega)
    · refine g_lload_n (pc := 93) 2 dX2_guessRoot_93 rfl rfl ?_
      refine g_callS (pc := 94) [.long hd] dX2_guessRoot_94 cs_X2_134.1 cs_X2_134.2 rfl rfl (Nat.le_of_ble_eq_true rfl) (by decide) (by decide) (sp_squareRoot _ (x := hd) (by omega) (by omega)) ?_
      rintro _ w9 ⟨v, rfl, rfl, hv0, hv1, hv2, hv3⟩
      obtain ⟨rt, hrt⟩ : ∃ rt : Nat, v.toInt = rt := ⟨v.toInt.toNat, by omega⟩
      have hl := L_shl30 (x := v) hv0 (by omega)
      obtain ⟨y, hy⟩ : ∃ y : Int64, v <<< ((nI 30).toInt64 &&& 63) = y := ⟨_, rfl⟩
      rw [hy] at hl
      rw [hrt] at hl hv1 hv3 hv2
      rw [hh] at hv1 hv3
      have k1 : rt * rt ≤ h := by exact_mod_cast hv1
      have k2 : h < (rt + 1) * (rt + 1) := by exact_mod_cast hv3
      have k3 : 1152921504606846976 ≤ h → 1073741824 ≤ rt := fun g9 => by
        rcases Nat.lt_or_ge rt 1073741824 with g8 | g8
        · exfalso
          have : (rt + 1) * (rt + 1) ≤ 1073741824 * 1073741824 := Nat.mul_le_mul g8 g8
          omega
        · exact g8
      clear hv1 hv3 k2
      obtain ⟨hq, hhq⟩ : ∃ hq : Nat, hq = rt * 1073741824 := ⟨_, rfl⟩
      obtain ⟨eq9, heq9⟩ : ∃ eq9 : Nat, (eq9 : Int) = sh.toInt / 2 - 30 + E := ⟨(sh.toInt / 2 - 30 + E).toNat, by omega⟩
      have hN : gI B E (i + 1) hq eq9 := by
        rw [hhq]
        exact gI_step k1 (by omega) H
      clear k1
      have hl2 : y.toInt = hq := by omega
      clear hl
      obtain ⟨y2, hy2⟩ : ∃ y2 : Int64, y <<< ((nI 1).toInt64 &&& 63) = y2 := ⟨_, rfl⟩
      have hl3 : y2.toInt = hq * 2 := by
        rw [← hy2, L_shl1 (by omega) (by omega), hl2]
      have k4 : 1152921504606846976 ≤ hq ∨ sh1.toInt ≤ 0 := by omega
      have k5 : hq ≤ 2305843009213693952 := by omega
      clear hhq k3 hv0 hv2 hrt hh hh2 hal H
      refine g_bipush (pc := 97) (v := nI 30) dX2_guessRoot_97 (by decide) ?_
      refine g_lshl (pc := 99) dX2_guessRoot_99 ?_
      refine GP.tl y hy ?_
      refine g_lstore_n (pc := 100) [(2, .long y), (6, .int (nI i)), (5, .int sh), (0, .ref G), (1, .int (nI s))] dX2_guessRoot_100 rfl (by decide) rfl ?_
      refine g_iload (pc := 101) 2 dX2_guessRoot_101 rfl ?_
      refine g_iconst (pc := 103) (v := nI 2) dX2_guessRoot_103 (by decide) ?_
      refine g_idiv (pc := 104) dX2_guessRoot_104 (by decide) ?_
      refine g_bipush (pc := 105) (v := nI 30) dX2_guessRoot_105 (by decide) ?_
      refine g_isub (pc := 107) dX2_guessRoot_107 ?_
      refine GP.ti sh1 hsh1 ?_
      refine g_istore (pc := 108) [(5, .int sh1), (2, .long y), (6, .int (nI i)), (0, .ref G), (1, .int (nI s))] dX2_guessRoot_108 (by decide) rfl ?_
      refine g_iload (pc := 110) 0 dX2_guessRoot_110 rfl ?_
      refine g_iconst (pc := 112) (v := nI 2) dX2_guessRoot_112 (by decide) ?_
      refine g_irem (pc := 113) dX2_guessRoot_113 (by decide) ?_
      refine g_if_eq (pc := 114) 124 dX2_guessRoot_114 (by decide) (fun hc => ?_) (fun hc => ?_)
      · refine n_iinc (pc := 124) (c := 1) [(6, .int (nI (i + 1))), (5, .int sh1), (2, .long y), (0, .ref G), (1, .int (nI s))] 2 dX2_guessRoot_124 rfl (by decide) (by decide) rfl ?_
        refine g_goto (pc := 127) 87 dX2_guessRoot_127 (by decide) ?_
        have hc2 := e2.mp hc
        exact GP.lsub _ (by simp) (ih (i + 1) hq eq9 sh1 y (by omega) hl2 (by omega) (by omega) hc2 (by omega) (by omega) k4 hN)
      · have hc2 : ¬ sh1.toInt % 2 = 0 := fun g9 => hc (e2.mpr g9)
        obtain ⟨h2q, hh2q⟩ : ∃ h2q : Nat, h2q = hq * 2 := ⟨_, rfl⟩
        obtain ⟨e2q, he2q⟩ : ∃ e2q : Nat, e2q + 1 = eq9 := ⟨eq9 - 1, by omega⟩
        have hN2 : gI B E (i + 1) h2q e2q := by
          rw [hh2q]
          exact gI_dbl (by rw [he2q]; exact hN)
        refine g_lload_n (pc := 117) 1 dX2_guessRoot_117 rfl rfl ?_
        refine g_iconst (pc := 118) (v := nI 1) dX2_guessRoot_118 (by decide) ?_
        refine g_lshl (pc := 119) dX2_guessRoot_119 ?_
        refine GP.tl y2 hy2 ?_
        refine g_lstore_n (pc := 120) [(2, .long y2), (5, .int sh1), (6, .int (nI i)), (0, .ref G), (1, .int (nI s))] dX2_guessRoot_120 rfl (by decide) rfl ?_
        refine g_iinc (pc := 121) [(5, .int sh2), (2, .long y2), (6, .int (nI i)), (0, .ref G), (1, .int (nI s))] 1 dX2_guessRoot_121 rfl hsh2 (by decide) rfl ?_
        refine n_iinc (pc := 124) (c := 1) [(6, .int (nI (i + 1))), (5, .int sh2), (2, .long y2), (0, .ref G), (1, .int (nI s))] 2 dX2_guessRoot_124 rfl (by decide) (by decide) rfl ?_
        refine g_goto (pc := 127) 87 dX2_guessRoot_127 (by decide) ?_
        exact GP.lsub _ (by simp) (ih (i + 1) h2q e2q sh2 y2 (by omega) (by omega) (by omega) (by omega) (by omega) (by omega) (by omega) (by omega) hN2)
