theorem gr_2 {w0 w : Wd} {G B E s c h0 : Nat} (hE : E = 2000) (hs : s ≤ 7) (hc : c ≤ 64) (hB : h0 * 268435456 ^ c ≤ B) (hz : h0 = 0 → c = 0) : ∀ (z i : Nat) (sh : Int32) (hd : Int64), 31 = i + z → hd.toInt = (h0 * 4 ^ i : Nat) → h0 * 4 ^ i < 4611686018427387904 → sh.toInt = 28 * (c : Int) - 2 * i → BX2_guessRoot w0 (fun r w' => ∃ g : Nat, r = some (.int (nI g)) ∧ g ≤ 268435455 ∧ g ^ (2 ^ s) ≤ B ∧ w' = w) w 56 [(6, .int (nI i)), (5, .int sh), (2, .long hd), (0, .ref G), (1, .int (nI s)), (4, .int (nI c))] [] := by
  intro z
  induction z with
  | zero =>
    intro i sh hd hi hh hh2 hsh
    refine g_iload (pc := 56) 0 dX2_guessRoot_56 rfl ?_
    refine g_bipush (pc := 58) (v := nI 31) dX2_guessRoot_58 (by decide) ?_
    refine n_icmp_ge (pc := 60) 84 dX2_guessRoot_60 (by decide) (by omega) (by omega) (fun hb => ?_) (fun hb => ?_)
    · have ei : i = 31 := by omega
      have h00 : h0 = 0 := by
        rcases Nat.eq_zero_or_pos h0 with g9 | g9
        · exact g9
        · exfalso
          have : 1 * 4 ^ i ≤ h0 * 4 ^ i := Nat.mul_le_mul_right _ g9
          rw [ei, show (4 : Nat) ^ 31 = 4611686018427387904 by decide] at this
          rw [ei, show (4 : Nat) ^ 31 = 4611686018427387904 by decide] at hh2
          omega
      have hc0 := hz h00
      refine g_iconst (pc := 84) (v := nI 0) dX2_guessRoot_84 (by decide) ?_
      refine g_istore (pc := 85) [(6, .int (nI 0)), (5, .int sh), (2, .long hd), (0, .ref G), (1, .int (nI s)), (4, .int (nI c))] dX2_guessRoot_85 (by decide) rfl ?_
      obtain ⟨e, he⟩ : ∃ e : Nat, (e : Int) = sh.toInt + E := ⟨(sh.toInt + E).toNat, by omega⟩
      refine GP.lsub [(6, .int (nI 0)), (5, .int sh), (2, .long hd), (0, .ref G), (1, .int (nI s))] (by simp) (gr_3 hE hs s 0 (h0 * 4 ^ i) e sh hd (by omega) hh (by omega) (by omega) (by omega) (by omega) (by omega) (Or.inr (by omega)) (gI_first hB (by omega)))
    · exact absurd hb (by omega)
  | succ z ih =>
    intro i sh hd hi hh hh2 hsh
    have zK : (1152921504606846976 : Int64).toInt = 1152921504606846976 := by decide
    refine g_iload (pc := 56) 0 dX2_guessRoot_56 rfl ?_
    refine g_bipush (pc := 58) (v := nI 31) dX2_guessRoot_58 (by decide) ?_
    refine n_icmp_ge (pc := 60) 84 dX2_guessRoot_60 (by decide) (by omega) (by omega) (fun hb => ?_) (fun hb => ?_)
    · exact absurd hb (by omega)
    · refine g_lload_n (pc := 63) 2 dX2_guessRoot_63 rfl rfl ?_
      refine g_ldc2 (pc := 64) kc_X2_132 dX2_guessRoot_64 ?_
      refine g_lcmp_ge (pc := 67) 84 dX2_guessRoot_67 dX2_guessRoot_68 (by decide) (fun hk => ?_) (fun hk => ?_)
      · rw [Int64.le_iff_toInt_le, zK, hh] at hk
        refine g_iconst (pc := 84) (v := nI 0) dX2_guessRoot_84 (by decide) ?_
        refine g_istore (pc := 85) [(6, .int (nI 0)), (5, .int sh), (2, .long hd), (0, .ref G), (1, .int (nI s)), (4, .int (nI c))] dX2_guessRoot_85 (by decide) rfl ?_
        obtain ⟨e, he⟩ : ∃ e : Nat, (e : Int) = sh.toInt + E := ⟨(sh.toInt + E).toNat, by omega⟩
        refine GP.lsub [(6, .int (nI 0)), (5, .int sh), (2, .long hd), (0, .ref G), (1, .int (nI s))] (by simp) (gr_3 hE hs s 0 (h0 * 4 ^ i) e sh hd (by omega) hh (by omega) (by omega) (by omega) (by omega) (by omega) (Or.inl (by omega)) (gI_first hB (by omega)))
      · rw [Int64.le_iff_toInt_le, zK, hh] at hk
        have hl := L_shl2 (x := hd) (by omega) (by omega)
        obtain ⟨y, hy⟩ : ∃ y : Int64, hd <<< ((nI 2).toInt64 &&& 63) = y := ⟨_, rfl⟩
        obtain ⟨sh1, hsh1⟩ : ∃ sh1 : Int32, sh + Int32.ofInt (-2) = sh1 := ⟨_, rfl⟩
        rw [hy, hh] at hl
        have e4 : h0 * 4 ^ (i + 1) = h0 * 4 ^ i * 4 := by rw [Nat.pow_succ, Nat.mul_assoc]
        have zm : (Int32.ofInt (-2)).toInt = -2 := by decide
        have e5 : sh1.toInt = sh.toInt - 2 := by rw [← hsh1, I_add (by rw [zm]; omega) (by rw [zm]; omega), zm]; omega
        have t1 : y.toInt = (h0 * 4 ^ (i + 1) : Nat) := by rw [e4, hl]; omega
        have t2 : h0 * 4 ^ (i + 1) < 4611686018427387904 := by rw [e4]; omega
        refine g_lload_n (pc := 71) 2 dX2_guessRoot_71 rfl rfl ?_
        refine g_iconst (pc := 72) (v := nI 2) dX2_guessRoot_72 (by decide) ?_
        refine g_lshl (pc := 73) dX2_guessRoot_73 ?_
        refine GP.tl y hy ?_
        refine g_lstore_n (pc := 74) [(2, .long y), (6, .int (nI i)), (5, .int sh), (0, .ref G), (1, .int (nI s)), (4, .int (nI c))] dX2_guessRoot_74 rfl (by decide) rfl ?_
        refine g_iinc (pc := 75) [(5, .int sh1), (2, .long y), (6, .int (nI i)), (0, .ref G), (1, .int (nI s)), (4, .int (nI c))] 2 dX2_guessRoot_75 rfl hsh1 (by decide) rfl ?_
        refine n_iinc (pc := 78) (c := 1) [(6, .int (nI (i + 1))), (5, .int sh1), (2, .long y), (0, .ref G), (1, .int (nI s)), (4, .int (nI c))] 2 dX2_guessRoot_78 rfl (by decide) (by decide) rfl ?_
        refine g_goto (pc := 81) 56 dX2_guessRoot_81 (by decide) ?_
        exact GP.lsub _ (by simp) (ih (i + 1) sh1 y (by omega) t1 t2 (by omega))
theorem gr_1 {w0 w : Wd} {G B E s n : Nat} {bb bl : Int32} {ds : Nat → Int64} (hE : E = 2000) (hs : s ≤ 7) (hg : w[G]? = some (oG G bb bl)) (hb : w[G + 18]? = some (oW (G + 18 + 1) n)) (hd : w[G + 18 + 1]? = some (aL 64 ds)) (hn : n ≤ 64) (hw : dgs ds n) (hv : vl ds n = B) : ∀ (c h : Nat) (hd : Int64), c ≤ n → hd.toInt = h → h < 4611686018427387904 → (h : Int) * 268435456 ^ c + vl ds c = B → BX2_guessRoot w0 (fun r w' => ∃ g : Nat, r = some (.int (nI g)) ∧ g ≤ 268435455 ∧ g ^ (2 ^ s) ≤ B ∧ w' = w) w 11 [(4, .int (nI c)), (2, .long hd), (0, .ref G), (1, .int (nI s))] [] := by
  intro c
  induction c with
  | zero =>
    intro h hd hc hh hh2 hB
    refine g_iload (pc := 11) 0 dX2_guessRoot_11 rfl ?_
    refine n_if_le (pc := 13) 46 dX2_guessRoot_13 (by decide) (by omega) (fun hb9 => ?_) (fun hb9 => ?_)
    · refine g_bipush (pc := 46) (v := nI 28) dX2_guessRoot_46 (by decide) ?_
      refine g_iload (pc := 48) 0 dX2_guessRoot_48 rfl ?_
      refine n_imul (pc := 50) dX2_guessRoot_50 ?_
      refine g_istore (pc := 51) [(5, .int (nI (28 * 0))), (4, .int (nI 0)), (2, .long hd), (0, .ref G), (1, .int (nI s))] dX2_guessRoot_51 (by decide) rfl ?_
      refine g_iconst (pc := 53) (v := nI 0) dX2_guessRoot_53 (by decide) ?_
      refine g_istore (pc := 54) [(6, .int (nI 0)), (5, .int (nI (28 * 0))), (4, .int (nI 0)), (2, .long hd), (0, .ref G), (1, .int (nI s))] dX2_guessRoot_54 (by decide) rfl ?_
      have hB9 : h * 268435456 ^ (0) ≤ B := by
        have h8 : 0 ≤ vl ds (0) := vl_nn (fun j hj => (hw j (by omega)).1)
        have h9 : ((h * 268435456 ^ (0) : Nat) : Int) = (h : Int) * 268435456 ^ (0) := by rw [Int.natCast_mul, Int.natCast_pow]; rfl
        omega
      refine GP.lsub _ (by simp) (gr_2 (G := G) (c := 0) (h0 := h) hE hs (by omega) hB9 (fun _ => rfl) 31 0 (nI (28 * (0))) hd (by omega) (by rw [Nat.pow_zero, Nat.mul_one]; exact hh) (by rw [Nat.pow_zero, Nat.mul_one]; exact hh2) (by rw [nI_toInt (by omega)]; omega))
    · exact absurd rfl hb9
  | succ c ih =>
    intro h hd9 hc hh hh2 hB
    have zK : (17179869184 : Int64).toInt = 17179869184 := by decide
    refine g_iload (pc := 11) 0 dX2_guessRoot_11 rfl ?_
    refine n_if_le (pc := 13) 46 dX2_guessRoot_13 (by decide) (by omega) (fun hb9 => ?_) (fun hb9 => ?_)
    · exact absurd hb9 (by omega)
    · refine g_lload_n (pc := 16) 1 dX2_guessRoot_16 rfl rfl ?_
      refine g_ldc2 (pc := 17) kc_X2_126 dX2_guessRoot_17 ?_
      refine g_lcmp_ge (pc := 20) 46 dX2_guessRoot_20 dX2_guessRoot_21 (by decide) (fun hk => ?_) (fun hk => ?_)
      · rw [Int64.le_iff_toInt_le, zK, hh] at hk
        refine g_bipush (pc := 46) (v := nI 28) dX2_guessRoot_46 (by decide) ?_
        refine g_iload (pc := 48) 0 dX2_guessRoot_48 rfl ?_
        refine n_imul (pc := 50) dX2_guessRoot_50 ?_
        refine g_istore (pc := 51) [(5, .int (nI (28 * (c + 1)))), (4, .int (nI (c + 1))), (2, .long hd9), (0, .ref G), (1, .int (nI s))] dX2_guessRoot_51 (by decide) rfl ?_
        refine g_iconst (pc := 53) (v := nI 0) dX2_guessRoot_53 (by decide) ?_
        refine g_istore (pc := 54) [(6, .int (nI 0)), (5, .int (nI (28 * (c + 1)))), (4, .int (nI (c + 1))), (2, .long hd9), (0, .ref G), (1, .int (nI s))] dX2_guessRoot_54 (by decide) rfl ?_
        have hB9 : h * 268435456 ^ (c + 1) ≤ B := by
          have h8 : 0 ≤ vl ds (c + 1) := vl_nn (fun j hj => (hw j (by omega)).1)
          have h9 : ((h * 268435456 ^ (c + 1) : Nat) : Int) = (h : Int) * 268435456 ^ (c + 1) := by rw [Int.natCast_mul, Int.natCast_pow]; rfl
          omega
        refine GP.lsub _ (by simp) (gr_2 (G := G) (c := c + 1) (h0 := h) hE hs (by omega) hB9 (fun g9 => absurd g9 (by omega)) 31 0 (nI (28 * (c + 1))) hd9 (by omega) (by rw [Nat.pow_zero, Nat.mul_one]; exact hh) (by rw [Nat.pow_zero, Nat.mul_one]; exact hh2) (by rw [nI_toInt (by omega)]; omega))
      · rw [Int64.le_iff_toInt_le, zK, hh] at hk
        have hdc := hw c (by omega)
        have hl := L_shl_or (x := hd9) (y := ds c) ⟨by omega, by omega⟩ hdc
        obtain ⟨y, hy⟩ : ∃ y : Int64, (hd9 <<< ((nI 28).toInt64 &&& 63)) ||| ds c = y := ⟨_, rfl⟩
        obtain ⟨dc, hdc2⟩ : ∃ dc : Nat, (ds c).toInt = dc := ⟨(ds c).toInt.toNat, by omega⟩
        rw [hy, hh, hdc2] at hl
        rw [hdc2] at hdc
        have t1 : y.toInt = (h * 268435456 + dc : Nat) := by rw [hl]; omega
        have t2 : h * 268435456 + dc < 4611686018427387904 := by omega
        have t3 : ((h * 268435456 + dc : Nat) : Int) * 268435456 ^ c + vl ds c = B := by
          rw [show vl ds (c + 1) = vl ds c + (ds c).toInt * 268435456 ^ c from rfl, hdc2, Int.pow_succ] at hB
          rw [← hB, show ((h * 268435456 + dc : Nat) : Int) = (h : Int) * 268435456 + dc by omega]
          generalize (268435456 : Int) ^ c = A
          grind
        obtain ⟨hq, hhq⟩ : ∃ hq : Nat, hq = h * 268435456 + dc := ⟨_, rfl⟩
        rw [← hhq] at t1 t2 t3
        refine n_idec (pc := 24) (c := 1) [(4, .int (nI ((c + 1) - 1))), (2, .long hd9), (0, .ref G), (1, .int (nI s))] 0 dX2_guessRoot_24 rfl (by decide) (by omega) (by decide) rfl ?_
        refine g_lload_n (pc := 27) 1 dX2_guessRoot_27 rfl rfl ?_
        refine g_bipush (pc := 28) (v := nI 28) dX2_guessRoot_28 (by decide) ?_
        refine g_lshl (pc := 30) dX2_guessRoot_30 ?_
        refine g_aload_n (pc := 31) 2 dX2_guessRoot_31 rfl rfl ?_
        refine g_get (pc := 32) dX2_guessRoot_32 fk_X2_29 hg rfl ?_
        refine g_get (pc := 35) dX2_guessRoot_35 fk_X2_128 hb rfl ?_
        refine g_iload (pc := 38) 0 dX2_guessRoot_38 rfl ?_
        refine g_lald (pc := 40) ((c + 1) - 1) dX2_guessRoot_40 hd (IXn (by omega) (by omega)) ?_
        refine g_lor (pc := 41) dX2_guessRoot_41 ?_
        refine GP.tl y hy ?_
        refine g_lstore_n (pc := 42) [(2, .long y), (4, .int (nI ((c + 1) - 1))), (0, .ref G), (1, .int (nI s))] dX2_guessRoot_42 rfl (by decide) rfl ?_
        refine g_goto (pc := 43) 11 dX2_guessRoot_43 (by decide) ?_
        exact GP.lsub _ (by simp) (ih hq y (by omega) t1 t2 t3)
theorem sp_guessRoot (w : Wd) {G B s : Nat} {bb bl : Int32} (hg : w[G]? = some (oG G bb bl)) (hV : whV w (G + 18) 64 (B : Int)) (hs : s ≤ 7) : EX2_guessRoot [.ref G, .int (nI s)] w (fun r w' => ∃ g : Nat, r = some (.int (nI g)) ∧ g ≤ 268435455 ∧ g ^ (2 ^ s) ≤ B ∧ w' = w) := by
  refine EP.of (plainFor_of_name (by decide)) [(0, .ref G), (1, .int (nI s))] rfl (Nat.le_of_ble_eq_true rfl) (fun r wf h => by obtain ⟨q, rfl, -⟩ := h; trivial) ?_
  show BX2_guessRoot w _ w 0 [(0, .ref G), (1, .int (nI s))] []
  obtain ⟨n, ds, hb, hd, hn, hw, hv⟩ := hV
  obtain ⟨E, hE⟩ : ∃ E : Nat, E = 2000 := ⟨_, rfl⟩
  refine g_lconst (pc := 0) (v := 0) dX2_guessRoot_0 (by decide) ?_
  refine g_lstore_n (pc := 1) [(2, .long 0), (0, .ref G), (1, .int (nI s))] dX2_guessRoot_1 rfl (by decide) rfl ?_
  refine g_aload_n (pc := 2) 1 dX2_guessRoot_2 rfl rfl ?_
  refine g_get (pc := 3) dX2_guessRoot_3 fk_X2_29 hg rfl ?_
  refine g_get (pc := 6) dX2_guessRoot_6 fk_X2_48 hb rfl ?_
  refine g_istore (pc := 9) [(4, .int (nI n)), (2, .long 0), (0, .ref G), (1, .int (nI s))] dX2_guessRoot_9 (by decide) rfl ?_
  refine GP.lsub _ (by simp) (gr_1 hE hs hg hb hd hn hw.1 hv n 0 0 (by omega) (by decide) (by omega) (by rw [hv]; simp))
