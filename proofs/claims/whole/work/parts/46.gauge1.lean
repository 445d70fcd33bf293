/-! Gauge: squareRoot -/
theorem L_shr1 (x : Int64) : (x >>> ((nI 1).toInt64 &&& 63)).toInt = x.toInt / 2 := by
  have e1 : (nI 1).toInt64 &&& 63 = (1 : Int64) := by decide
  rw [e1]
  have e2 : (x >>> (1 : Int64)).toBitVec = x.toBitVec.sshiftRight 1 := rfl
  show (x >>> (1 : Int64)).toBitVec.toInt = x.toBitVec.toInt / 2
  rw [e2, BitVec.toInt_sshiftRight, Int.shiftRight_eq_div_pow]
  rfl
theorem isq_ex : ∀ n : Nat, ∃ r : Nat, r * r ≤ n ∧ n < (r + 1) * (r + 1)
  | 0 => ⟨0, by decide, by decide⟩
  | n + 1 => by
    obtain ⟨r, h1, h2⟩ := isq_ex n
    by_cases h : n + 1 < (r + 1) * (r + 1)
    · exact ⟨r, by omega, h⟩
    · refine ⟨r + 1, by omega, ?_⟩
      have e : (r + 1 + 1) * (r + 1 + 1) = (r + 1) * (r + 1) + 2 * (r + 1) + 1 := by grind
      omega
theorem nw_up {N r x : Int} (hr0 : 0 ≤ r) (h2 : N < (r + 1) * (r + 1)) (hx : r < x) (hN : 0 ≤ N) : N / x ≤ r := by
  have h3 : N / x < r + 1 := Int.ediv_lt_of_lt_mul (by omega) (by
    have : (r + 1) * (r + 1) ≤ (r + 1) * x := Int.mul_le_mul_of_nonneg_left (by omega) (by omega)
    omega)
  omega
theorem nw_dn {N r x : Int} (h1 : r * r ≤ N) (hx : 0 < x) (hxr : x ≤ r) : x ≤ N / x := by
  refine (Int.le_ediv_iff_mul_le hx).mpr ?_
  have a1 : x * x ≤ r * x := Int.mul_le_mul_of_nonneg_right hxr (by omega)
  have a2 : r * x ≤ r * r := Int.mul_le_mul_of_nonneg_left hxr (by omega)
  omega
theorem sq_nn (a : Int) : 0 ≤ a * a := by
  rcases Int.le_total 0 a with h | h
  · exact Int.mul_nonneg h h
  · have := Int.mul_nonneg (show 0 ≤ -a by omega) (show 0 ≤ -a by omega)
    rwa [Int.neg_mul_neg] at this
theorem sq_mono {r x : Int} (hx : 0 ≤ x) (hxr : x ≤ r) : x * x ≤ r * r := by
  have a1 : x * x ≤ r * x := Int.mul_le_mul_of_nonneg_right hxr (by omega)
  have a2 : r * x ≤ r * r := Int.mul_le_mul_of_nonneg_left hxr (by omega)
  omega
abbrev BX2_squareRoot (w0 : Wd) (Post : Option Value → Wd → Prop) (w : Wd) (pc : Nat) (ls : List (Nat × Value)) (st : List Value) : Prop := GP "squareRoot" RX2 cX2_squareRoot 7 (some .long) 0 0 none w0 Post w pc ls st
abbrev EX2_squareRoot (As : List Value) (w : Wd) (Post : Option Value → Wd → Prop) : Prop := EP yX2_squareRoot cX2_squareRoot 7 (some .long) 0 As w Post
theorem sr_loop {w0 w : Wd} {x : Int64} {R : Int} (hx0 : 0 ≤ x.toInt) (hx1 : x.toInt ≤ 4611686018427387904) (hR0 : 0 ≤ R) (hR1 : R * R ≤ x.toInt) (hR2 : x.toInt < (R + 1) * (R + 1)) : ∀ (k i : Nat) (t : Int64), 64 = i + k → 0 ≤ t.toInt → t.toInt ≤ 2147483648 → t.toInt - R < 2 ^ k → R ≤ t.toInt → BX2_squareRoot w0 (fun r w' => ∃ v : Int64, r = some (.long v) ∧ w' = w ∧ 0 ≤ v.toInt ∧ v.toInt * v.toInt ≤ x.toInt ∧ v.toInt ≤ 2147483648 ∧ x.toInt < (v.toInt + 1) * (v.toInt + 1)) w 7 [(4, .int (nI i)), (2, .long t), (0, .long x)] [] := by
  intro k
  induction k with
  | zero =>
    intro i t hi h0 h1 h2 hRt
    have h3 : t.toInt ≤ R := by rw [Int.pow_zero] at h2; omega
    refine g_iload (pc := 7) 0 dX2_squareRoot_7 rfl ?_
    refine g_bipush (pc := 9) (v := nI 64) dX2_squareRoot_9 (by decide) ?_
    refine n_icmp_ge (pc := 11) 51 dX2_squareRoot_11 (by decide) (by omega) (by omega) (fun hb => ?_) (fun hb => ?_)
    · refine g_lload_n (pc := 51) 1 dX2_squareRoot_51 rfl rfl ?_
      exact g_lret (pc := 52) dX2_squareRoot_52 ⟨t, rfl, rfl, h0, Int.le_trans (sq_mono h0 h3) hR1, h1, by rw [show t.toInt = R by omega]; exact hR2⟩
    · exact absurd hb (by omega)
  | succ k ih =>
    intro i t hi h0 h1 h2 hRt
    have hxh := L_hi x
    have z0 : (0 : Int64).toInt = 0 := by decide
    refine g_iload (pc := 7) 0 dX2_squareRoot_7 rfl ?_
    refine g_bipush (pc := 9) (v := nI 64) dX2_squareRoot_9 (by decide) ?_
    refine n_icmp_ge (pc := 11) 51 dX2_squareRoot_11 (by decide) (by omega) (by omega) (fun hb => ?_) (fun hb => ?_)
    · exact absurd hb (by omega)
    · refine g_lload_n (pc := 14) 1 dX2_squareRoot_14 rfl rfl ?_
      refine g_lconst (pc := 15) (v := 0) dX2_squareRoot_15 (by decide) ?_
      refine g_lcmp_gt (pc := 16) 24 dX2_squareRoot_16 dX2_squareRoot_17 (by decide) (fun hp => ?_) (fun hp => ?_)
      · rw [Int64.lt_iff_toInt_lt, z0] at hp
        have ht0 : t ≠ 0 := fun g9 => by rw [g9, z0] at hp; omega
        have ed : (x / t).toInt = x.toInt / t.toInt := by rw [L_div (by omega), Int.tdiv_eq_ediv_of_nonneg hx0]
        have d1 : 0 ≤ x.toInt / t.toInt := Int.ediv_nonneg hx0 (by omega)
        have d2 : x.toInt / t.toInt ≤ x.toInt := Int.ediv_le_self _ hx0
        have d3 : t.toInt ≤ R → t.toInt ≤ x.toInt / t.toInt := fun g9 => nw_dn hR1 hp g9
        have d4 : R < t.toInt → x.toInt / t.toInt ≤ R := fun g9 => nw_up hR0 hR2 g9 hx0
        have d5 : 2 * R - t.toInt ≤ x.toInt / t.toInt := (Int.le_ediv_iff_mul_le hp).mpr (by
          have q1 : 0 ≤ (t.toInt - R) * (t.toInt - R) := sq_nn _
          have q2 : (2 * R - t.toInt) * t.toInt = R * R - (t.toInt - R) * (t.toInt - R) := by grind
          omega)
        have es : (t + x / t).toInt = t.toInt + x.toInt / t.toInt := by rw [L_add (by rw [ed]; omega) (by rw [ed]; omega), ed]
        have eh : ((t + x / t) >>> ((nI 1).toInt64 &&& 63)).toInt = (t.toInt + x.toInt / t.toInt) / 2 := by rw [L_shr1, es]
        refine g_lload_n (pc := 24) 1 dX2_squareRoot_24 rfl rfl ?_
        refine g_lload_n (pc := 25) 2 dX2_squareRoot_25 rfl rfl ?_
        refine g_lload_n (pc := 26) 1 dX2_squareRoot_26 rfl rfl ?_
        refine g_ldiv (pc := 27) dX2_squareRoot_27 ht0 ?_
        refine g_ladd (pc := 28) dX2_squareRoot_28 ?_
        refine g_iconst (pc := 29) (v := nI 1) dX2_squareRoot_29 (by decide) ?_
        refine g_lshr (pc := 30) dX2_squareRoot_30 ?_
        refine g_lstore (pc := 31) [(5, .long ((t + (x / t)) >>> ((nI 1).toInt64 &&& 63))), (4, .int (nI i)), (2, .long t), (0, .long x)] dX2_squareRoot_31 (by decide) rfl ?_
        refine g_lload (pc := 33) 0 dX2_squareRoot_33 rfl ?_
        refine g_lload_n (pc := 35) 2 dX2_squareRoot_35 rfl rfl ?_
        refine g_lcmp_lt (pc := 36) 42 dX2_squareRoot_36 dX2_squareRoot_37 (by decide) (fun hn => ?_) (fun hn => ?_)
        · rw [Int64.lt_iff_toInt_lt, eh] at hn
          refine g_lload (pc := 42) 0 dX2_squareRoot_42 rfl ?_
          refine g_lstore_n (pc := 44) [(2, .long ((t + (x / t)) >>> ((nI 1).toInt64 &&& 63))), (5, .long ((t + (x / t)) >>> ((nI 1).toInt64 &&& 63))), (4, .int (nI i)), (0, .long x)] dX2_squareRoot_44 rfl (by decide) rfl ?_
          refine n_iinc (pc := 45) (c := 1) [(4, .int (nI (i + 1))), (2, .long ((t + (x / t)) >>> ((nI 1).toInt64 &&& 63))), (5, .long ((t + (x / t)) >>> ((nI 1).toInt64 &&& 63))), (0, .long x)] 2 dX2_squareRoot_45 rfl (by decide) (by decide) rfl ?_
          refine g_goto (pc := 48) 7 dX2_squareRoot_48 (by decide) ?_
          refine GP.lsub _ (by simp) (ih (i + 1) ((t + x / t) >>> ((nI 1).toInt64 &&& 63)) (by omega) (by rw [eh]; omega) (by rw [eh]; omega) ?_ (by rw [eh]; omega))
          rw [eh]
          rw [Int.pow_succ] at h2
          by_cases g9 : R < t.toInt
          · have := d4 g9; omega
          · have := d3 (by omega); omega
        · rw [Int64.lt_iff_toInt_lt, eh] at hn
          refine g_lload_n (pc := 40) 2 dX2_squareRoot_40 rfl rfl ?_
          exact g_lret (pc := 41) dX2_squareRoot_41 ⟨t, rfl, rfl, h0, Int.le_trans (sq_mono h0 (by by_cases g9 : R < t.toInt; · { have := d4 g9; omega }; · { omega })) hR1, h1, by rw [show t.toInt = R by (by_cases g9 : R < t.toInt; · { have := d4 g9; omega }; · { omega })]; exact hR2⟩
      · rw [Int64.lt_iff_toInt_lt, z0] at hp
        refine g_lload_n (pc := 20) 1 dX2_squareRoot_20 rfl rfl ?_
        refine g_goto (pc := 21) 31 dX2_squareRoot_21 (by decide) ?_
        refine g_lstore (pc := 31) [(5, .long t), (4, .int (nI i)), (2, .long t), (0, .long x)] dX2_squareRoot_31 (by decide) rfl ?_
        refine g_lload (pc := 33) 0 dX2_squareRoot_33 rfl ?_
        refine g_lload_n (pc := 35) 2 dX2_squareRoot_35 rfl rfl ?_
        refine g_lcmp_lt (pc := 36) 42 dX2_squareRoot_36 dX2_squareRoot_37 (by decide) (fun hn => ?_) (fun hn => ?_)
        · exact absurd (Int64.lt_iff_toInt_lt.mp hn) (Int.lt_irrefl _)
        · refine g_lload_n (pc := 40) 2 dX2_squareRoot_40 rfl rfl ?_
          exact g_lret (pc := 41) dX2_squareRoot_41 ⟨t, rfl, rfl, h0, by rw [show t.toInt = 0 by omega]; omega, h1, by rw [show t.toInt = R by omega]; exact hR2⟩
theorem sp_squareRoot (w : Wd) {x : Int64} (hx0 : 0 ≤ x.toInt) (hx1 : x.toInt ≤ 4611686018427387904) : EX2_squareRoot [.long x] w (fun r w' => ∃ v : Int64, r = some (.long v) ∧ w' = w ∧ 0 ≤ v.toInt ∧ v.toInt * v.toInt ≤ x.toInt ∧ v.toInt ≤ 2147483648 ∧ x.toInt < (v.toInt + 1) * (v.toInt + 1)) := by
  refine EP.of (plainFor_of_name (by decide)) [(0, .long x)] rfl (Nat.le_of_ble_eq_true rfl) (fun r wf h => by obtain ⟨v, rfl, -⟩ := h; trivial) ?_
  show BX2_squareRoot w _ w 0 [(0, .long x)] []
  obtain ⟨R, hR1, hR2⟩ := isq_ex x.toInt.toNat
  have e0 : (x.toInt.toNat : Int) = x.toInt := Int.toNat_of_nonneg hx0
  have k1 : (R : Int) * R ≤ x.toInt := by rw [← e0]; exact_mod_cast hR1
  have k2 : x.toInt < ((R : Int) + 1) * (R + 1) := by rw [← e0]; exact_mod_cast hR2
  have k3 : (2147483648 : Int64).toInt - (R : Int) < 2 ^ 64 := by rw [show (2147483648 : Int64).toInt = 2147483648 by decide]; omega
  have k4 : (R : Int) ≤ (2147483648 : Int64).toInt := by
    rw [show (2147483648 : Int64).toInt = 2147483648 by decide]
    rcases Int.lt_or_le 2147483648 (R : Int) with g9 | g9
    · exfalso
      have := imul_lt g9 g9 (by decide) (by decide)
      omega
    · exact g9
  refine g_ldc2 (pc := 0) kc_X2_143 dX2_squareRoot_0 ?_
  refine g_lstore_n (pc := 3) [(2, .long (2147483648)), (0, .long x)] dX2_squareRoot_3 rfl (by decide) rfl ?_
  refine g_iconst (pc := 4) (v := nI 0) dX2_squareRoot_4 (by decide) ?_
  refine g_istore (pc := 5) [(4, .int (nI 0)), (2, .long (2147483648)), (0, .long x)] dX2_squareRoot_5 (by decide) rfl ?_
  exact GP.lsub _ (by simp) (sr_loop (R := (R : Int)) hx0 hx1 (by omega) k1 k2 64 0 2147483648 (by omega) (by decide) (by decide) k3 k4)
