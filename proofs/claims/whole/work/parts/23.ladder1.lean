/-! Ladder: what fits into a long -/
def inL (x : Int) : Prop := -9223372036854775808 ≤ x ∧ x < 9223372036854775808
theorem pf_lem {a b : Int64} (h0 : a.toInt ≠ 0) (h1 : a.toInt ≠ -1) : a * b / a = b ↔ inL (a.toInt * b.toInt) := by
  have hd : (a * b / a).toInt = (a * b).toInt.tdiv a.toInt := L_div (fun h => h1 h.2)
  have ha1 := L_lo a
  have ha2 := L_hi a
  have hm : ∃ k : Int, (a * b).toInt = a.toInt * b.toInt - 18446744073709551616 * k := by
    rw [Int64.toInt_mul, Int.bmod_def]
    have h9 := Int.mul_ediv_add_emod (a.toInt * b.toInt) 18446744073709551616
    split
    · exact ⟨a.toInt * b.toInt / 18446744073709551616, by show _ % 18446744073709551616 = _; omega⟩
    · exact ⟨a.toInt * b.toInt / 18446744073709551616 + 1, by show _ % 18446744073709551616 - 18446744073709551616 = _; omega⟩
  obtain ⟨k, hk⟩ := hm
  have hlo := L_lo (a * b)
  have hhi := L_hi (a * b)
  constructor
  · intro h
    rw [h] at hd
    have e := Int.mul_tdiv_add_tmod (a * b).toInt a.toInt
    rw [← hd] at e
    have hr : ((a * b).toInt.tmod a.toInt).natAbs < a.toInt.natAbs := by
      rw [Int.natAbs_tmod]
      exact Nat.mod_lt _ (by omega)
    have hk0 : k = 0 := by omega
    subst hk0
    exact ⟨by omega, by omega⟩
  · intro h
    have e : (a * b).toInt = a.toInt * b.toInt := L_mul h.1 h.2
    apply Int64.toInt_inj.mp
    rw [hd, e, Int.mul_tdiv_cancel_left _ h0]
theorem L_neg_iff (x : Int64) : x.toBitVec.msb = decide (x.toInt < 0) := BitVec.msb_eq_toInt
theorem and_neg {x y : Int64} : (x &&& y).toInt < 0 ↔ x.toInt < 0 ∧ y.toInt < 0 := by
  have h := L_neg_iff (x &&& y)
  rw [Int64.toBitVec_and, BitVec.msb_and, L_neg_iff, L_neg_iff] at h
  by_cases h1 : x.toInt < 0 <;> by_cases h2 : y.toInt < 0 <;> by_cases h3 : (x &&& y).toInt < 0 <;> simp [h1, h2, h3] at h ⊢
theorem xor_neg {x y : Int64} : (x ^^^ y).toInt < 0 ↔ ¬ (x.toInt < 0 ↔ y.toInt < 0) := by
  have h := L_neg_iff (x ^^^ y)
  rw [Int64.toBitVec_xor, BitVec.msb_xor, L_neg_iff, L_neg_iff] at h
  by_cases h1 : x.toInt < 0 <;> by_cases h2 : y.toInt < 0 <;> by_cases h3 : (x ^^^ y).toInt < 0 <;> simp [h1, h2, h3] at h ⊢
theorem sf_lem (a b : Int64) : ((a ^^^ (a + b)) &&& (b ^^^ (a + b))) < 0 ↔ ¬ inL (a.toInt + b.toInt) := by
  rw [Int64.lt_iff_toInt_lt]
  show _ < (0 : Int) ↔ _
  rw [and_neg, xor_neg, xor_neg]
  have h1 := L_lo a
  have h2 := L_hi a
  have h3 := L_lo b
  have h4 := L_hi b
  have e : (a + b).toInt = (a.toInt + b.toInt).bmod (2 ^ 64) := Int64.toInt_add a b
  rw [Int.bmod_def] at e
  unfold inL
  split at e <;> omega
theorem df_lem (a b : Int64) : ((a ^^^ b) &&& (a ^^^ (a - b))) < 0 ↔ ¬ inL (a.toInt - b.toInt) := by
  rw [Int64.lt_iff_toInt_lt]
  show _ < (0 : Int) ↔ _
  rw [and_neg, xor_neg, xor_neg]
  have h1 := L_lo a
  have h2 := L_hi a
  have h3 := L_lo b
  have h4 := L_hi b
  have e : (a - b).toInt = (a.toInt - b.toInt).bmod (2 ^ 64) := Int64.toInt_sub a b
  rw [Int.bmod_def] at e
  unfold inL
  split at e <;> omega
abbrev BX4_productFits (w0 : Wd) (Post : Option Value → Wd → Prop) (w : Wd) (pc : Nat) (ls : List (Nat × Value)) (st : List Value) : Prop := GP "productFits" RX4 cX4_productFits 4 (some .boolean) 0 0 none w0 Post w pc ls st
abbrev EX4_productFits (As : List Value) (w : Wd) (Post : Option Value → Wd → Prop) : Prop := EP yX4_productFits cX4_productFits 4 (some .boolean) 0 As w Post
theorem sp_productFits (w : Wd) (a b : Int64) : EX4_productFits [.long a, .long b] w (fun r w' => (r = some (.int (nI 1)) ∧ inL (a.toInt * b.toInt) ∧ w' = w) ∨ (r = some (.int (nI 0)) ∧ ¬ inL (a.toInt * b.toInt) ∧ w' = w)) := by
  refine EP.of (plainFor_of_name (by decide)) [(0, .long a), (2, .long b)] rfl (Nat.le_of_ble_eq_true rfl) (fun r wf h => by rcases h with ⟨rfl, -⟩ | ⟨rfl, -⟩; exact Or.inr rfl; exact Or.inl rfl) ?_
  show BX4_productFits w _ w 0 [(0, .long a), (2, .long b)] []
  refine g_lload_n (pc := 0) 0 dX4_productFits_0 rfl rfl ?_
  refine g_lconst (pc := 1) (v := 0) dX4_productFits_1 (by decide) ?_
  refine g_lcmp_eq (pc := 2) 12 dX4_productFits_2 dX4_productFits_3 (by decide) (fun h1 => ?_) (fun h1 => ?_)
  · refine g_iconst (pc := 12) (v := nI 1) dX4_productFits_12 (by decide) ?_
    exact g_iret (pc := 13) dX4_productFits_13 (Or.inl ⟨rfl, by rw [h1]; exact ⟨by simp, by simp⟩, rfl⟩)
  · refine g_lload_n (pc := 6) 1 dX4_productFits_6 rfl rfl ?_
    refine g_lconst (pc := 7) (v := 0) dX4_productFits_7 (by decide) ?_
    refine g_lcmp_ne (pc := 8) 14 dX4_productFits_8 dX4_productFits_9 (by decide) (fun h2 => ?_) (fun h2 => ?_)
    · refine g_lload_n (pc := 14) 0 dX4_productFits_14 rfl rfl ?_
      refine g_ldc2 (pc := 15) kc_X4_77 dX4_productFits_15 ?_
      refine g_lcmp_ne (pc := 18) 36 dX4_productFits_18 dX4_productFits_19 (by decide) (fun h3 => ?_) (fun h3 => ?_)
      · refine g_lload_n (pc := 36) 0 dX4_productFits_36 rfl rfl ?_
        refine g_lload_n (pc := 37) 1 dX4_productFits_37 rfl rfl ?_
        refine g_lmul (pc := 38) dX4_productFits_38 ?_
        refine g_lload_n (pc := 39) 0 dX4_productFits_39 rfl rfl ?_
        refine g_ldiv (pc := 40) dX4_productFits_40 h1 ?_
        refine g_lload_n (pc := 41) 1 dX4_productFits_41 rfl rfl ?_
        refine g_lcmp_ne (pc := 42) 50 dX4_productFits_42 dX4_productFits_43 (by decide) (fun h4 => ?_) (fun h4 => ?_)
        · refine g_iconst (pc := 50) (v := nI 0) dX4_productFits_50 (by decide) ?_
          exact g_iret (pc := 51) dX4_productFits_51 (Or.inr ⟨rfl, fun g => h4 ((pf_lem (fun g => h1 (L0.mp g)) (fun g => h3 (Int64.toInt_inj.mp (g.trans (by decide))))).mpr g), rfl⟩)
        · refine g_iconst (pc := 46) (v := nI 1) dX4_productFits_46 (by decide) ?_
          refine g_goto (pc := 47) 51 dX4_productFits_47 (by decide) ?_
          exact g_iret (pc := 51) dX4_productFits_51 (Or.inl ⟨rfl, (pf_lem (fun g => h1 (L0.mp g)) (fun g => h3 (Int64.toInt_inj.mp (g.trans (by decide))))).mp (Classical.not_not.mp h4), rfl⟩)
      · have h3 := Classical.not_not.mp h3
        have e1 : a.toInt = -1 := by rw [h3]; decide
        have hb1 := L_lo b
        have hb2 := L_hi b
        refine g_lload_n (pc := 22) 1 dX4_productFits_22 rfl rfl ?_
        refine g_ldc2 (pc := 23) kc_X4_81 dX4_productFits_23 ?_
        refine g_lcmp_eq (pc := 26) 34 dX4_productFits_26 dX4_productFits_27 (by decide) (fun h5 => ?_) (fun h5 => ?_)
        · refine g_iconst (pc := 34) (v := nI 0) dX4_productFits_34 (by decide) ?_
          exact g_iret (pc := 35) dX4_productFits_35 (Or.inr ⟨rfl, fun g => by have e2 : b.toInt = -9223372036854775808 := by { rw [h5]; decide }; rw [e1, e2] at g; exact absurd g.2 (by decide), rfl⟩)
        · refine g_iconst (pc := 30) (v := nI 1) dX4_productFits_30 (by decide) ?_
          refine g_goto (pc := 31) 35 dX4_productFits_31 (by decide) ?_
          exact g_iret (pc := 35) dX4_productFits_35 (Or.inl ⟨rfl, by have e2 : b.toInt ≠ -9223372036854775808 := fun g => h5 (Int64.toInt_inj.mp (g.trans (by decide))); rw [e1]; exact ⟨by omega, by omega⟩, rfl⟩)
    · refine g_iconst (pc := 12) (v := nI 1) dX4_productFits_12 (by decide) ?_
      exact g_iret (pc := 13) dX4_productFits_13 (Or.inl ⟨rfl, by rw [Classical.not_not.mp h2]; exact ⟨by simp, by simp⟩, rfl⟩)
abbrev BX4_sumFits (w0 : Wd) (Post : Option Value → Wd → Prop) (w : Wd) (pc : Nat) (ls : List (Nat × Value)) (st : List Value) : Prop := GP "sumFits" RX4 cX4_sumFits 6 (some .boolean) 0 0 none w0 Post w pc ls st
abbrev EX4_sumFits (As : List Value) (w : Wd) (Post : Option Value → Wd → Prop) : Prop := EP yX4_sumFits cX4_sumFits 6 (some .boolean) 0 As w Post
theorem sp_sumFits (w : Wd) (a b : Int64) : EX4_sumFits [.long a, .long b] w (fun r w' => (r = some (.int (nI 1)) ∧ inL (a.toInt + b.toInt) ∧ w' = w) ∨ (r = some (.int (nI 0)) ∧ ¬ inL (a.toInt + b.toInt) ∧ w' = w)) := by
  refine EP.of (plainFor_of_name (by decide)) [(0, .long a), (2, .long b)] rfl (Nat.le_of_ble_eq_true rfl) (fun r wf h => by rcases h with ⟨rfl, -⟩ | ⟨rfl, -⟩; exact Or.inr rfl; exact Or.inl rfl) ?_
  show BX4_sumFits w _ w 0 [(0, .long a), (2, .long b)] []
  refine g_lload_n (pc := 0) 0 dX4_sumFits_0 rfl rfl ?_
  refine g_lload_n (pc := 1) 1 dX4_sumFits_1 rfl rfl ?_
  refine g_ladd (pc := 2) dX4_sumFits_2 ?_
  refine g_lstore (pc := 3) [(4, .long (a + b)), (0, .long a), (2, .long b)] dX4_sumFits_3 (by decide) rfl ?_
  refine g_lload_n (pc := 5) 1 dX4_sumFits_5 rfl rfl ?_
  refine g_lload (pc := 6) 0 dX4_sumFits_6 rfl ?_
  refine g_lxor (pc := 8) dX4_sumFits_8 ?_
  refine g_lload_n (pc := 9) 2 dX4_sumFits_9 rfl rfl ?_
  refine g_lload (pc := 10) 0 dX4_sumFits_10 rfl ?_
  refine g_lxor (pc := 12) dX4_sumFits_12 ?_
  refine g_land (pc := 13) dX4_sumFits_13 ?_
  refine g_lconst (pc := 14) (v := 0) dX4_sumFits_14 (by decide) ?_
  refine g_lcmp_lt (pc := 15) 23 dX4_sumFits_15 dX4_sumFits_16 (by decide) (fun h1 => ?_) (fun h1 => ?_)
  · refine g_iconst (pc := 23) (v := nI 0) dX4_sumFits_23 (by decide) ?_
    exact g_iret (pc := 24) dX4_sumFits_24 (Or.inr ⟨rfl, (sf_lem a b).mp h1, rfl⟩)
  · refine g_iconst (pc := 19) (v := nI 1) dX4_sumFits_19 (by decide) ?_
    refine g_goto (pc := 20) 24 dX4_sumFits_20 (by decide) ?_
    exact g_iret (pc := 24) dX4_sumFits_24 (Or.inl ⟨rfl, Classical.not_not.mp (fun g => h1 ((sf_lem a b).mpr g)), rfl⟩)
abbrev BX4_differenceFits (w0 : Wd) (Post : Option Value → Wd → Prop) (w : Wd) (pc : Nat) (ls : List (Nat × Value)) (st : List Value) : Prop := GP "differenceFits" RX4 cX4_differenceFits 6 (some .boolean) 0 0 none w0 Post w pc ls st
abbrev EX4_differenceFits (As : List Value) (w : Wd) (Post : Option Value → Wd → Prop) : Prop := EP yX4_differenceFits cX4_differenceFits 6 (some .boolean) 0 As w Post
theorem sp_differenceFits (w : Wd) (a b : Int64) : EX4_differenceFits [.long a, .long b] w (fun r w' => (r = some (.int (nI 1)) ∧ inL (a.toInt - b.toInt) ∧ w' = w) ∨ (r = some (.int (nI 0)) ∧ ¬ inL (a.toInt - b.toInt) ∧ w' = w)) := by
  refine EP.of (plainFor_of_name (by decide)) [(0, .long a), (2, .long b)] rfl (Nat.le_of_ble_eq_true rfl) (fun r wf h => by rcases h with ⟨rfl, -⟩ | ⟨rfl, -⟩; exact Or.inr rfl; exact Or.inl rfl) ?_
  show BX4_differenceFits w _ w 0 [(0, .long a), (2, .long b)] []
  refine g_lload_n (pc := 0) 0 dX4_differenceFits_0 rfl rfl ?_
  refine g_lload_n (pc := 1) 1 dX4_differenceFits_1 rfl rfl ?_
  refine g_lsub (pc := 2) dX4_differenceFits_2 ?_
  refine g_lstore (pc := 3) [(4, .long (a - b)), (0, .long a), (2, .long b)] dX4_differenceFits_3 (by decide) rfl ?_
  refine g_lload_n (pc := 5) 1 dX4_differenceFits_5 rfl rfl ?_
  refine g_lload_n (pc := 6) 2 dX4_differenceFits_6 rfl rfl ?_
  refine g_lxor (pc := 7) dX4_differenceFits_7 ?_
  refine g_lload_n (pc := 8) 1 dX4_differenceFits_8 rfl rfl ?_
  refine g_lload (pc := 9) 0 dX4_differenceFits_9 rfl ?_
  refine g_lxor (pc := 11) dX4_differenceFits_11 ?_
  refine g_land (pc := 12) dX4_differenceFits_12 ?_
  refine g_lconst (pc := 13) (v := 0) dX4_differenceFits_13 (by decide) ?_
  refine g_lcmp_lt (pc := 14) 22 dX4_differenceFits_14 dX4_differenceFits_15 (by decide) (fun h1 => ?_) (fun h1 => ?_)
  · refine g_iconst (pc := 22) (v := nI 0) dX4_differenceFits_22 (by decide) ?_
    exact g_iret (pc := 23) dX4_differenceFits_23 (Or.inr ⟨rfl, (df_lem a b).mp h1, rfl⟩)
  · refine g_iconst (pc := 18) (v := nI 1) dX4_differenceFits_18 (by decide) ?_
    refine g_goto (pc := 19) 23 dX4_differenceFits_19 (by decide) ?_
    exact g_iret (pc := 23) dX4_differenceFits_23 (Or.inl ⟨rfl, Classical.not_not.mp (fun g => h1 ((df_lem a b).mpr g)), rfl⟩)
