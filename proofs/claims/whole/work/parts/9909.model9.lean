/-! the reference: times, plus, minus with care -/
theorem L_addw (x y : Int64) : (x + y).toInt = x.toInt + y.toInt ∨ (9223372036854775808 ≤ x.toInt + y.toInt ∧ (x + y).toInt = x.toInt + y.toInt - 18446744073709551616) ∨ (x.toInt + y.toInt < -9223372036854775808 ∧ (x + y).toInt = x.toInt + y.toInt + 18446744073709551616) := by
  have h1 := L_lo x
  have h2 := L_hi x
  have h3 := L_lo y
  have h4 := L_hi y
  by_cases a : x.toInt + y.toInt < -9223372036854775808
  · right; right
    refine ⟨a, ?_⟩
    rw [Int64.toInt_add, Int.bmod_def]
    split <;> omega
  · by_cases b : x.toInt + y.toInt < 9223372036854775808
    · exact Or.inl (L_add (by omega) b)
    · right; left
      refine ⟨by omega, ?_⟩
      rw [Int64.toInt_add, Int.bmod_def]
      split <;> omega
theorem L_subw (x y : Int64) : (x - y).toInt = x.toInt - y.toInt ∨ (9223372036854775808 ≤ x.toInt - y.toInt ∧ (x - y).toInt = x.toInt - y.toInt - 18446744073709551616) ∨ (x.toInt - y.toInt < -9223372036854775808 ∧ (x - y).toInt = x.toInt - y.toInt + 18446744073709551616) := by
  have h1 := L_lo x
  have h2 := L_hi x
  have h3 := L_lo y
  have h4 := L_hi y
  by_cases a : x.toInt - y.toInt < -9223372036854775808
  · right; right
    refine ⟨a, ?_⟩
    rw [Int64.toInt_sub, Int.bmod_def]
    split <;> omega
  · by_cases b : x.toInt - y.toInt < 9223372036854775808
    · exact Or.inl (L_sub (by omega) b)
    · right; left
      refine ⟨by omega, ?_⟩
      rw [Int64.toInt_sub, Int.bmod_def]
      split <;> omega
theorem lt0 {x : Int64} : x < 0 ↔ x.toInt < 0 := by rw [Int64.lt_iff_toInt_lt]; exact Iff.rfl
theorem tm_m1 {a b : Int64} (ha : a.toInt = -1) (hb : b.toInt ≠ -9223372036854775808) : a * b / a = b := by
  have h1 := L_lo b
  have h2 := L_hi b
  have hm : (a * b).toInt = -b.toInt := by rw [L_mul (by rw [ha]; omega) (by rw [ha]; omega), ha]; omega
  apply Int64.toInt_inj.mp
  rw [L_div (by rw [hm]; omega), hm, ha]
  rw [Int.tdiv_neg, Int.tdiv_one]
  omega
theorem tm_in_ {a b : Int64} (h0 : a ≠ 0) (h : a * b / a = b) (h1 : a.toInt = -1 → b.toInt ≠ -9223372036854775808) : inL (a.toInt * b.toInt) := by
  have h09 : a.toInt ≠ 0 := fun g => h0 (L0.mp g)
  by_cases e : a.toInt = -1
  · have h2 := L_lo b
    have h3 := L_hi b
    have h4 := h1 e
    rw [e]
    unfold inL
    omega
  · exact (pf_lem h09 e).mp h
theorem tm_no {a b : Int64} (h0 : a ≠ 0) (h : a * b / a ≠ b) : ¬ inL (a.toInt * b.toInt) := by
  have h09 : a.toInt ≠ 0 := fun g => h0 (L0.mp g)
  by_cases e : a.toInt = -1
  · by_cases e2 : b.toInt = -9223372036854775808
    · rw [e, e2]
      unfold inL
      omega
    · exact absurd (tm_m1 e e2) h
  · exact fun g => h ((pf_lem h09 e).mpr g)
abbrev BX12_times (w0 : Wd) (Post : Option Value → Wd → Prop) (w : Wd) (pc : Nat) (ls : List (Nat × Value)) (st : List Value) : Prop := GP "times" RX12 cX12_times 8 (some .long) 0 0 none w0 Post w pc ls st
abbrev EX12_times (As : List Value) (w : Wd) (Post : Option Value → Wd → Prop) : Prop := EP yX12_times cX12_times 8 (some .long) 0 As w Post
theorem mp_times0 (w : Wd) {Y : Nat} {th st nu dg dd ld be ta fa re ig : Int32} (hY : w[Y]? = some (oM Y th st nu dg dd ld be (nI 0) ta fa re ig)) {a b : Int64} : EX12_times [.ref Y, .long a, .long b] w (fun r w' => (∃ v : Int64, inL (a.toInt * b.toInt) ∧ v.toInt = a.toInt * b.toInt ∧ r = some (.long v) ∧ w' = w.set Y (oM Y th st nu dg dd ld be (nI 0) ta fa re ig)) ∨ (∃ v : Int64, ¬ inL (a.toInt * b.toInt) ∧ r = some (.long v) ∧ w' = w.set Y (oM Y th st nu dg dd ld be (nI 1) ta fa re ig))) := by
  refine EP.of (plainFor_of_name (by decide)) [(0, .ref Y), (1, .long a), (3, .long b)] rfl (Nat.le_of_ble_eq_true rfl) (fun r wf h => by rcases h with ⟨v, -, -, rfl, -⟩ | ⟨v, -, rfl, -⟩ <;> trivial) ?_
  show BX12_times w _ w 0 [(0, .ref Y), (1, .long a), (3, .long b)] []
  refine g_lload_n (pc := 0) 1 dX12_times_0 rfl rfl ?_
  refine g_lload_n (pc := 1) 2 dX12_times_1 rfl rfl ?_
  refine g_lmul (pc := 2) dX12_times_2 ?_
  refine g_lstore (pc := 3) [(5, .long (a * b)), (0, .ref Y), (1, .long a), (3, .long b)] dX12_times_3 (by decide) rfl ?_
  refine g_lload_n (pc := 5) 2 dX12_times_5 rfl rfl ?_
  refine g_lconst (pc := 6) (v := 0) dX12_times_6 (by decide) ?_
  refine g_lcmp_eq (pc := 7) 40 dX12_times_7 dX12_times_8 (by decide) (fun h0 => ?_) (fun h0 => ?_)
  · refine g_iconst (pc := 40) (v := nI 0) dX12_times_40 (by decide) ?_
    refine g_istore (pc := 41) [(7, .int (nI 0)), (5, .long (a * b)), (0, .ref Y), (1, .long a), (3, .long b)] dX12_times_41 (by decide) rfl ?_
    refine g_aload_n (pc := 43) 2 dX12_times_43 rfl rfl ?_
    refine g_aload_n (pc := 44) 2 dX12_times_44 rfl rfl ?_
    refine g_get (pc := 45) dX12_times_45 fk_X12_179 hY rfl ?_
    refine n_if_ne (pc := 48) 56 dX12_times_48 (by decide) (by omega) (fun hx9 => ?_) (fun hx9 => ?_)
    · exact absurd hx9 (by decide)
    · refine g_iload (pc := 51) 0 dX12_times_51 rfl ?_
      refine n_if_eq (pc := 53) 60 dX12_times_53 (by decide) (by omega) (fun hx9 => ?_) (fun hx9 => ?_)
      · refine g_iconst (pc := 60) (v := nI 0) dX12_times_60 (by decide) ?_
        refine g_put (pc := 61) (.int th :: .int st :: .ref (Y + 1) :: .ref (Y + 2) :: .ref (Y + 3) :: .ref (Y + 4) :: .int nu :: .ref (Y + 5) :: .ref (Y + 6) :: .ref (Y + 7) :: .int dg :: .ref (Y + 8) :: .int dd :: .ref (Y + 9) :: .ref (Y + 10) :: .ref (Y + 11) :: .ref (Y + 12) :: .int ld :: .int be :: .int (nI 0) :: .ref (Y + 13) :: .ref (Y + 14) :: .ref (Y + 15) :: .ref (Y + 16) :: .ref (Y + 17) :: .int ta :: .int fa :: .int re :: .int ig :: .ref (Y + 18) :: .ref (Y + 19) :: .ref (Y + 20) :: .ref (Y + 21) :: []) dX12_times_61 fk_X12_179 hY (Nat.le_of_ble_eq_true rfl) rfl rfl ?_
        refine g_lload (pc := 64) 1 dX12_times_64 rfl ?_
        exact g_lret (pc := 66) dX12_times_66 (Or.inl ⟨_, (show inL (a.toInt * b.toInt) by rw [h0]; unfold inL; rw [L00]; omega), L_mul ((show inL (a.toInt * b.toInt) by rw [h0]; unfold inL; rw [L00]; omega)).1 ((show inL (a.toInt * b.toInt) by rw [h0]; unfold inL; rw [L00]; omega)).2, rfl, rfl⟩)
      · exact absurd hx9 (by decide)
  · refine g_lload (pc := 11) 0 dX12_times_11 rfl ?_
    refine g_lload_n (pc := 13) 2 dX12_times_13 rfl rfl ?_
    refine g_ldiv (pc := 14) dX12_times_14 h0 ?_
    refine g_lload_n (pc := 15) 3 dX12_times_15 rfl rfl ?_
    refine g_lcmp_ne (pc := 16) 36 dX12_times_16 dX12_times_17 (by decide) (fun h1 => ?_) (fun h1 => ?_)
    · refine g_iconst (pc := 36) (v := nI 1) dX12_times_36 (by decide) ?_
      refine g_goto (pc := 37) 41 dX12_times_37 (by decide) ?_
      refine g_istore (pc := 41) [(7, .int (nI 1)), (5, .long (a * b)), (0, .ref Y), (1, .long a), (3, .long b)] dX12_times_41 (by decide) rfl ?_
      refine g_aload_n (pc := 43) 2 dX12_times_43 rfl rfl ?_
      refine g_aload_n (pc := 44) 2 dX12_times_44 rfl rfl ?_
      refine g_get (pc := 45) dX12_times_45 fk_X12_179 hY rfl ?_
      refine n_if_ne (pc := 48) 56 dX12_times_48 (by decide) (by omega) (fun hx9 => ?_) (fun hx9 => ?_)
      · exact absurd hx9 (by decide)
      · refine g_iload (pc := 51) 0 dX12_times_51 rfl ?_
        refine n_if_eq (pc := 53) 60 dX12_times_53 (by decide) (by omega) (fun hx9 => ?_) (fun hx9 => ?_)
        · exact absurd hx9 (by decide)
        · refine g_iconst (pc := 56) (v := nI 1) dX12_times_56 (by decide) ?_
          refine g_goto (pc := 57) 61 dX12_times_57 (by decide) ?_
          refine g_put (pc := 61) (.int th :: .int st :: .ref (Y + 1) :: .ref (Y + 2) :: .ref (Y + 3) :: .ref (Y + 4) :: .int nu :: .ref (Y + 5) :: .ref (Y + 6) :: .ref (Y + 7) :: .int dg :: .ref (Y + 8) :: .int dd :: .ref (Y + 9) :: .ref (Y + 10) :: .ref (Y + 11) :: .ref (Y + 12) :: .int ld :: .int be :: .int (nI 1) :: .ref (Y + 13) :: .ref (Y + 14) :: .ref (Y + 15) :: .ref (Y + 16) :: .ref (Y + 17) :: .int ta :: .int fa :: .int re :: .int ig :: .ref (Y + 18) :: .ref (Y + 19) :: .ref (Y + 20) :: .ref (Y + 21) :: []) dX12_times_61 fk_X12_179 hY (Nat.le_of_ble_eq_true rfl) rfl rfl ?_
          refine g_lload (pc := 64) 1 dX12_times_64 rfl ?_
          exact g_lret (pc := 66) dX12_times_66 (Or.inr ⟨_, tm_no h0 h1, rfl, rfl⟩)
    · refine g_lload_n (pc := 20) 2 dX12_times_20 rfl rfl ?_
      refine g_ldc2 (pc := 21) kc_X12_155 dX12_times_21 ?_
      refine g_lcmp_ne (pc := 24) 40 dX12_times_24 dX12_times_25 (by decide) (fun h2 => ?_) (fun h2 => ?_)
      · refine g_iconst (pc := 40) (v := nI 0) dX12_times_40 (by decide) ?_
        refine g_istore (pc := 41) [(7, .int (nI 0)), (5, .long (a * b)), (0, .ref Y), (1, .long a), (3, .long b)] dX12_times_41 (by decide) rfl ?_
        refine g_aload_n (pc := 43) 2 dX12_times_43 rfl rfl ?_
        refine g_aload_n (pc := 44) 2 dX12_times_44 rfl rfl ?_
        refine g_get (pc := 45) dX12_times_45 fk_X12_179 hY rfl ?_
        refine n_if_ne (pc := 48) 56 dX12_times_48 (by decide) (by omega) (fun hx9 => ?_) (fun hx9 => ?_)
        · exact absurd hx9 (by decide)
        · refine g_iload (pc := 51) 0 dX12_times_51 rfl ?_
          refine n_if_eq (pc := 53) 60 dX12_times_53 (by decide) (by omega) (fun hx9 => ?_) (fun hx9 => ?_)
          · refine g_iconst (pc := 60) (v := nI 0) dX12_times_60 (by decide) ?_
            refine g_put (pc := 61) (.int th :: .int st :: .ref (Y + 1) :: .ref (Y + 2) :: .ref (Y + 3) :: .ref (Y + 4) :: .int nu :: .ref (Y + 5) :: .ref (Y + 6) :: .ref (Y + 7) :: .int dg :: .ref (Y + 8) :: .int dd :: .ref (Y + 9) :: .ref (Y + 10) :: .ref (Y + 11) :: .ref (Y + 12) :: .int ld :: .int be :: .int (nI 0) :: .ref (Y + 13) :: .ref (Y + 14) :: .ref (Y + 15) :: .ref (Y + 16) :: .ref (Y + 17) :: .int ta :: .int fa :: .int re :: .int ig :: .ref (Y + 18) :: .ref (Y + 19) :: .ref (Y + 20) :: .ref (Y + 21) :: []) dX12_times_61 fk_X12_179 hY (Nat.le_of_ble_eq_true rfl) rfl rfl ?_
            refine g_lload (pc := 64) 1 dX12_times_64 rfl ?_
            exact g_lret (pc := 66) dX12_times_66 (Or.inl ⟨_, (tm_in_ h0 (Decidable.not_not.mp h1) (fun g => absurd (Int64.toInt_inj.mp (g.trans (show (-1 : Int) = (-1 : Int64).toInt by decide))) h2)), L_mul ((tm_in_ h0 (Decidable.not_not.mp h1) (fun g => absurd (Int64.toInt_inj.mp (g.trans (show (-1 : Int) = (-1 : Int64).toInt by decide))) h2))).1 ((tm_in_ h0 (Decidable.not_not.mp h1) (fun g => absurd (Int64.toInt_inj.mp (g.trans (show (-1 : Int) = (-1 : Int64).toInt by decide))) h2))).2, rfl, rfl⟩)
          · exact absurd hx9 (by decide)
      · refine g_lload_n (pc := 28) 3 dX12_times_28 rfl rfl ?_
        refine g_ldc2 (pc := 29) kc_X12_177 dX12_times_29 ?_
        refine g_lcmp_ne (pc := 32) 40 dX12_times_32 dX12_times_33 (by decide) (fun h3 => ?_) (fun h3 => ?_)
        · refine g_iconst (pc := 40) (v := nI 0) dX12_times_40 (by decide) ?_
          refine g_istore (pc := 41) [(7, .int (nI 0)), (5, .long (a * b)), (0, .ref Y), (1, .long a), (3, .long b)] dX12_times_41 (by decide) rfl ?_
          refine g_aload_n (pc := 43) 2 dX12_times_43 rfl rfl ?_
          refine g_aload_n (pc := 44) 2 dX12_times_44 rfl rfl ?_
          refine g_get (pc := 45) dX12_times_45 fk_X12_179 hY rfl ?_
          refine n_if_ne (pc := 48) 56 dX12_times_48 (by decide) (by omega) (fun hx9 => ?_) (fun hx9 => ?_)
          · exact absurd hx9 (by decide)
          · refine g_iload (pc := 51) 0 dX12_times_51 rfl ?_
            refine n_if_eq (pc := 53) 60 dX12_times_53 (by decide) (by omega) (fun hx9 => ?_) (fun hx9 => ?_)
            · refine g_iconst (pc := 60) (v := nI 0) dX12_times_60 (by decide) ?_
              refine g_put (pc := 61) (.int th :: .int st :: .ref (Y + 1) :: .ref (Y + 2) :: .ref (Y + 3) :: .ref (Y + 4) :: .int nu :: .ref (Y + 5) :: .ref (Y + 6) :: .ref (Y + 7) :: .int dg :: .ref (Y + 8) :: .int dd :: .ref (Y + 9) :: .ref (Y + 10) :: .ref (Y + 11) :: .ref (Y + 12) :: .int ld :: .int be :: .int (nI 0) :: .ref (Y + 13) :: .ref (Y + 14) :: .ref (Y + 15) :: .ref (Y + 16) :: .ref (Y + 17) :: .int ta :: .int fa :: .int re :: .int ig :: .ref (Y + 18) :: .ref (Y + 19) :: .ref (Y + 20) :: .ref (Y + 21) :: []) dX12_times_61 fk_X12_179 hY (Nat.le_of_ble_eq_true rfl) rfl rfl ?_
              refine g_lload (pc := 64) 1 dX12_times_64 rfl ?_
              exact g_lret (pc := 66) dX12_times_66 (Or.inl ⟨_, (tm_in_ h0 (Decidable.not_not.mp h1) (fun _ g => absurd (Int64.toInt_inj.mp (g.trans (show (-9223372036854775808 : Int) = (-9223372036854775808 : Int64).toInt by decide))) h3)), L_mul ((tm_in_ h0 (Decidable.not_not.mp h1) (fun _ g => absurd (Int64.toInt_inj.mp (g.trans (show (-9223372036854775808 : Int) = (-9223372036854775808 : Int64).toInt by decide))) h3))).1 ((tm_in_ h0 (Decidable.not_not.mp h1) (fun _ g => absurd (Int64.toInt_inj.mp (g.trans (show (-9223372036854775808 : Int) = (-9223372036854775808 : Int64).toInt by decide))) h3))).2, rfl, rfl⟩)
            · exact absurd hx9 (by decide)
        · refine g_iconst (pc := 36) (v := nI 1) dX12_times_36 (by decide) ?_
          refine g_goto (pc := 37) 41 dX12_times_37 (by decide) ?_
          refine g_istore (pc := 41) [(7, .int (nI 1)), (5, .long (a * b)), (0, .ref Y), (1, .long a), (3, .long b)] dX12_times_41 (by decide) rfl ?_
          refine g_aload_n (pc := 43) 2 dX12_times_43 rfl rfl ?_
          refine g_aload_n (pc := 44) 2 dX12_times_44 rfl rfl ?_
          refine g_get (pc := 45) dX12_times_45 fk_X12_179 hY rfl ?_
          refine n_if_ne (pc := 48) 56 dX12_times_48 (by decide) (by omega) (fun hx9 => ?_) (fun hx9 => ?_)
          · exact absurd hx9 (by decide)
          · refine g_iload (pc := 51) 0 dX12_times_51 rfl ?_
            refine n_if_eq (pc := 53) 60 dX12_times_53 (by decide) (by omega) (fun hx9 => ?_) (fun hx9 => ?_)
            · exact absurd hx9 (by decide)
            · refine g_iconst (pc := 56) (v := nI 1) dX12_times_56 (by decide) ?_
              refine g_goto (pc := 57) 61 dX12_times_57 (by decide) ?_
              refine g_put (pc := 61) (.int th :: .int st :: .ref (Y + 1) :: .ref (Y + 2) :: .ref (Y + 3) :: .ref (Y + 4) :: .int nu :: .ref (Y + 5) :: .ref (Y + 6) :: .ref (Y + 7) :: .int dg :: .ref (Y + 8) :: .int dd :: .ref (Y + 9) :: .ref (Y + 10) :: .ref (Y + 11) :: .ref (Y + 12) :: .int ld :: .int be :: .int (nI 1) :: .ref (Y + 13) :: .ref (Y + 14) :: .ref (Y + 15) :: .ref (Y + 16) :: .ref (Y + 17) :: .int ta :: .int fa :: .int re :: .int ig :: .ref (Y + 18) :: .ref (Y + 19) :: .ref (Y + 20) :: .ref (Y + 21) :: []) dX12_times_61 fk_X12_179 hY (Nat.le_of_ble_eq_true rfl) rfl rfl ?_
              refine g_lload (pc := 64) 1 dX12_times_64 rfl ?_
              exact g_lret (pc := 66) dX12_times_66 (Or.inr ⟨_, (fun g => by rw [Decidable.not_not.mp h2, Decidable.not_not.mp h3] at g; revert g; unfold inL; decide), rfl, rfl⟩)
theorem mp_times1 (w : Wd) {Y : Nat} {th st nu dg dd ld be ta fa re ig : Int32} (hY : w[Y]? = some (oM Y th st nu dg dd ld be (nI 1) ta fa re ig)) {a b : Int64} : EX12_times [.ref Y, .long a, .long b] w (fun r w' => ∃ v : Int64, r = some (.long v) ∧ w' = w.set Y (oM Y th st nu dg dd ld be (nI 1) ta fa re ig)) := by
  refine EP.of (plainFor_of_name (by decide)) [(0, .ref Y), (1, .long a), (3, .long b)] rfl (Nat.le_of_ble_eq_true rfl) (fun r wf h => by obtain ⟨v, rfl, -⟩ := h; trivial) ?_
  show BX12_times w _ w 0 [(0, .ref Y), (1, .long a), (3, .long b)] []
  refine g_lload_n (pc := 0) 1 dX12_times_0 rfl rfl ?_
  refine g_lload_n (pc := 1) 2 dX12_times_1 rfl rfl ?_
  refine g_lmul (pc := 2) dX12_times_2 ?_
  refine g_lstore (pc := 3) [(5, .long (a * b)), (0, .ref Y), (1, .long a), (3, .long b)] dX12_times_3 (by decide) rfl ?_
  refine g_lload_n (pc := 5) 2 dX12_times_5 rfl rfl ?_
  refine g_lconst (pc := 6) (v := 0) dX12_times_6 (by decide) ?_
  refine g_lcmp_eq (pc := 7) 40 dX12_times_7 dX12_times_8 (by decide) (fun h0 => ?_) (fun h0 => ?_)
  · refine g_iconst (pc := 40) (v := nI 0) dX12_times_40 (by decide) ?_
    refine g_istore (pc := 41) [(7, .int (nI 0)), (5, .long (a * b)), (0, .ref Y), (1, .long a), (3, .long b)] dX12_times_41 (by decide) rfl ?_
    refine g_aload_n (pc := 43) 2 dX12_times_43 rfl rfl ?_
    refine g_aload_n (pc := 44) 2 dX12_times_44 rfl rfl ?_
    refine g_get (pc := 45) dX12_times_45 fk_X12_179 hY rfl ?_
    refine n_if_ne (pc := 48) 56 dX12_times_48 (by decide) (by omega) (fun hx9 => ?_) (fun hx9 => ?_)
    · refine g_iconst (pc := 56) (v := nI 1) dX12_times_56 (by decide) ?_
      refine g_goto (pc := 57) 61 dX12_times_57 (by decide) ?_
      refine g_put (pc := 61) (.int th :: .int st :: .ref (Y + 1) :: .ref (Y + 2) :: .ref (Y + 3) :: .ref (Y + 4) :: .int nu :: .ref (Y + 5) :: .ref (Y + 6) :: .ref (Y + 7) :: .int dg :: .ref (Y + 8) :: .int dd :: .ref (Y + 9) :: .ref (Y + 10) :: .ref (Y + 11) :: .ref (Y + 12) :: .int ld :: .int be :: .int (nI 1) :: .ref (Y + 13) :: .ref (Y + 14) :: .ref (Y + 15) :: .ref (Y + 16) :: .ref (Y + 17) :: .int ta :: .int fa :: .int re :: .int ig :: .ref (Y + 18) :: .ref (Y + 19) :: .ref (Y + 20) :: .ref (Y + 21) :: []) dX12_times_61 fk_X12_179 hY (Nat.le_of_ble_eq_true rfl) rfl rfl ?_
      refine g_lload (pc := 64) 1 dX12_times_64 rfl ?_
      exact g_lret (pc := 66) dX12_times_66 ⟨_, rfl, rfl⟩
    · exact absurd hx9 (by decide)
  · refine g_lload (pc := 11) 0 dX12_times_11 rfl ?_
    refine g_lload_n (pc := 13) 2 dX12_times_13 rfl rfl ?_
    refine g_ldiv (pc := 14) dX12_times_14 h0 ?_
    refine g_lload_n (pc := 15) 3 dX12_times_15 rfl rfl ?_
    refine g_lcmp_ne (pc := 16) 36 dX12_times_16 dX12_times_17 (by decide) (fun h1 => ?_) (fun h1 => ?_)
    · refine g_iconst (pc := 36) (v := nI 1) dX12_times_36 (by decide) ?_
      refine g_goto (pc := 37) 41 dX12_times_37 (by decide) ?_
      refine g_istore (pc := 41) [(7, .int (nI 1)), (5, .long (a * b)), (0, .ref Y), (1, .long a), (3, .long b)] dX12_times_41 (by decide) rfl ?_
      refine g_aload_n (pc := 43) 2 dX12_times_43 rfl rfl ?_
      refine g_aload_n (pc := 44) 2 dX12_times_44 rfl rfl ?_
      refine g_get (pc := 45) dX12_times_45 fk_X12_179 hY rfl ?_
      refine n_if_ne (pc := 48) 56 dX12_times_48 (by decide) (by omega) (fun hx9 => ?_) (fun hx9 => ?_)
      · refine g_iconst (pc := 56) (v := nI 1) dX12_times_56 (by decide) ?_
        refine g_goto (pc := 57) 61 dX12_times_57 (by decide) ?_
        refine g_put (pc := 61) (.int th :: .int st :: .ref (Y + 1) :: .ref (Y + 2) :: .ref (Y + 3) :: .ref (Y + 4) :: .int nu :: .ref (Y + 5) :: .ref (Y + 6) :: .ref (Y + 7) :: .int dg :: .ref (Y + 8) :: .int dd :: .ref (Y + 9) :: .ref (Y + 10) :: .ref (Y + 11) :: .ref (Y + 12) :: .int ld :: .int be :: .int (nI 1) :: .ref (Y + 13) :: .ref (Y + 14) :: .ref (Y + 15) :: .ref (Y + 16) :: .ref (Y + 17) :: .int ta :: .int fa :: .int re :: .int ig :: .ref (Y + 18) :: .ref (Y + 19) :: .ref (Y + 20) :: .ref (Y + 21) :: []) dX12_times_61 fk_X12_179 hY (Nat.le_of_ble_eq_true rfl) rfl rfl ?_
        refine g_lload (pc := 64) 1 dX12_times_64 rfl ?_
        exact g_lret (pc := 66) dX12_times_66 ⟨_, rfl, rfl⟩
      · exact absurd hx9 (by decide)
    · refine g_lload_n (pc := 20) 2 dX12_times_20 rfl rfl ?_
      refine g_ldc2 (pc := 21) kc_X12_155 dX12_times_21 ?_
      refine g_lcmp_ne (pc := 24) 40 dX12_times_24 dX12_times_25 (by decide) (fun h2 => ?_) (fun h2 => ?_)
      · refine g_iconst (pc := 40) (v := nI 0) dX12_times_40 (by decide) ?_
        refine g_istore (pc := 41) [(7, .int (nI 0)), (5, .long (a * b)), (0, .ref Y), (1, .long a), (3, .long b)] dX12_times_41 (by decide) rfl ?_
        refine g_aload_n (pc := 43) 2 dX12_times_43 rfl rfl ?_
        refine g_aload_n (pc := 44) 2 dX12_times_44 rfl rfl ?_
        refine g_get (pc := 45) dX12_times_45 fk_X12_179 hY rfl ?_
        refine n_if_ne (pc := 48) 56 dX12_times_48 (by decide) (by omega) (fun hx9 => ?_) (fun hx9 => ?_)
        · refine g_iconst (pc := 56) (v := nI 1) dX12_times_56 (by decide) ?_
          refine g_goto (pc := 57) 61 dX12_times_57 (by decide) ?_
          refine g_put (pc := 61) (.int th :: .int st :: .ref (Y + 1) :: .ref (Y + 2) :: .ref (Y + 3) :: .ref (Y + 4) :: .int nu :: .ref (Y + 5) :: .ref (Y + 6) :: .ref (Y + 7) :: .int dg :: .ref (Y + 8) :: .int dd :: .ref (Y + 9) :: .ref (Y + 10) :: .ref (Y + 11) :: .ref (Y + 12) :: .int ld :: .int be :: .int (nI 1) :: .ref (Y + 13) :: .ref (Y + 14) :: .ref (Y + 15) :: .ref (Y + 16) :: .ref (Y + 17) :: .int ta :: .int fa :: .int re :: .int ig :: .ref (Y + 18) :: .ref (Y + 19) :: .ref (Y + 20) :: .ref (Y + 21) :: []) dX12_times_61 fk_X12_179 hY (Nat.le_of_ble_eq_true rfl) rfl rfl ?_
          refine g_lload (pc := 64) 1 dX12_times_64 rfl ?_
          exact g_lret (pc := 66) dX12_times_66 ⟨_, rfl, rfl⟩
        · exact absurd hx9 (by decide)
      · refine g_lload_n (pc := 28) 3 dX12_times_28 rfl rfl ?_
        refine g_ldc2 (pc := 29) kc_X12_177 dX12_times_29 ?_
        refine g_lcmp_ne (pc := 32) 40 dX12_times_32 dX12_times_33 (by decide) (fun h3 => ?_) (fun h3 => ?_)
        · refine g_iconst (pc := 40) (v := nI 0) dX12_times_40 (by decide) ?_
          refine g_istore (pc := 41) [(7, .int (nI 0)), (5, .long (a * b)), (0, .ref Y), (1, .long a), (3, .long b)] dX12_times_41 (by decide) rfl ?_
          refine g_aload_n (pc := 43) 2 dX12_times_43 rfl rfl ?_
          refine g_aload_n (pc := 44) 2 dX12_times_44 rfl rfl ?_
          refine g_get (pc := 45) dX12_times_45 fk_X12_179 hY rfl ?_
          refine n_if_ne (pc := 48) 56 dX12_times_48 (by decide) (by omega) (fun hx9 => ?_) (fun hx9 => ?_)
          · refine g_iconst (pc := 56) (v := nI 1) dX12_times_56 (by decide) ?_
            refine g_goto (pc := 57) 61 dX12_times_57 (by decide) ?_
            refine g_put (pc := 61) (.int th :: .int st :: .ref (Y + 1) :: .ref (Y + 2) :: .ref (Y + 3) :: .ref (Y + 4) :: .int nu :: .ref (Y + 5) :: .ref (Y + 6) :: .ref (Y + 7) :: .int dg :: .ref (Y + 8) :: .int dd :: .ref (Y + 9) :: .ref (Y + 10) :: .ref (Y + 11) :: .ref (Y + 12) :: .int ld :: .int be :: .int (nI 1) :: .ref (Y + 13) :: .ref (Y + 14) :: .ref (Y + 15) :: .ref (Y + 16) :: .ref (Y + 17) :: .int ta :: .int fa :: .int re :: .int ig :: .ref (Y + 18) :: .ref (Y + 19) :: .ref (Y + 20) :: .ref (Y + 21) :: []) dX12_times_61 fk_X12_179 hY (Nat.le_of_ble_eq_true rfl) rfl rfl ?_
            refine g_lload (pc := 64) 1 dX12_times_64 rfl ?_
            exact g_lret (pc := 66) dX12_times_66 ⟨_, rfl, rfl⟩
          · exact absurd hx9 (by decide)
        · refine g_iconst (pc := 36) (v := nI 1) dX12_times_36 (by decide) ?_
          refine g_goto (pc := 37) 41 dX12_times_37 (by decide) ?_
          refine g_istore (pc := 41) [(7, .int (nI 1)), (5, .long (a * b)), (0, .ref Y), (1, .long a), (3, .long b)] dX12_times_41 (by decide) rfl ?_
          refine g_aload_n (pc := 43) 2 dX12_times_43 rfl rfl ?_
          refine g_aload_n (pc := 44) 2 dX12_times_44 rfl rfl ?_
          refine g_get (pc := 45) dX12_times_45 fk_X12_179 hY rfl ?_
          refine n_if_ne (pc := 48) 56 dX12_times_48 (by decide) (by omega) (fun hx9 => ?_) (fun hx9 => ?_)
          · refine g_iconst (pc := 56) (v := nI 1) dX12_times_56 (by decide) ?_
            refine g_goto (pc := 57) 61 dX12_times_57 (by decide) ?_
            refine g_put (pc := 61) (.int th :: .int st :: .ref (Y + 1) :: .ref (Y + 2) :: .ref (Y + 3) :: .ref (Y + 4) :: .int nu :: .ref (Y + 5) :: .ref (Y + 6) :: .ref (Y + 7) :: .int dg :: .ref (Y + 8) :: .int dd :: .ref (Y + 9) :: .ref (Y + 10) :: .ref (Y + 11) :: .ref (Y + 12) :: .int ld :: .int be :: .int (nI 1) :: .ref (Y + 13) :: .ref (Y + 14) :: .ref (Y + 15) :: .ref (Y + 16) :: .ref (Y + 17) :: .int ta :: .int fa :: .int re :: .int ig :: .ref (Y + 18) :: .ref (Y + 19) :: .ref (Y + 20) :: .ref (Y + 21) :: []) dX12_times_61 fk_X12_179 hY (Nat.le_of_ble_eq_true rfl) rfl rfl ?_
            refine g_lload (pc := 64) 1 dX12_times_64 rfl ?_
            exact g_lret (pc := 66) dX12_times_66 ⟨_, rfl, rfl⟩
          · exact absurd hx9 (by decide)
abbrev BX12_plus (w0 : Wd) (Post : Option Value → Wd → Prop) (w : Wd) (pc : Nat) (ls : List (Nat × Value)) (st : List Value) : Prop := GP "plus" RX12 cX12_plus 7 (some .long) 0 0 none w0 Post w pc ls st
abbrev EX12_plus (As : List Value) (w : Wd) (Post : Option Value → Wd → Prop) : Prop := EP yX12_plus cX12_plus 7 (some .long) 0 As w Post
theorem mp_plus0 (w : Wd) {Y : Nat} {th st nu dg dd ld be ta fa re ig : Int32} (hY : w[Y]? = some (oM Y th st nu dg dd ld be (nI 0) ta fa re ig)) {a b : Int64} : EX12_plus [.ref Y, .long a, .long b] w (fun r w' => (∃ v : Int64, inL (a.toInt + b.toInt) ∧ v.toInt = a.toInt + b.toInt ∧ r = some (.long v) ∧ w' = w.set Y (oM Y th st nu dg dd ld be (nI 0) ta fa re ig)) ∨ (∃ v : Int64, ¬ inL (a.toInt + b.toInt) ∧ r = some (.long v) ∧ w' = w.set Y (oM Y th st nu dg dd ld be (nI 1) ta fa re ig))) := by
  refine EP.of (plainFor_of_name (by decide)) [(0, .ref Y), (1, .long a), (3, .long b)] rfl (Nat.le_of_ble_eq_true rfl) (fun r wf h => by rcases h with ⟨v, -, -, rfl, -⟩ | ⟨v, -, rfl, -⟩ <;> trivial) ?_
  show BX12_plus w _ w 0 [(0, .ref Y), (1, .long a), (3, .long b)] []
  have hs := L_addw a b
  have h1 := L_lo a
  have h2 := L_hi a
  have h3 := L_lo b
  have h4 := L_hi b
  have h5 := L_lo (a + b)
  have h6 := L_hi (a + b)
  refine g_lload_n (pc := 0) 1 dX12_plus_0 rfl rfl ?_
  refine g_lload_n (pc := 1) 2 dX12_plus_1 rfl rfl ?_
  refine g_ladd (pc := 2) dX12_plus_2 ?_
  refine g_lstore (pc := 3) [(5, .long (a + b)), (0, .ref Y), (1, .long a), (3, .long b)] dX12_plus_3 (by decide) rfl ?_
  refine g_aload_n (pc := 5) 1 dX12_plus_5 rfl rfl ?_
  refine g_aload_n (pc := 6) 1 dX12_plus_6 rfl rfl ?_
  refine g_get (pc := 7) dX12_plus_7 fk_X12_179 hY rfl ?_
  refine n_if_ne (pc := 10) 64 dX12_plus_10 (by decide) (by omega) (fun hx9 => ?_) (fun hx9 => ?_)
  · exact absurd hx9 (by decide)
  · refine g_lload_n (pc := 13) 2 dX12_plus_13 rfl rfl ?_
    refine g_lconst (pc := 14) (v := 0) dX12_plus_14 (by decide) ?_
    refine g_lcmp_lt (pc := 15) 23 dX12_plus_15 dX12_plus_16 (by decide) (fun hc1 => ?_) (fun hc1 => ?_)
    · refine g_iconst (pc := 23) (v := nI 0) dX12_plus_23 (by decide) ?_
      refine g_lload_n (pc := 24) 3 dX12_plus_24 rfl rfl ?_
      refine g_lconst (pc := 25) (v := 0) dX12_plus_25 (by decide) ?_
      refine g_lcmp_lt (pc := 26) 34 dX12_plus_26 dX12_plus_27 (by decide) (fun hc2 => ?_) (fun hc2 => ?_)
      · refine g_iconst (pc := 34) (v := nI 0) dX12_plus_34 (by decide) ?_
        refine n_icmp_ne (pc := 35) 68 dX12_plus_35 (by decide) (by omega) (by omega) (fun hx9 => ?_) (fun hx9 => ?_)
        · exact absurd hx9 (by decide)
        · refine g_lload (pc := 38) 0 dX12_plus_38 rfl ?_
          refine g_lconst (pc := 40) (v := 0) dX12_plus_40 (by decide) ?_
          refine g_lcmp_lt (pc := 41) 49 dX12_plus_41 dX12_plus_42 (by decide) (fun hc3 => ?_) (fun hc3 => ?_)
          · refine g_iconst (pc := 49) (v := nI 0) dX12_plus_49 (by decide) ?_
            refine g_lload_n (pc := 50) 2 dX12_plus_50 rfl rfl ?_
            refine g_lconst (pc := 51) (v := 0) dX12_plus_51 (by decide) ?_
            refine g_lcmp_lt (pc := 52) 60 dX12_plus_52 dX12_plus_53 (by decide) (fun hx9 => ?_) (fun hx9 => ?_)
            · refine g_iconst (pc := 60) (v := nI 0) dX12_plus_60 (by decide) ?_
              refine n_icmp_eq (pc := 61) 68 dX12_plus_61 (by decide) (by omega) (by omega) (fun hx9 => ?_) (fun hx9 => ?_)
              · refine g_iconst (pc := 68) (v := nI 0) dX12_plus_68 (by decide) ?_
                refine g_put (pc := 69) (.int th :: .int st :: .ref (Y + 1) :: .ref (Y + 2) :: .ref (Y + 3) :: .ref (Y + 4) :: .int nu :: .ref (Y + 5) :: .ref (Y + 6) :: .ref (Y + 7) :: .int dg :: .ref (Y + 8) :: .int dd :: .ref (Y + 9) :: .ref (Y + 10) :: .ref (Y + 11) :: .ref (Y + 12) :: .int ld :: .int be :: .int (nI 0) :: .ref (Y + 13) :: .ref (Y + 14) :: .ref (Y + 15) :: .ref (Y + 16) :: .ref (Y + 17) :: .int ta :: .int fa :: .int re :: .int ig :: .ref (Y + 18) :: .ref (Y + 19) :: .ref (Y + 20) :: .ref (Y + 21) :: []) dX12_plus_69 fk_X12_179 hY (Nat.le_of_ble_eq_true rfl) rfl rfl ?_
                refine g_lload (pc := 72) 0 dX12_plus_72 rfl ?_
                rw [lt0] at hc1
                rw [lt0] at hc2
                rw [lt0] at hc3
                exact g_lret (pc := 74) dX12_plus_74 (Or.inl ⟨_, (show inL (a.toInt + b.toInt) by unfold inL; omega), by omega, rfl, rfl⟩)
              · exact absurd hx9 (by decide)
            · exact absurd hc1 hx9
          · refine g_iconst (pc := 45) (v := nI 1) dX12_plus_45 (by decide) ?_
            refine g_goto (pc := 46) 50 dX12_plus_46 (by decide) ?_
            refine g_lload_n (pc := 50) 2 dX12_plus_50 rfl rfl ?_
            refine g_lconst (pc := 51) (v := 0) dX12_plus_51 (by decide) ?_
            refine g_lcmp_lt (pc := 52) 60 dX12_plus_52 dX12_plus_53 (by decide) (fun hx9 => ?_) (fun hx9 => ?_)
            · refine g_iconst (pc := 60) (v := nI 0) dX12_plus_60 (by decide) ?_
              refine n_icmp_eq (pc := 61) 68 dX12_plus_61 (by decide) (by omega) (by omega) (fun hx9 => ?_) (fun hx9 => ?_)
              · exact absurd hx9 (by decide)
              · refine g_iconst (pc := 64) (v := nI 1) dX12_plus_64 (by decide) ?_
                refine g_goto (pc := 65) 69 dX12_plus_65 (by decide) ?_
                refine g_put (pc := 69) (.int th :: .int st :: .ref (Y + 1) :: .ref (Y + 2) :: .ref (Y + 3) :: .ref (Y + 4) :: .int nu :: .ref (Y + 5) :: .ref (Y + 6) :: .ref (Y + 7) :: .int dg :: .ref (Y + 8) :: .int dd :: .ref (Y + 9) :: .ref (Y + 10) :: .ref (Y + 11) :: .ref (Y + 12) :: .int ld :: .int be :: .int (nI 1) :: .ref (Y + 13) :: .ref (Y + 14) :: .ref (Y + 15) :: .ref (Y + 16) :: .ref (Y + 17) :: .int ta :: .int fa :: .int re :: .int ig :: .ref (Y + 18) :: .ref (Y + 19) :: .ref (Y + 20) :: .ref (Y + 21) :: []) dX12_plus_69 fk_X12_179 hY (Nat.le_of_ble_eq_true rfl) rfl rfl ?_
                refine g_lload (pc := 72) 0 dX12_plus_72 rfl ?_
                rw [lt0] at hc1
                rw [lt0] at hc2
                rw [lt0] at hc3
                exact g_lret (pc := 74) dX12_plus_74 (Or.inr ⟨_, (show ¬ inL (a.toInt + b.toInt) by unfold inL; omega), rfl, rfl⟩)
            · exact absurd hc1 hx9
      · refine g_iconst (pc := 30) (v := nI 1) dX12_plus_30 (by decide) ?_
        refine g_goto (pc := 31) 35 dX12_plus_31 (by decide) ?_
        refine n_icmp_ne (pc := 35) 68 dX12_plus_35 (by decide) (by omega) (by omega) (fun hx9 => ?_) (fun hx9 => ?_)
        · refine g_iconst (pc := 68) (v := nI 0) dX12_plus_68 (by decide) ?_
          refine g_put (pc := 69) (.int th :: .int st :: .ref (Y + 1) :: .ref (Y + 2) :: .ref (Y + 3) :: .ref (Y + 4) :: .int nu :: .ref (Y + 5) :: .ref (Y + 6) :: .ref (Y + 7) :: .int dg :: .ref (Y + 8) :: .int dd :: .ref (Y + 9) :: .ref (Y + 10) :: .ref (Y + 11) :: .ref (Y + 12) :: .int ld :: .int be :: .int (nI 0) :: .ref (Y + 13) :: .ref (Y + 14) :: .ref (Y + 15) :: .ref (Y + 16) :: .ref (Y + 17) :: .int ta :: .int fa :: .int re :: .int ig :: .ref (Y + 18) :: .ref (Y + 19) :: .ref (Y + 20) :: .ref (Y + 21) :: []) dX12_plus_69 fk_X12_179 hY (Nat.le_of_ble_eq_true rfl) rfl rfl ?_
          refine g_lload (pc := 72) 0 dX12_plus_72 rfl ?_
          rw [lt0] at hc1
          rw [lt0] at hc2
          exact g_lret (pc := 74) dX12_plus_74 (Or.inl ⟨_, (show inL (a.toInt + b.toInt) by unfold inL; omega), by omega, rfl, rfl⟩)
        · exact absurd hx9 (by decide)
    · refine g_iconst (pc := 19) (v := nI 1) dX12_plus_19 (by decide) ?_
      refine g_goto (pc := 20) 24 dX12_plus_20 (by decide) ?_
      refine g_lload_n (pc := 24) 3 dX12_plus_24 rfl rfl ?_
      refine g_lconst (pc := 25) (v := 0) dX12_plus_25 (by decide) ?_
      refine g_lcmp_lt (pc := 26) 34 dX12_plus_26 dX12_plus_27 (by decide) (fun hc4 => ?_) (fun hc4 => ?_)
      · refine g_iconst (pc := 34) (v := nI 0) dX12_plus_34 (by decide) ?_
        refine n_icmp_ne (pc := 35) 68 dX12_plus_35 (by decide) (by omega) (by omega) (fun hx9 => ?_) (fun hx9 => ?_)
        · refine g_iconst (pc := 68) (v := nI 0) dX12_plus_68 (by decide) ?_
          refine g_put (pc := 69) (.int th :: .int st :: .ref (Y + 1) :: .ref (Y + 2) :: .ref (Y + 3) :: .ref (Y + 4) :: .int nu :: .ref (Y + 5) :: .ref (Y + 6) :: .ref (Y + 7) :: .int dg :: .ref (Y + 8) :: .int dd :: .ref (Y + 9) :: .ref (Y + 10) :: .ref (Y + 11) :: .ref (Y + 12) :: .int ld :: .int be :: .int (nI 0) :: .ref (Y + 13) :: .ref (Y + 14) :: .ref (Y + 15) :: .ref (Y + 16) :: .ref (Y + 17) :: .int ta :: .int fa :: .int re :: .int ig :: .ref (Y + 18) :: .ref (Y + 19) :: .ref (Y + 20) :: .ref (Y + 21) :: []) dX12_plus_69 fk_X12_179 hY (Nat.le_of_ble_eq_true rfl) rfl rfl ?_
          refine g_lload (pc := 72) 0 dX12_plus_72 rfl ?_
          rw [lt0] at hc1
          rw [lt0] at hc4
          exact g_lret (pc := 74) dX12_plus_74 (Or.inl ⟨_, (show inL (a.toInt + b.toInt) by unfold inL; omega), by omega, rfl, rfl⟩)
        · exact absurd hx9 (by decide)
      · refine g_iconst (pc := 30) (v := nI 1) dX12_plus_30 (by decide) ?_
        refine g_goto (pc := 31) 35 dX12_plus_31 (by decide) ?_
        refine n_icmp_ne (pc := 35) 68 dX12_plus_35 (by decide) (by omega) (by omega) (fun hx9 => ?_) (fun hx9 => ?_)
        · exact absurd hx9 (by decide)
        · refine g_lload (pc := 38) 0 dX12_plus_38 rfl ?_
          refine g_lconst (pc := 40) (v := 0) dX12_plus_40 (by decide) ?_
          refine g_lcmp_lt (pc := 41) 49 dX12_plus_41 dX12_plus_42 (by decide) (fun hc5 => ?_) (fun hc5 => ?_)
          · refine g_iconst (pc := 49) (v := nI 0) dX12_plus_49 (by decide) ?_
            refine g_lload_n (pc := 50) 2 dX12_plus_50 rfl rfl ?_
            refine g_lconst (pc := 51) (v := 0) dX12_plus_51 (by decide) ?_
            refine g_lcmp_lt (pc := 52) 60 dX12_plus_52 dX12_plus_53 (by decide) (fun hx9 => ?_) (fun hx9 => ?_)
            · exact absurd hx9 hc1
            · refine g_iconst (pc := 56) (v := nI 1) dX12_plus_56 (by decide) ?_
              refine g_goto (pc := 57) 61 dX12_plus_57 (by decide) ?_
              refine n_icmp_eq (pc := 61) 68 dX12_plus_61 (by decide) (by omega) (by omega) (fun hx9 => ?_) (fun hx9 => ?_)
              · exact absurd hx9 (by decide)
              · refine g_iconst (pc := 64) (v := nI 1) dX12_plus_64 (by decide) ?_
                refine g_goto (pc := 65) 69 dX12_plus_65 (by decide) ?_
                refine g_put (pc := 69) (.int th :: .int st :: .ref (Y + 1) :: .ref (Y + 2) :: .ref (Y + 3) :: .ref (Y + 4) :: .int nu :: .ref (Y + 5) :: .ref (Y + 6) :: .ref (Y + 7) :: .int dg :: .ref (Y + 8) :: .int dd :: .ref (Y + 9) :: .ref (Y + 10) :: .ref (Y + 11) :: .ref (Y + 12) :: .int ld :: .int be :: .int (nI 1) :: .ref (Y + 13) :: .ref (Y + 14) :: .ref (Y + 15) :: .ref (Y + 16) :: .ref (Y + 17) :: .int ta :: .int fa :: .int re :: .int ig :: .ref (Y + 18) :: .ref (Y + 19) :: .ref (Y + 20) :: .ref (Y + 21) :: []) dX12_plus_69 fk_X12_179 hY (Nat.le_of_ble_eq_true rfl) rfl rfl ?_
                refine g_lload (pc := 72) 0 dX12_plus_72 rfl ?_
                rw [lt0] at hc1
                rw [lt0] at hc4
                rw [lt0] at hc5
                exact g_lret (pc := 74) dX12_plus_74 (Or.inr ⟨_, (show ¬ inL (a.toInt + b.toInt) by unfold inL; omega), rfl, rfl⟩)
          · refine g_iconst (pc := 45) (v := nI 1) dX12_plus_45 (by decide) ?_
            refine g_goto (pc := 46) 50 dX12_plus_46 (by decide) ?_
            refine g_lload_n (pc := 50) 2 dX12_plus_50 rfl rfl ?_
            refine g_lconst (pc := 51) (v := 0) dX12_plus_51 (by decide) ?_
            refine g_lcmp_lt (pc := 52) 60 dX12_plus_52 dX12_plus_53 (by decide) (fun hx9 => ?_) (fun hx9 => ?_)
            · exact absurd hx9 hc1
            · refine g_iconst (pc := 56) (v := nI 1) dX12_plus_56 (by decide) ?_
              refine g_goto (pc := 57) 61 dX12_plus_57 (by decide) ?_
              refine n_icmp_eq (pc := 61) 68 dX12_plus_61 (by decide) (by omega) (by omega) (fun hx9 => ?_) (fun hx9 => ?_)
              · refine g_iconst (pc := 68) (v := nI 0) dX12_plus_68 (by decide) ?_
                refine g_put (pc := 69) (.int th :: .int st :: .ref (Y + 1) :: .ref (Y + 2) :: .ref (Y + 3) :: .ref (Y + 4) :: .int nu :: .ref (Y + 5) :: .ref (Y + 6) :: .ref (Y + 7) :: .int dg :: .ref (Y + 8) :: .int dd :: .ref (Y + 9) :: .ref (Y + 10) :: .ref (Y + 11) :: .ref (Y + 12) :: .int ld :: .int be :: .int (nI 0) :: .ref (Y + 13) :: .ref (Y + 14) :: .ref (Y + 15) :: .ref (Y + 16) :: .ref (Y + 17) :: .int ta :: .int fa :: .int re :: .int ig :: .ref (Y + 18) :: .ref (Y + 19) :: .ref (Y + 20) :: .ref (Y + 21) :: []) dX12_plus_69 fk_X12_179 hY (Nat.le_of_ble_eq_true rfl) rfl rfl ?_
                refine g_lload (pc := 72) 0 dX12_plus_72 rfl ?_
                rw [lt0] at hc1
                rw [lt0] at hc4
                rw [lt0] at hc5
                exact g_lret (pc := 74) dX12_plus_74 (Or.inl ⟨_, (show inL (a.toInt + b.toInt) by unfold inL; omega), by omega, rfl, rfl⟩)
              · exact absurd hx9 (by decide)
theorem mp_plus1 (w : Wd) {Y : Nat} {th st nu dg dd ld be ta fa re ig : Int32} (hY : w[Y]? = some (oM Y th st nu dg dd ld be (nI 1) ta fa re ig)) {a b : Int64} : EX12_plus [.ref Y, .long a, .long b] w (fun r w' => ∃ v : Int64, r = some (.long v) ∧ w' = w.set Y (oM Y th st nu dg dd ld be (nI 1) ta fa re ig)) := by
  refine EP.of (plainFor_of_name (by decide)) [(0, .ref Y), (1, .long a), (3, .long b)] rfl (Nat.le_of_ble_eq_true rfl) (fun r wf h => by obtain ⟨v, rfl, -⟩ := h; trivial) ?_
  show BX12_plus w _ w 0 [(0, .ref Y), (1, .long a), (3, .long b)] []
  have hs := L_addw a b
  have h1 := L_lo a
  have h2 := L_hi a
  have h3 := L_lo b
  have h4 := L_hi b
  have h5 := L_lo (a + b)
  have h6 := L_hi (a + b)
  refine g_lload_n (pc := 0) 1 dX12_plus_0 rfl rfl ?_
  refine g_lload_n (pc := 1) 2 dX12_plus_1 rfl rfl ?_
  refine g_ladd (pc := 2) dX12_plus_2 ?_
  refine g_lstore (pc := 3) [(5, .long (a + b)), (0, .ref Y), (1, .long a), (3, .long b)] dX12_plus_3 (by decide) rfl ?_
  refine g_aload_n (pc := 5) 1 dX12_plus_5 rfl rfl ?_
  refine g_aload_n (pc := 6) 1 dX12_plus_6 rfl rfl ?_
  refine g_get (pc := 7) dX12_plus_7 fk_X12_179 hY rfl ?_
  refine n_if_ne (pc := 10) 64 dX12_plus_10 (by decide) (by omega) (fun hx9 => ?_) (fun hx9 => ?_)
  · refine g_iconst (pc := 64) (v := nI 1) dX12_plus_64 (by decide) ?_
    refine g_goto (pc := 65) 69 dX12_plus_65 (by decide) ?_
    refine g_put (pc := 69) (.int th :: .int st :: .ref (Y + 1) :: .ref (Y + 2) :: .ref (Y + 3) :: .ref (Y + 4) :: .int nu :: .ref (Y + 5) :: .ref (Y + 6) :: .ref (Y + 7) :: .int dg :: .ref (Y + 8) :: .int dd :: .ref (Y + 9) :: .ref (Y + 10) :: .ref (Y + 11) :: .ref (Y + 12) :: .int ld :: .int be :: .int (nI 1) :: .ref (Y + 13) :: .ref (Y + 14) :: .ref (Y + 15) :: .ref (Y + 16) :: .ref (Y + 17) :: .int ta :: .int fa :: .int re :: .int ig :: .ref (Y + 18) :: .ref (Y + 19) :: .ref (Y + 20) :: .ref (Y + 21) :: []) dX12_plus_69 fk_X12_179 hY (Nat.le_of_ble_eq_true rfl) rfl rfl ?_
    refine g_lload (pc := 72) 0 dX12_plus_72 rfl ?_
    exact g_lret (pc := 74) dX12_plus_74 ⟨_, rfl, rfl⟩
  · exact absurd hx9 (by decide)
abbrev BX12_minus (w0 : Wd) (Post : Option Value → Wd → Prop) (w : Wd) (pc : Nat) (ls : List (Nat × Value)) (st : List Value) : Prop := GP "minus" RX12 cX12_minus 7 (some .long) 0 0 none w0 Post w pc ls st
abbrev EX12_minus (As : List Value) (w : Wd) (Post : Option Value → Wd → Prop) : Prop := EP yX12_minus cX12_minus 7 (some .long) 0 As w Post
theorem mp_minus0 (w : Wd) {Y : Nat} {th st nu dg dd ld be ta fa re ig : Int32} (hY : w[Y]? = some (oM Y th st nu dg dd ld be (nI 0) ta fa re ig)) {a b : Int64} : EX12_minus [.ref Y, .long a, .long b] w (fun r w' => (∃ v : Int64, inL (a.toInt - b.toInt) ∧ v.toInt = a.toInt - b.toInt ∧ r = some (.long v) ∧ w' = w.set Y (oM Y th st nu dg dd ld be (nI 0) ta fa re ig)) ∨ (∃ v : Int64, ¬ inL (a.toInt - b.toInt) ∧ r = some (.long v) ∧ w' = w.set Y (oM Y th st nu dg dd ld be (nI 1) ta fa re ig))) := by
  refine EP.of (plainFor_of_name (by decide)) [(0, .ref Y), (1, .long a), (3, .long b)] rfl (Nat.le_of_ble_eq_true rfl) (fun r wf h => by rcases h with ⟨v, -, -, rfl, -⟩ | ⟨v, -, rfl, -⟩ <;> trivial) ?_
  show BX12_minus w _ w 0 [(0, .ref Y), (1, .long a), (3, .long b)] []
  have hs := L_subw a b
  have h1 := L_lo a
  have h2 := L_hi a
  have h3 := L_lo b
  have h4 := L_hi b
  have h5 := L_lo (a - b)
  have h6 := L_hi (a - b)
  refine g_lload_n (pc := 0) 1 dX12_minus_0 rfl rfl ?_
  refine g_lload_n (pc := 1) 2 dX12_minus_1 rfl rfl ?_
  refine g_lsub (pc := 2) dX12_minus_2 ?_
  refine g_lstore (pc := 3) [(5, .long (a - b)), (0, .ref Y), (1, .long a), (3, .long b)] dX12_minus_3 (by decide) rfl ?_
  refine g_aload_n (pc := 5) 1 dX12_minus_5 rfl rfl ?_
  refine g_aload_n (pc := 6) 1 dX12_minus_6 rfl rfl ?_
  refine g_get (pc := 7) dX12_minus_7 fk_X12_179 hY rfl ?_
  refine n_if_ne (pc := 10) 64 dX12_minus_10 (by decide) (by omega) (fun hx9 => ?_) (fun hx9 => ?_)
  · exact absurd hx9 (by decide)
  · refine g_lload_n (pc := 13) 2 dX12_minus_13 rfl rfl ?_
    refine g_lconst (pc := 14) (v := 0) dX12_minus_14 (by decide) ?_
    refine g_lcmp_lt (pc := 15) 23 dX12_minus_15 dX12_minus_16 (by decide) (fun hc6 => ?_) (fun hc6 => ?_)
    · refine g_iconst (pc := 23) (v := nI 0) dX12_minus_23 (by decide) ?_
      refine g_lload_n (pc := 24) 3 dX12_minus_24 rfl rfl ?_
      refine g_lconst (pc := 25) (v := 0) dX12_minus_25 (by decide) ?_
      refine g_lcmp_lt (pc := 26) 34 dX12_minus_26 dX12_minus_27 (by decide) (fun hc7 => ?_) (fun hc7 => ?_)
      · refine g_iconst (pc := 34) (v := nI 0) dX12_minus_34 (by decide) ?_
        refine n_icmp_eq (pc := 35) 68 dX12_minus_35 (by decide) (by omega) (by omega) (fun hx9 => ?_) (fun hx9 => ?_)
        · refine g_iconst (pc := 68) (v := nI 0) dX12_minus_68 (by decide) ?_
          refine g_put (pc := 69) (.int th :: .int st :: .ref (Y + 1) :: .ref (Y + 2) :: .ref (Y + 3) :: .ref (Y + 4) :: .int nu :: .ref (Y + 5) :: .ref (Y + 6) :: .ref (Y + 7) :: .int dg :: .ref (Y + 8) :: .int dd :: .ref (Y + 9) :: .ref (Y + 10) :: .ref (Y + 11) :: .ref (Y + 12) :: .int ld :: .int be :: .int (nI 0) :: .ref (Y + 13) :: .ref (Y + 14) :: .ref (Y + 15) :: .ref (Y + 16) :: .ref (Y + 17) :: .int ta :: .int fa :: .int re :: .int ig :: .ref (Y + 18) :: .ref (Y + 19) :: .ref (Y + 20) :: .ref (Y + 21) :: []) dX12_minus_69 fk_X12_179 hY (Nat.le_of_ble_eq_true rfl) rfl rfl ?_
          refine g_lload (pc := 72) 0 dX12_minus_72 rfl ?_
          rw [lt0] at hc6
          rw [lt0] at hc7
          exact g_lret (pc := 74) dX12_minus_74 (Or.inl ⟨_, (show inL (a.toInt - b.toInt) by unfold inL; omega), by omega, rfl, rfl⟩)
        · exact absurd hx9 (by decide)
      · refine g_iconst (pc := 30) (v := nI 1) dX12_minus_30 (by decide) ?_
        refine g_goto (pc := 31) 35 dX12_minus_31 (by decide) ?_
        refine n_icmp_eq (pc := 35) 68 dX12_minus_35 (by decide) (by omega) (by omega) (fun hx9 => ?_) (fun hx9 => ?_)
        · exact absurd hx9 (by decide)
        · refine g_lload (pc := 38) 0 dX12_minus_38 rfl ?_
          refine g_lconst (pc := 40) (v := 0) dX12_minus_40 (by decide) ?_
          refine g_lcmp_lt (pc := 41) 49 dX12_minus_41 dX12_minus_42 (by decide) (fun hc8 => ?_) (fun hc8 => ?_)
          · refine g_iconst (pc := 49) (v := nI 0) dX12_minus_49 (by decide) ?_
            refine g_lload_n (pc := 50) 2 dX12_minus_50 rfl rfl ?_
            refine g_lconst (pc := 51) (v := 0) dX12_minus_51 (by decide) ?_
            refine g_lcmp_lt (pc := 52) 60 dX12_minus_52 dX12_minus_53 (by decide) (fun hx9 => ?_) (fun hx9 => ?_)
            · refine g_iconst (pc := 60) (v := nI 0) dX12_minus_60 (by decide) ?_
              refine n_icmp_eq (pc := 61) 68 dX12_minus_61 (by decide) (by omega) (by omega) (fun hx9 => ?_) (fun hx9 => ?_)
              · refine g_iconst (pc := 68) (v := nI 0) dX12_minus_68 (by decide) ?_
                refine g_put (pc := 69) (.int th :: .int st :: .ref (Y + 1) :: .ref (Y + 2) :: .ref (Y + 3) :: .ref (Y + 4) :: .int nu :: .ref (Y + 5) :: .ref (Y + 6) :: .ref (Y + 7) :: .int dg :: .ref (Y + 8) :: .int dd :: .ref (Y + 9) :: .ref (Y + 10) :: .ref (Y + 11) :: .ref (Y + 12) :: .int ld :: .int be :: .int (nI 0) :: .ref (Y + 13) :: .ref (Y + 14) :: .ref (Y + 15) :: .ref (Y + 16) :: .ref (Y + 17) :: .int ta :: .int fa :: .int re :: .int ig :: .ref (Y + 18) :: .ref (Y + 19) :: .ref (Y + 20) :: .ref (Y + 21) :: []) dX12_minus_69 fk_X12_179 hY (Nat.le_of_ble_eq_true rfl) rfl rfl ?_
                refine g_lload (pc := 72) 0 dX12_minus_72 rfl ?_
                rw [lt0] at hc6
                rw [lt0] at hc7
                rw [lt0] at hc8
                exact g_lret (pc := 74) dX12_minus_74 (Or.inl ⟨_, (show inL (a.toInt - b.toInt) by unfold inL; omega), by omega, rfl, rfl⟩)
              · exact absurd hx9 (by decide)
            · exact absurd hc6 hx9
          · refine g_iconst (pc := 45) (v := nI 1) dX12_minus_45 (by decide) ?_
            refine g_goto (pc := 46) 50 dX12_minus_46 (by decide) ?_
            refine g_lload_n (pc := 50) 2 dX12_minus_50 rfl rfl ?_
            refine g_lconst (pc := 51) (v := 0) dX12_minus_51 (by decide) ?_
            refine g_lcmp_lt (pc := 52) 60 dX12_minus_52 dX12_minus_53 (by decide) (fun hx9 => ?_) (fun hx9 => ?_)
            · refine g_iconst (pc := 60) (v := nI 0) dX12_minus_60 (by decide) ?_
              refine n_icmp_eq (pc := 61) 68 dX12_minus_61 (by decide) (by omega) (by omega) (fun hx9 => ?_) (fun hx9 => ?_)
              · exact absurd hx9 (by decide)
              · refine g_iconst (pc := 64) (v := nI 1) dX12_minus_64 (by decide) ?_
                refine g_goto (pc := 65) 69 dX12_minus_65 (by decide) ?_
                refine g_put (pc := 69) (.int th :: .int st :: .ref (Y + 1) :: .ref (Y + 2) :: .ref (Y + 3) :: .ref (Y + 4) :: .int nu :: .ref (Y + 5) :: .ref (Y + 6) :: .ref (Y + 7) :: .int dg :: .ref (Y + 8) :: .int dd :: .ref (Y + 9) :: .ref (Y + 10) :: .ref (Y + 11) :: .ref (Y + 12) :: .int ld :: .int be :: .int (nI 1) :: .ref (Y + 13) :: .ref (Y + 14) :: .ref (Y + 15) :: .ref (Y + 16) :: .ref (Y + 17) :: .int ta :: .int fa :: .int re :: .int ig :: .ref (Y + 18) :: .ref (Y + 19) :: .ref (Y + 20) :: .ref (Y + 21) :: []) dX12_minus_69 fk_X12_179 hY (Nat.le_of_ble_eq_true rfl) rfl rfl ?_
                refine g_lload (pc := 72) 0 dX12_minus_72 rfl ?_
                rw [lt0] at hc6
                rw [lt0] at hc7
                rw [lt0] at hc8
                exact g_lret (pc := 74) dX12_minus_74 (Or.inr ⟨_, (show ¬ inL (a.toInt - b.toInt) by unfold inL; omega), rfl, rfl⟩)
            · exact absurd hc6 hx9
    · refine g_iconst (pc := 19) (v := nI 1) dX12_minus_19 (by decide) ?_
      refine g_goto (pc := 20) 24 dX12_minus_20 (by decide) ?_
      refine g_lload_n (pc := 24) 3 dX12_minus_24 rfl rfl ?_
      refine g_lconst (pc := 25) (v := 0) dX12_minus_25 (by decide) ?_
      refine g_lcmp_lt (pc := 26) 34 dX12_minus_26 dX12_minus_27 (by decide) (fun hc9 => ?_) (fun hc9 => ?_)
      · refine g_iconst (pc := 34) (v := nI 0) dX12_minus_34 (by decide) ?_
        refine n_icmp_eq (pc := 35) 68 dX12_minus_35 (by decide) (by omega) (by omega) (fun hx9 => ?_) (fun hx9 => ?_)
        · exact absurd hx9 (by decide)
        · refine g_lload (pc := 38) 0 dX12_minus_38 rfl ?_
          refine g_lconst (pc := 40) (v := 0) dX12_minus_40 (by decide) ?_
          refine g_lcmp_lt (pc := 41) 49 dX12_minus_41 dX12_minus_42 (by decide) (fun hc10 => ?_) (fun hc10 => ?_)
          · refine g_iconst (pc := 49) (v := nI 0) dX12_minus_49 (by decide) ?_
            refine g_lload_n (pc := 50) 2 dX12_minus_50 rfl rfl ?_
            refine g_lconst (pc := 51) (v := 0) dX12_minus_51 (by decide) ?_
            refine g_lcmp_lt (pc := 52) 60 dX12_minus_52 dX12_minus_53 (by decide) (fun hx9 => ?_) (fun hx9 => ?_)
            · exact absurd hx9 hc6
            · refine g_iconst (pc := 56) (v := nI 1) dX12_minus_56 (by decide) ?_
              refine g_goto (pc := 57) 61 dX12_minus_57 (by decide) ?_
              refine n_icmp_eq (pc := 61) 68 dX12_minus_61 (by decide) (by omega) (by omega) (fun hx9 => ?_) (fun hx9 => ?_)
              · exact absurd hx9 (by decide)
              · refine g_iconst (pc := 64) (v := nI 1) dX12_minus_64 (by decide) ?_
                refine g_goto (pc := 65) 69 dX12_minus_65 (by decide) ?_
                refine g_put (pc := 69) (.int th :: .int st :: .ref (Y + 1) :: .ref (Y + 2) :: .ref (Y + 3) :: .ref (Y + 4) :: .int nu :: .ref (Y + 5) :: .ref (Y + 6) :: .ref (Y + 7) :: .int dg :: .ref (Y + 8) :: .int dd :: .ref (Y + 9) :: .ref (Y + 10) :: .ref (Y + 11) :: .ref (Y + 12) :: .int ld :: .int be :: .int (nI 1) :: .ref (Y + 13) :: .ref (Y + 14) :: .ref (Y + 15) :: .ref (Y + 16) :: .ref (Y + 17) :: .int ta :: .int fa :: .int re :: .int ig :: .ref (Y + 18) :: .ref (Y + 19) :: .ref (Y + 20) :: .ref (Y + 21) :: []) dX12_minus_69 fk_X12_179 hY (Nat.le_of_ble_eq_true rfl) rfl rfl ?_
                refine g_lload (pc := 72) 0 dX12_minus_72 rfl ?_
                rw [lt0] at hc6
                rw [lt0] at hc9
                rw [lt0] at hc10
                exact g_lret (pc := 74) dX12_minus_74 (Or.inr ⟨_, (show ¬ inL (a.toInt - b.toInt) by unfold inL; omega), rfl, rfl⟩)
          · refine g_iconst (pc := 45) (v := nI 1) dX12_minus_45 (by decide) ?_
            refine g_goto (pc := 46) 50 dX12_minus_46 (by decide) ?_
            refine g_lload_n (pc := 50) 2 dX12_minus_50 rfl rfl ?_
            refine g_lconst (pc := 51) (v := 0) dX12_minus_51 (by decide) ?_
            refine g_lcmp_lt (pc := 52) 60 dX12_minus_52 dX12_minus_53 (by decide) (fun hx9 => ?_) (fun hx9 => ?_)
            · exact absurd hx9 hc6
            · refine g_iconst (pc := 56) (v := nI 1) dX12_minus_56 (by decide) ?_
              refine g_goto (pc := 57) 61 dX12_minus_57 (by decide) ?_
              refine n_icmp_eq (pc := 61) 68 dX12_minus_61 (by decide) (by omega) (by omega) (fun hx9 => ?_) (fun hx9 => ?_)
              · refine g_iconst (pc := 68) (v := nI 0) dX12_minus_68 (by decide) ?_
                refine g_put (pc := 69) (.int th :: .int st :: .ref (Y + 1) :: .ref (Y + 2) :: .ref (Y + 3) :: .ref (Y + 4) :: .int nu :: .ref (Y + 5) :: .ref (Y + 6) :: .ref (Y + 7) :: .int dg :: .ref (Y + 8) :: .int dd :: .ref (Y + 9) :: .ref (Y + 10) :: .ref (Y + 11) :: .ref (Y + 12) :: .int ld :: .int be :: .int (nI 0) :: .ref (Y + 13) :: .ref (Y + 14) :: .ref (Y + 15) :: .ref (Y + 16) :: .ref (Y + 17) :: .int ta :: .int fa :: .int re :: .int ig :: .ref (Y + 18) :: .ref (Y + 19) :: .ref (Y + 20) :: .ref (Y + 21) :: []) dX12_minus_69 fk_X12_179 hY (Nat.le_of_ble_eq_true rfl) rfl rfl ?_
                refine g_lload (pc := 72) 0 dX12_minus_72 rfl ?_
                rw [lt0] at hc6
                rw [lt0] at hc9
                rw [lt0] at hc10
                exact g_lret (pc := 74) dX12_minus_74 (Or.inl ⟨_, (show inL (a.toInt - b.toInt) by unfold inL; omega), by omega, rfl, rfl⟩)
              · exact absurd hx9 (by decide)
      · refine g_iconst (pc := 30) (v := nI 1) dX12_minus_30 (by decide) ?_
        refine g_goto (pc := 31) 35 dX12_minus_31 (by decide) ?_
        refine n_icmp_eq (pc := 35) 68 dX12_minus_35 (by decide) (by omega) (by omega) (fun hx9 => ?_) (fun hx9 => ?_)
        · refine g_iconst (pc := 68) (v := nI 0) dX12_minus_68 (by decide) ?_
          refine g_put (pc := 69) (.int th :: .int st :: .ref (Y + 1) :: .ref (Y + 2) :: .ref (Y + 3) :: .ref (Y + 4) :: .int nu :: .ref (Y + 5) :: .ref (Y + 6) :: .ref (Y + 7) :: .int dg :: .ref (Y + 8) :: .int dd :: .ref (Y + 9) :: .ref (Y + 10) :: .ref (Y + 11) :: .ref (Y + 12) :: .int ld :: .int be :: .int (nI 0) :: .ref (Y + 13) :: .ref (Y + 14) :: .ref (Y + 15) :: .ref (Y + 16) :: .ref (Y + 17) :: .int ta :: .int fa :: .int re :: .int ig :: .ref (Y + 18) :: .ref (Y + 19) :: .ref (Y + 20) :: .ref (Y + 21) :: []) dX12_minus_69 fk_X12_179 hY (Nat.le_of_ble_eq_true rfl) rfl rfl ?_
          refine g_lload (pc := 72) 0 dX12_minus_72 rfl ?_
          rw [lt0] at hc6
          rw [lt0] at hc9
          exact g_lret (pc := 74) dX12_minus_74 (Or.inl ⟨_, (show inL (a.toInt - b.toInt) by unfold inL; omega), by omega, rfl, rfl⟩)
        · exact absurd hx9 (by decide)
theorem mp_minus1 (w : Wd) {Y : Nat} {th st nu dg dd ld be ta fa re ig : Int32} (hY : w[Y]? = some (oM Y th st nu dg dd ld be (nI 1) ta fa re ig)) {a b : Int64} : EX12_minus [.ref Y, .long a, .long b] w (fun r w' => ∃ v : Int64, r = some (.long v) ∧ w' = w.set Y (oM Y th st nu dg dd ld be (nI 1) ta fa re ig)) := by
  refine EP.of (plainFor_of_name (by decide)) [(0, .ref Y), (1, .long a), (3, .long b)] rfl (Nat.le_of_ble_eq_true rfl) (fun r wf h => by obtain ⟨v, rfl, -⟩ := h; trivial) ?_
  show BX12_minus w _ w 0 [(0, .ref Y), (1, .long a), (3, .long b)] []
  have hs := L_subw a b
  have h1 := L_lo a
  have h2 := L_hi a
  have h3 := L_lo b
  have h4 := L_hi b
  have h5 := L_lo (a - b)
  have h6 := L_hi (a - b)
  refine g_lload_n (pc := 0) 1 dX12_minus_0 rfl rfl ?_
  refine g_lload_n (pc := 1) 2 dX12_minus_1 rfl rfl ?_
  refine g_lsub (pc := 2) dX12_minus_2 ?_
  refine g_lstore (pc := 3) [(5, .long (a - b)), (0, .ref Y), (1, .long a), (3, .long b)] dX12_minus_3 (by decide) rfl ?_
  refine g_aload_n (pc := 5) 1 dX12_minus_5 rfl rfl ?_
  refine g_aload_n (pc := 6) 1 dX12_minus_6 rfl rfl ?_
  refine g_get (pc := 7) dX12_minus_7 fk_X12_179 hY rfl ?_
  refine n_if_ne (pc := 10) 64 dX12_minus_10 (by decide) (by omega) (fun hx9 => ?_) (fun hx9 => ?_)
  · refine g_iconst (pc := 64) (v := nI 1) dX12_minus_64 (by decide) ?_
    refine g_goto (pc := 65) 69 dX12_minus_65 (by decide) ?_
    refine g_put (pc := 69) (.int th :: .int st :: .ref (Y + 1) :: .ref (Y + 2) :: .ref (Y + 3) :: .ref (Y + 4) :: .int nu :: .ref (Y + 5) :: .ref (Y + 6) :: .ref (Y + 7) :: .int dg :: .ref (Y + 8) :: .int dd :: .ref (Y + 9) :: .ref (Y + 10) :: .ref (Y + 11) :: .ref (Y + 12) :: .int ld :: .int be :: .int (nI 1) :: .ref (Y + 13) :: .ref (Y + 14) :: .ref (Y + 15) :: .ref (Y + 16) :: .ref (Y + 17) :: .int ta :: .int fa :: .int re :: .int ig :: .ref (Y + 18) :: .ref (Y + 19) :: .ref (Y + 20) :: .ref (Y + 21) :: []) dX12_minus_69 fk_X12_179 hY (Nat.le_of_ble_eq_true rfl) rfl rfl ?_
    refine g_lload (pc := 72) 0 dX12_minus_72 rfl ?_
    exact g_lret (pc := 74) dX12_minus_74 ⟨_, rfl, rfl⟩
  · exact absurd hx9 (by decide)
