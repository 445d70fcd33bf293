/-! the reference: value, roots -/
theorem Lm50 : (-50 : Int64).toInt = -50 := by decide
theorem L50 : (50 : Int64).toInt = 50 := by decide
theorem hev_grow {F : Nat → Int} {x : Int} {n : Nat} (hF : ∀ j, -9999 ≤ F j ∧ F j ≤ 9999) (hx : x ≤ -2 ∨ 2 ≤ x) : ∀ {m : Nat}, 9999 < (hev F x n m).natAbs → ∀ d, 9999 < (hev F x n (m + d)).natAbs
  | m, h, 0 => h
  | m, h, d + 1 => by
    have h1 := hev_grow hF hx h d
    show 9999 < (hev F x n (m + d) * x + F (n - (m + d))).natAbs
    have h2 := hF (n - (m + d))
    have h3 : 2 * (hev F x n (m + d)).natAbs ≤ (hev F x n (m + d) * x).natAbs := by
      rw [Int.natAbs_mul, Nat.mul_comm]
      exact Nat.mul_le_mul_left _ (by omega)
    omega
theorem hev_small {F : Nat → Int} {x : Int} {n : Nat} (hF : ∀ j, -9999 ≤ F j ∧ F j ≤ 9999) (hx : x = -1 ∨ x = 0 ∨ x = 1) : ∀ m : Nat, (hev F x n m).natAbs ≤ m * 9999
  | 0 => by show (0 : Int).natAbs ≤ _; simp
  | m + 1 => by
    have h1 := hev_small (n := n) hF hx m
    have h2 := hF (n - m)
    show (hev F x n m * x + F (n - m)).natAbs ≤ _
    have h3 : (hev F x n m * x).natAbs ≤ (hev F x n m).natAbs := by
      rw [Int.natAbs_mul]
      rcases hx with rfl | rfl | rfl <;> simp
    omega
theorem hev_fit {F : Nat → Int} {x : Int} {n : Nat} (hn : n ≤ 12) (hF : ∀ j, -9999 ≤ F j ∧ F j ≤ 9999) (h1 : -50 ≤ x) (h2 : x ≤ 50) (h0 : hev F x n (n + 1) = 0) : hfit F x n (n + 1) := by
  have hb : ∀ m, m ≤ n + 1 → (hev F x n m).natAbs ≤ 129987 := by
    intro m hm
    by_cases hx : x = -1 ∨ x = 0 ∨ x = 1
    · have := hev_small (n := n) hF hx m
      omega
    · refine Nat.le_trans (Nat.le_of_not_lt (fun g => ?_)) (show 9999 ≤ 129987 by decide)
      have := hev_grow (n := n) hF (by omega) g (n + 1 - m)
      rw [show m + (n + 1 - m) = n + 1 by omega, h0] at this
      exact absurd this (by decide)
  intro j hj
  have a := hb j (by omega)
  have b := hb (j + 1) (by omega)
  have c : (hev F x n j * x).natAbs ≤ 129987 * 50 := by rw [Int.natAbs_mul]; exact Nat.mul_le_mul a (by omega)
  unfold inL
  omega
theorem ok_b {P : PV} (h : okP P) : ∀ j, -9999 ≤ P.2 j ∧ P.2 j ≤ 9999 := fun j => by
  by_cases e : j ≤ P.1
  · exact h.2.1 j e
  · rw [h.2.2.2 j (by omega)]; decide
abbrev BX12_value (w0 : Wd) (Post : Option Value → Wd → Prop) (w : Wd) (pc : Nat) (ls : List (Nat × Value)) (st : List Value) : Prop := GP "value" RX12 cX12_value 6 (some .long) 2 78 none w0 Post w pc ls st
abbrev EX12_value (As : List Value) (w : Wd) (Post : Option Value → Wd → Prop) : Prop := EP yX12_value cX12_value 6 (some .long) 2 As w Post
theorem va_1 {w0 w : Wd} {Y : Nat} {th st nu dg dd ld be ib ta fa re ig : Int32} {g2 : Nat → Int32} {V : SV} {i : Nat} {y : Int32} (hY : w[Y]? = some (oM Y th st nu dg dd ld be ib ta fa re ig)) (a2 : w[Y + 2]? = some (aI 0 626 g2)) (hV : rowR g2 V) (hi : i < 8) (hno : ¬ hfit (V.1 i).2 y.toInt (V.1 i).1 ((V.1 i).1 + 1)) {v : Int64} {c : Nat} : c ≤ 13 → BX12_value w0 (fun r w' => ∃ (v : Int64) (b : Nat), r = some (.long v) ∧ ((hfit (V.1 i).2 y.toInt (V.1 i).1 ((V.1 i).1 + 1) ∧ v.toInt = hev (V.1 i).2 y.toInt (V.1 i).1 ((V.1 i).1 + 1)) ∨ (¬ hfit (V.1 i).2 y.toInt (V.1 i).1 ((V.1 i).1 + 1) ∧ v.toInt = -9223372036854775808)) ∧ w' = w.set Y (oM Y th st nu dg dd ld be (nI b) ta fa re ig)) (w.set Y (.inr (11, .int th :: .int st :: .ref (Y + 1) :: .ref (Y + 2) :: .ref (Y + 3) :: .ref (Y + 4) :: .int nu :: .ref (Y + 5) :: .ref (Y + 6) :: .ref (Y + 7) :: .int dg :: .ref (Y + 8) :: .int dd :: .ref (Y + 9) :: .ref (Y + 10) :: .ref (Y + 11) :: .ref (Y + 12) :: .int ld :: .int be :: .int (nI 1) :: .ref (Y + 13) :: .ref (Y + 14) :: .ref (Y + 15) :: .ref (Y + 16) :: .ref (Y + 17) :: .int ta :: .int fa :: .int re :: .int ig :: .ref (Y + 18) :: .ref (Y + 19) :: .ref (Y + 20) :: .ref (Y + 21) :: []))) 44 [(5, .int (nI c - 1)), (3, .long v), (2, .int y), (1, .int (nI i)), (0, .ref Y)] [] := by
  intro hc
  cases c with
  | zero =>
    rw [nI_dec0]
    refine g_iload (pc := 44) 0 dX12_value_44 rfl ?_
    refine g_if_lt (pc := 46) 82 dX12_value_46 (by decide) (fun hb9 => ?_) (fun hb9 => ?_)
    · refine g_aload_n (pc := 82) 4 dX12_value_82 rfl rfl ?_
      refine g_get (pc := 83) dX12_value_83 fk_X12_179 (lk_eq hY) rfl ?_
      refine n_if_eq (pc := 86) 95 dX12_value_86 (by decide) (by omega) (fun h1 => ?_) (fun h1 => ?_)
      · exact absurd h1 (by decide)
      · refine g_ldc2 (pc := 89) kc_X12_177 dX12_value_89 ?_
        refine g_goto (pc := 92) 96 dX12_value_92 (by decide) ?_
        exact g_lret (pc := 96) dX12_value_96 ⟨_, 1, rfl, Or.inr ⟨hno, by decide⟩, rfl⟩
    · exact absurd (by decide) hb9
  | succ c =>
    rw [nI_pred]
    refine g_iload (pc := 44) 0 dX12_value_44 rfl ?_
    refine n_if_lt (pc := 46) 82 dX12_value_46 (by decide) (by omega) ?_
    refine g_aload_n (pc := 49) 4 dX12_value_49 rfl rfl ?_
    refine g_get (pc := 50) dX12_value_50 fk_X12_179 (lk_eq hY) rfl ?_
    refine n_if_ne (pc := 53) 82 dX12_value_53 (by decide) (by omega) (fun h1 => ?_) (fun h1 => ?_)
    · refine g_aload_n (pc := 82) 4 dX12_value_82 rfl rfl ?_
      refine g_get (pc := 83) dX12_value_83 fk_X12_179 (lk_eq hY) rfl ?_
      refine n_if_eq (pc := 86) 95 dX12_value_86 (by decide) (by omega) (fun h2 => ?_) (fun h2 => ?_)
      · exact absurd h2 (by decide)
      · refine g_ldc2 (pc := 89) kc_X12_177 dX12_value_89 ?_
        refine g_goto (pc := 92) 96 dX12_value_92 (by decide) ?_
        exact g_lret (pc := 96) dX12_value_96 ⟨_, 1, rfl, Or.inr ⟨hno, by decide⟩, rfl⟩
    · exact absurd h1 (by decide)
theorem va_0 {w0 w : Wd} {Y : Nat} {th st nu dg dd ld be ib ta fa re ig : Int32} {g2 : Nat → Int32} {V : SV} {i : Nat} {y : Int32} (hY : w[Y]? = some (oM Y th st nu dg dd ld be ib ta fa re ig)) (a2 : w[Y + 2]? = some (aI 0 626 g2)) (hV : rowR g2 V) (hi : i < 8) : ∀ (c : Nat) (v : Int64), c ≤ (V.1 i).1 + 1 → hfit (V.1 i).2 y.toInt (V.1 i).1 ((V.1 i).1 + 1 - c) → v.toInt = hev (V.1 i).2 y.toInt (V.1 i).1 ((V.1 i).1 + 1 - c) → BX12_value w0 (fun r w' => ∃ (v : Int64) (b : Nat), r = some (.long v) ∧ ((hfit (V.1 i).2 y.toInt (V.1 i).1 ((V.1 i).1 + 1) ∧ v.toInt = hev (V.1 i).2 y.toInt (V.1 i).1 ((V.1 i).1 + 1)) ∨ (¬ hfit (V.1 i).2 y.toInt (V.1 i).1 ((V.1 i).1 + 1) ∧ v.toInt = -9223372036854775808)) ∧ w' = w.set Y (oM Y th st nu dg dd ld be (nI b) ta fa re ig)) (w.set Y (.inr (11, .int th :: .int st :: .ref (Y + 1) :: .ref (Y + 2) :: .ref (Y + 3) :: .ref (Y + 4) :: .int nu :: .ref (Y + 5) :: .ref (Y + 6) :: .ref (Y + 7) :: .int dg :: .ref (Y + 8) :: .int dd :: .ref (Y + 9) :: .ref (Y + 10) :: .ref (Y + 11) :: .ref (Y + 12) :: .int ld :: .int be :: .int (nI 0) :: .ref (Y + 13) :: .ref (Y + 14) :: .ref (Y + 15) :: .ref (Y + 16) :: .ref (Y + 17) :: .int ta :: .int fa :: .int re :: .int ig :: .ref (Y + 18) :: .ref (Y + 19) :: .ref (Y + 20) :: .ref (Y + 21) :: []))) 44 [(5, .int (nI c - 1)), (3, .long v), (2, .int y), (1, .int (nI i)), (0, .ref Y)] [] := by
  have hd12 := ok_12 hV hi
  intro c
  induction c with
  | zero =>
    intro v hc hf hv
    rw [nI_dec0]
    refine g_iload (pc := 44) 0 dX12_value_44 rfl ?_
    refine g_if_lt (pc := 46) 82 dX12_value_46 (by decide) (fun hb9 => ?_) (fun hb9 => ?_)
    · refine g_aload_n (pc := 82) 4 dX12_value_82 rfl rfl ?_
      refine g_get (pc := 83) dX12_value_83 fk_X12_179 (lk_eq hY) rfl ?_
      refine n_if_eq (pc := 86) 95 dX12_value_86 (by decide) (by omega) (fun h1 => ?_) (fun h1 => ?_)
      · refine g_lload_n (pc := 95) 1 dX12_value_95 rfl rfl ?_
        exact g_lret (pc := 96) dX12_value_96 ⟨v, 0, rfl, Or.inl ⟨hf, hv⟩, rfl⟩
      · exact absurd rfl h1
    · exact absurd (by decide) hb9
  | succ c ih =>
    intro v hc hf hv
    rw [nI_pred]
    have hat := (hV.1 i hi).2.2 c (by omega)
    have hst : hev (V.1 i).2 y.toInt (V.1 i).1 ((V.1 i).1 + 1 - c) = hev (V.1 i).2 y.toInt (V.1 i).1 ((V.1 i).1 + 1 - (c + 1)) * y.toInt + (V.1 i).2 c := by
      rw [show (V.1 i).1 + 1 - c = ((V.1 i).1 + 1 - (c + 1)) + 1 by omega]
      show _ * _ + (V.1 i).2 ((V.1 i).1 - ((V.1 i).1 + 1 - (c + 1))) = _
      rw [show (V.1 i).1 - ((V.1 i).1 + 1 - (c + 1)) = c by omega]
    refine g_iload (pc := 44) 0 dX12_value_44 rfl ?_
    refine n_if_lt (pc := 46) 82 dX12_value_46 (by decide) (by omega) ?_
    refine g_aload_n (pc := 49) 4 dX12_value_49 rfl rfl ?_
    refine g_get (pc := 50) dX12_value_50 fk_X12_179 (lk_eq hY) rfl ?_
    refine n_if_ne (pc := 53) 82 dX12_value_53 (by decide) (by omega) (fun h1 => ?_) (fun h1 => ?_)
    · exact absurd rfl h1
    · refine g_aload_n (pc := 56) 4 dX12_value_56 rfl rfl ?_
      refine g_aload_n (pc := 57) 4 dX12_value_57 rfl rfl ?_
      refine g_lload_n (pc := 58) 1 dX12_value_58 rfl rfl ?_
      refine g_iload_n (pc := 59) 2 dX12_value_59 rfl rfl ?_
      refine g_i2l (pc := 60) dX12_value_60 ?_
      refine g_callV (pc := 61) [.long v, .long y.toInt64] dX12_value_61 cv_X12_186.1 cv_X12_186.2.1 cv_X12_186.2.2.1 cv_X12_186.2.2.2 (lk_eq hY) rfl rfl (Nat.le_of_ble_eq_true rfl) (by decide) (by decide) (mp_times0 _ (lk_eq hY)) ?_
      rintro _ w9 (⟨u, hin, hu, rfl, e9⟩ | ⟨u, hin, rfl, e9⟩)
      · refine GP.weq _ e9 ?_
        refine GP.weq (w.set Y (.inr (11, .int th :: .int st :: .ref (Y + 1) :: .ref (Y + 2) :: .ref (Y + 3) :: .ref (Y + 4) :: .int nu :: .ref (Y + 5) :: .ref (Y + 6) :: .ref (Y + 7) :: .int dg :: .ref (Y + 8) :: .int dd :: .ref (Y + 9) :: .ref (Y + 10) :: .ref (Y + 11) :: .ref (Y + 12) :: .int ld :: .int be :: .int (nI 0) :: .ref (Y + 13) :: .ref (Y + 14) :: .ref (Y + 15) :: .ref (Y + 16) :: .ref (Y + 17) :: .int ta :: .int fa :: .int re :: .int ig :: .ref (Y + 18) :: .ref (Y + 19) :: .ref (Y + 20) :: .ref (Y + 21) :: []))) (by rw [List.set_set]) ?_
        refine g_aload_n (pc := 64) 4 dX12_value_64 rfl rfl ?_
        refine g_iload_n (pc := 65) 3 dX12_value_65 rfl rfl ?_
        refine g_iload (pc := 66) 0 dX12_value_66 rfl ?_
        refine g_callV (pc := 68) [.int (nI i), .int (nI c)] dX12_value_68 cv_X12_122.1 cv_X12_122.2.1 cv_X12_122.2.2.1 cv_X12_122.2.2.2 (lk_eq hY) rfl rfl (Nat.le_of_ble_eq_true rfl) (by decide) (by decide) (mp_at _ (lk_eq hY) (lk_ne (show Y ≠ (Y + 2) by omega) a2) hi (show c < 13 by omega)) ?_
        rintro _ w9 ⟨rfl, e9⟩
        refine GP.weq _ e9 ?_
        refine g_i2l (pc := 71) dX12_value_71 ?_
        refine g_callV (pc := 72) [.long u, .long ((g2 (14 * i + 1 + c)).toInt64)] dX12_value_72 cv_X12_190.1 cv_X12_190.2.1 cv_X12_190.2.2.1 cv_X12_190.2.2.2 (lk_eq hY) rfl rfl (Nat.le_of_ble_eq_true rfl) (by decide) (by decide) (mp_plus0 _ (lk_eq hY)) ?_
        rintro _ w9 (⟨t, hin2, ht, rfl, e9⟩ | ⟨t, hin2, rfl, e9⟩)
        · refine GP.weq _ e9 ?_
          refine GP.weq (w.set Y (.inr (11, .int th :: .int st :: .ref (Y + 1) :: .ref (Y + 2) :: .ref (Y + 3) :: .ref (Y + 4) :: .int nu :: .ref (Y + 5) :: .ref (Y + 6) :: .ref (Y + 7) :: .int dg :: .ref (Y + 8) :: .int dd :: .ref (Y + 9) :: .ref (Y + 10) :: .ref (Y + 11) :: .ref (Y + 12) :: .int ld :: .int be :: .int (nI 0) :: .ref (Y + 13) :: .ref (Y + 14) :: .ref (Y + 15) :: .ref (Y + 16) :: .ref (Y + 17) :: .int ta :: .int fa :: .int re :: .int ig :: .ref (Y + 18) :: .ref (Y + 19) :: .ref (Y + 20) :: .ref (Y + 21) :: []))) (by rw [List.set_set]) ?_
          refine g_lstore_n (pc := 75) [(3, .long t), (5, .int (nI c)), (2, .int y), (1, .int (nI i)), (0, .ref Y)] dX12_value_75 rfl (by decide) rfl ?_
          refine g_iinc (pc := 76) [(5, .int (nI c - 1)), (3, .long t), (2, .int y), (1, .int (nI i)), (0, .ref Y)] 1 dX12_value_76 rfl (dec1 _) (by decide) rfl ?_
          refine g_goto (pc := 79) 44 dX12_value_79 (by decide) ?_
          rw [IL, hu, hat, IL, hv, ← hst] at ht hin2
          rw [IL, hv] at hin
          refine GP.lsub _ (by simp) (ih t (by omega) ?_ ht)
          rw [show (V.1 i).1 + 1 - c = ((V.1 i).1 + 1 - (c + 1)) + 1 by omega] at hin2 ⊢
          exact hfit_s hf hin hin2
        · refine GP.weq _ e9 ?_
          refine GP.weq (w.set Y (.inr (11, .int th :: .int st :: .ref (Y + 1) :: .ref (Y + 2) :: .ref (Y + 3) :: .ref (Y + 4) :: .int nu :: .ref (Y + 5) :: .ref (Y + 6) :: .ref (Y + 7) :: .int dg :: .ref (Y + 8) :: .int dd :: .ref (Y + 9) :: .ref (Y + 10) :: .ref (Y + 11) :: .ref (Y + 12) :: .int ld :: .int be :: .int (nI 1) :: .ref (Y + 13) :: .ref (Y + 14) :: .ref (Y + 15) :: .ref (Y + 16) :: .ref (Y + 17) :: .int ta :: .int fa :: .int re :: .int ig :: .ref (Y + 18) :: .ref (Y + 19) :: .ref (Y + 20) :: .ref (Y + 21) :: []))) (by rw [List.set_set]) ?_
          refine g_lstore_n (pc := 75) [(3, .long t), (5, .int (nI c)), (2, .int y), (1, .int (nI i)), (0, .ref Y)] dX12_value_75 rfl (by decide) rfl ?_
          refine g_iinc (pc := 76) [(5, .int (nI c - 1)), (3, .long t), (2, .int y), (1, .int (nI i)), (0, .ref Y)] 1 dX12_value_76 rfl (dec1 _) (by decide) rfl ?_
          refine g_goto (pc := 79) 44 dX12_value_79 (by decide) ?_
          rw [IL, hu, hat, IL, hv, ← hst] at hin2
          have hno : ¬ hfit (V.1 i).2 y.toInt (V.1 i).1 ((V.1 i).1 + 1) := fun g => hin2 (by
            have := (g ((V.1 i).1 + 1 - (c + 1)) (by omega)).2
            rw [show ((V.1 i).1 + 1 - (c + 1)) + 1 = (V.1 i).1 + 1 - c by omega] at this
            exact this)
          exact GP.lsub _ (by simp) (va_1 hY a2 hV hi (fun g => hno g) (v := t) (c := c) (by omega))
      · refine GP.weq _ e9 ?_
        refine GP.weq (w.set Y (.inr (11, .int th :: .int st :: .ref (Y + 1) :: .ref (Y + 2) :: .ref (Y + 3) :: .ref (Y + 4) :: .int nu :: .ref (Y + 5) :: .ref (Y + 6) :: .ref (Y + 7) :: .int dg :: .ref (Y + 8) :: .int dd :: .ref (Y + 9) :: .ref (Y + 10) :: .ref (Y + 11) :: .ref (Y + 12) :: .int ld :: .int be :: .int (nI 1) :: .ref (Y + 13) :: .ref (Y + 14) :: .ref (Y + 15) :: .ref (Y + 16) :: .ref (Y + 17) :: .int ta :: .int fa :: .int re :: .int ig :: .ref (Y + 18) :: .ref (Y + 19) :: .ref (Y + 20) :: .ref (Y + 21) :: []))) (by rw [List.set_set]) ?_
        refine g_aload_n (pc := 64) 4 dX12_value_64 rfl rfl ?_
        refine g_iload_n (pc := 65) 3 dX12_value_65 rfl rfl ?_
        refine g_iload (pc := 66) 0 dX12_value_66 rfl ?_
        refine g_callV (pc := 68) [.int (nI i), .int (nI c)] dX12_value_68 cv_X12_122.1 cv_X12_122.2.1 cv_X12_122.2.2.1 cv_X12_122.2.2.2 (lk_eq hY) rfl rfl (Nat.le_of_ble_eq_true rfl) (by decide) (by decide) (mp_at _ (lk_eq hY) (lk_ne (show Y ≠ (Y + 2) by omega) a2) hi (show c < 13 by omega)) ?_
        rintro _ w9 ⟨rfl, e9⟩
        refine GP.weq _ e9 ?_
        refine g_i2l (pc := 71) dX12_value_71 ?_
        refine g_callV (pc := 72) [.long u, .long ((g2 (14 * i + 1 + c)).toInt64)] dX12_value_72 cv_X12_190.1 cv_X12_190.2.1 cv_X12_190.2.2.1 cv_X12_190.2.2.2 (lk_eq hY) rfl rfl (Nat.le_of_ble_eq_true rfl) (by decide) (by decide) (mp_plus1 _ (lk_eq hY)) ?_
        rintro _ w9 ⟨t, rfl, e9⟩
        refine GP.weq _ e9 ?_
        refine GP.weq (w.set Y (.inr (11, .int th :: .int st :: .ref (Y + 1) :: .ref (Y + 2) :: .ref (Y + 3) :: .ref (Y + 4) :: .int nu :: .ref (Y + 5) :: .ref (Y + 6) :: .ref (Y + 7) :: .int dg :: .ref (Y + 8) :: .int dd :: .ref (Y + 9) :: .ref (Y + 10) :: .ref (Y + 11) :: .ref (Y + 12) :: .int ld :: .int be :: .int (nI 1) :: .ref (Y + 13) :: .ref (Y + 14) :: .ref (Y + 15) :: .ref (Y + 16) :: .ref (Y + 17) :: .int ta :: .int fa :: .int re :: .int ig :: .ref (Y + 18) :: .ref (Y + 19) :: .ref (Y + 20) :: .ref (Y + 21) :: []))) (by rw [show ((w.set Y (.inr (11, .int th :: .int st :: .ref (Y + 1) :: .ref (Y + 2) :: .ref (Y + 3) :: .ref (Y + 4) :: .int nu :: .ref (Y + 5) :: .ref (Y + 6) :: .ref (Y + 7) :: .int dg :: .ref (Y + 8) :: .int dd :: .ref (Y + 9) :: .ref (Y + 10) :: .ref (Y + 11) :: .ref (Y + 12) :: .int ld :: .int be :: .int (nI 1) :: .ref (Y + 13) :: .ref (Y + 14) :: .ref (Y + 15) :: .ref (Y + 16) :: .ref (Y + 17) :: .int ta :: .int fa :: .int re :: .int ig :: .ref (Y + 18) :: .ref (Y + 19) :: .ref (Y + 20) :: .ref (Y + 21) :: []))).set Y (.inr (11, .int th :: .int st :: .ref (Y + 1) :: .ref (Y + 2) :: .ref (Y + 3) :: .ref (Y + 4) :: .int nu :: .ref (Y + 5) :: .ref (Y + 6) :: .ref (Y + 7) :: .int dg :: .ref (Y + 8) :: .int dd :: .ref (Y + 9) :: .ref (Y + 10) :: .ref (Y + 11) :: .ref (Y + 12) :: .int ld :: .int be :: .int (nI 1) :: .ref (Y + 13) :: .ref (Y + 14) :: .ref (Y + 15) :: .ref (Y + 16) :: .ref (Y + 17) :: .int ta :: .int fa :: .int re :: .int ig :: .ref (Y + 18) :: .ref (Y + 19) :: .ref (Y + 20) :: .ref (Y + 21) :: []))) = (w.set Y (.inr (11, .int th :: .int st :: .ref (Y + 1) :: .ref (Y + 2) :: .ref (Y + 3) :: .ref (Y + 4) :: .int nu :: .ref (Y + 5) :: .ref (Y + 6) :: .ref (Y + 7) :: .int dg :: .ref (Y + 8) :: .int dd :: .ref (Y + 9) :: .ref (Y + 10) :: .ref (Y + 11) :: .ref (Y + 12) :: .int ld :: .int be :: .int (nI 1) :: .ref (Y + 13) :: .ref (Y + 14) :: .ref (Y + 15) :: .ref (Y + 16) :: .ref (Y + 17) :: .int ta :: .int fa :: .int re :: .int ig :: .ref (Y + 18) :: .ref (Y + 19) :: .ref (Y + 20) :: .ref (Y + 21) :: []))) from by rw [List.set_set]]) ?_
        refine g_lstore_n (pc := 75) [(3, .long t), (5, .int (nI c)), (2, .int y), (1, .int (nI i)), (0, .ref Y)] dX12_value_75 rfl (by decide) rfl ?_
        refine g_iinc (pc := 76) [(5, .int (nI c - 1)), (3, .long t), (2, .int y), (1, .int (nI i)), (0, .ref Y)] 1 dX12_value_76 rfl (dec1 _) (by decide) rfl ?_
        refine g_goto (pc := 79) 44 dX12_value_79 (by decide) ?_
        rw [IL, hv] at hin
        have hno : ¬ hfit (V.1 i).2 y.toInt (V.1 i).1 ((V.1 i).1 + 1) := fun g => hin (g ((V.1 i).1 + 1 - (c + 1)) (by omega)).1
        exact GP.lsub _ (by simp) (va_1 hY a2 hV hi (fun g => hno g) (v := t) (c := c) (by omega))
theorem nI_pred1 {n : Nat} : nI (n + 1) - 1 = nI n := nI_pred n
theorem mq_value (w : Wd) {Y tl : Nat} {tb : Nat → Int32} {fa st : Int32} {rf : Nat → Nat} {sh : SV} {pn : Nat} {pk : Nat → Nat} {ps : Nat → SV} {im : Nat → Option SV} (hM : mdC w Y tl tb fa st rf sh pn pk ps im) {x y : Int32} : EX12_value [.ref Y, .int x, .int y] w (fun r w' => (¬ (isPl x ∧ -50 ≤ y.toInt ∧ y.toInt ≤ 50) ∧ r = some (.long (-9223372036854775808)) ∧ mdC w' Y tl tb fa st rf sh pn pk ps im ∧ FR (modS Y) w w') ∨ (∃ i v, x = nI i ∧ i < 8 ∧ -50 ≤ y.toInt ∧ y.toInt ≤ 50 ∧ r = some (.long v) ∧ ((hfit (sh.1 i).2 y.toInt (sh.1 i).1 ((sh.1 i).1 + 1) ∧ v.toInt = hev (sh.1 i).2 y.toInt (sh.1 i).1 ((sh.1 i).1 + 1)) ∨ (¬ hfit (sh.1 i).2 y.toInt (sh.1 i).1 ((sh.1 i).1 + 1) ∧ v.toInt = -9223372036854775808)) ∧ mdC w' Y tl tb fa st rf sh pn pk ps im ∧ FR (modS Y) w w')) := by
  refine EP.of (plainFor_of_name (by decide)) [(0, .ref Y), (1, .int x), (2, .int y)] rfl (Nat.le_of_ble_eq_true rfl) (fun r wf h => by rcases h with ⟨-, rfl, -⟩ | ⟨i, v, -, -, -, -, rfl, -⟩ <;> trivial) ?_
  show BX12_value w _ w 0 [(0, .ref Y), (1, .int x), (2, .int y)] []
  obtain ⟨⟨th, dg, dd, ld, be, ib, re, ig, hY⟩, ⟨⟨g1, a1, b1⟩, ⟨g2, a2, b2⟩, ⟨g3, g4, a3, a4, b3, b4⟩, ⟨g5, g6, a5, a6, b5⟩, ⟨g11, a11, b11⟩, ⟨g17, a17, b17⟩⟩, ⟨g7, g8, g9, g10, g12, g13, g14, g18, g19, g20, g21, a7, a8, a9, a10, a12, a13, a14, a18, a19, a20, a21⟩, ⟨g15, g16, a15, a16, b15⟩⟩ := id hM
  refine g_aload_n (pc := 0) 0 dX12_value_0 rfl rfl ?_
  refine g_iconst (pc := 1) (v := nI 0) dX12_value_1 (by decide) ?_
  refine g_put (pc := 2) (.int (nI 0) :: .int st :: .ref (Y + 1) :: .ref (Y + 2) :: .ref (Y + 3) :: .ref (Y + 4) :: .int (nI pn) :: .ref (Y + 5) :: .ref (Y + 6) :: .ref (Y + 7) :: .int dg :: .ref (Y + 8) :: .int dd :: .ref (Y + 9) :: .ref (Y + 10) :: .ref (Y + 11) :: .ref (Y + 12) :: .int ld :: .int be :: .int ib :: .ref (Y + 13) :: .ref (Y + 14) :: .ref (Y + 15) :: .ref (Y + 16) :: .ref (Y + 17) :: .int (nI tl) :: .int fa :: .int re :: .int ig :: .ref (Y + 18) :: .ref (Y + 19) :: .ref (Y + 20) :: .ref (Y + 21) :: []) dX12_value_2 fk_X12_83 hY (Nat.le_of_ble_eq_true rfl) rfl rfl ?_
  refine g_iload_n (pc := 5) 1 dX12_value_5 rfl rfl ?_
  refine g_callS (pc := 6) [.int x] dX12_value_6 cs_X12_277.1 cs_X12_277.2 rfl rfl (Nat.le_of_ble_eq_true rfl) (by decide) (by decide) (mp_isStore _) ?_
  rintro _ w9 (⟨rfl, hpi, e9⟩ | ⟨rfl, hpi, e9⟩)
  · refine GP.weq _ e9 ?_
    obtain ⟨i, rfl, hi⟩ := pl_of hpi
    refine n_if_eq (pc := 9) 26 dX12_value_9 (by decide) (by omega) (fun hd9 => ?_) (fun hd9 => ?_)
    · exact absurd hd9 (by decide)
    · refine g_iload_n (pc := 12) 2 dX12_value_12 rfl rfl ?_
      refine g_i2l (pc := 13) dX12_value_13 ?_
      refine g_ldc2 (pc := 14) kc_X12_352 dX12_value_14 ?_
      refine g_ldc2 (pc := 17) kc_X12_354 dX12_value_17 ?_
      refine g_callS (pc := 20) [.long y.toInt64, .long (-50), .long (50)] dX12_value_20 cs_X12_103.1 cs_X12_103.2 rfl rfl (Nat.le_of_ble_eq_true rfl) (by decide) (by decide) (mp_in _) ?_
      rintro _ w9 (⟨rfl, hz, e9⟩ | ⟨rfl, hz, e9⟩)
      · refine GP.weq _ e9 ?_
        rw [IL, L50, Lm50] at hz
        refine n_if_ne (pc := 23) 30 dX12_value_23 (by decide) (by omega) (fun hd9 => ?_) (fun hd9 => ?_)
        · refine g_aload_n (pc := 30) 0 dX12_value_30 rfl rfl ?_
          refine g_iconst (pc := 31) (v := nI 0) dX12_value_31 (by decide) ?_
          refine g_put (pc := 32) (.int (nI 0) :: .int st :: .ref (Y + 1) :: .ref (Y + 2) :: .ref (Y + 3) :: .ref (Y + 4) :: .int (nI pn) :: .ref (Y + 5) :: .ref (Y + 6) :: .ref (Y + 7) :: .int dg :: .ref (Y + 8) :: .int dd :: .ref (Y + 9) :: .ref (Y + 10) :: .ref (Y + 11) :: .ref (Y + 12) :: .int ld :: .int be :: .int (nI 0) :: .ref (Y + 13) :: .ref (Y + 14) :: .ref (Y + 15) :: .ref (Y + 16) :: .ref (Y + 17) :: .int (nI tl) :: .int fa :: .int re :: .int ig :: .ref (Y + 18) :: .ref (Y + 19) :: .ref (Y + 20) :: .ref (Y + 21) :: []) dX12_value_32 fk_X12_179 (lk_eq hY) (Nat.le_of_ble_eq_true rfl) rfl rfl ?_
          refine GP.weq (w.set Y (.inr (11, .int (nI 0) :: .int st :: .ref (Y + 1) :: .ref (Y + 2) :: .ref (Y + 3) :: .ref (Y + 4) :: .int (nI pn) :: .ref (Y + 5) :: .ref (Y + 6) :: .ref (Y + 7) :: .int dg :: .ref (Y + 8) :: .int dd :: .ref (Y + 9) :: .ref (Y + 10) :: .ref (Y + 11) :: .ref (Y + 12) :: .int ld :: .int be :: .int (nI 0) :: .ref (Y + 13) :: .ref (Y + 14) :: .ref (Y + 15) :: .ref (Y + 16) :: .ref (Y + 17) :: .int (nI tl) :: .int fa :: .int re :: .int ig :: .ref (Y + 18) :: .ref (Y + 19) :: .ref (Y + 20) :: .ref (Y + 21) :: []))) (by rw [List.set_set]) ?_
          refine g_lconst (pc := 35) (v := 0) dX12_value_35 (by decide) ?_
          refine g_lstore_n (pc := 36) [(3, .long 0), (0, .ref Y), (1, .int (nI i)), (2, .int y)] dX12_value_36 rfl (by decide) rfl ?_
          refine g_aload_n (pc := 37) 1 dX12_value_37 rfl rfl ?_
          refine g_iload_n (pc := 38) 2 dX12_value_38 rfl rfl ?_
          refine g_callV (pc := 39) [.int (nI i)] dX12_value_39 cv_X12_119.1 cv_X12_119.2.1 cv_X12_119.2.2.1 cv_X12_119.2.2.2 (lk_eq hY) rfl rfl (Nat.le_of_ble_eq_true rfl) (by decide) (by decide) (mp_degreeOf _ (lk_eq hY) (lk_ne (show Y ≠ (Y + 2) by omega) a2) hi) ?_
          rintro _ w9 ⟨rfl, e9⟩
          refine GP.weq _ e9 ?_
          refine GP.ti (nI (sh.1 i).1) (row_dg b2 i hi) ?_
          refine g_istore (pc := 42) [(5, .int (nI ((sh.1 i).1))), (3, .long 0), (0, .ref Y), (1, .int (nI i)), (2, .int y)] dX12_value_42 (by decide) rfl ?_
          obtain ⟨w1, ew1⟩ : ∃ wy : Wd, wy = (w.set Y (.inr (11, .int (nI 0) :: .int st :: .ref (Y + 1) :: .ref (Y + 2) :: .ref (Y + 3) :: .ref (Y + 4) :: .int (nI pn) :: .ref (Y + 5) :: .ref (Y + 6) :: .ref (Y + 7) :: .int dg :: .ref (Y + 8) :: .int dd :: .ref (Y + 9) :: .ref (Y + 10) :: .ref (Y + 11) :: .ref (Y + 12) :: .int ld :: .int be :: .int (nI 0) :: .ref (Y + 13) :: .ref (Y + 14) :: .ref (Y + 15) :: .ref (Y + 16) :: .ref (Y + 17) :: .int (nI tl) :: .int fa :: .int re :: .int ig :: .ref (Y + 18) :: .ref (Y + 19) :: .ref (Y + 20) :: .ref (Y + 21) :: []))) := ⟨_, rfl⟩
          refine GP.weq w1 ew1.symm ?_
          have hMb : mdC w1 Y tl tb fa st rf sh pn pk ps im := by rw [ew1]; exact ⟨⟨_, _, _, _, _, _, _, _, (lk_eq hY)⟩, ⟨⟨_, (lk_ne (show Y ≠ (Y + 1) by omega) a1), b1⟩, ⟨_, (lk_ne (show Y ≠ (Y + 2) by omega) a2), b2⟩, ⟨_, _, (lk_ne (show Y ≠ (Y + 3) by omega) a3), (lk_ne (show Y ≠ (Y + 4) by omega) a4), b3, b4⟩, ⟨_, _, (lk_ne (show Y ≠ (Y + 5) by omega) a5), (lk_ne (show Y ≠ (Y + 6) by omega) a6), b5⟩, ⟨_, (lk_ne (show Y ≠ (Y + 11) by omega) a11), b11⟩, ⟨_, (lk_ne (show Y ≠ (Y + 17) by omega) a17), b17⟩⟩, ⟨_, _, _, _, _, _, _, _, _, _, _, (lk_ne (show Y ≠ (Y + 7) by omega) a7), (lk_ne (show Y ≠ (Y + 8) by omega) a8), (lk_ne (show Y ≠ (Y + 9) by omega) a9), (lk_ne (show Y ≠ (Y + 10) by omega) a10), (lk_ne (show Y ≠ (Y + 12) by omega) a12), (lk_ne (show Y ≠ (Y + 13) by omega) a13), (lk_ne (show Y ≠ (Y + 14) by omega) a14), (lk_ne (show Y ≠ (Y + 18) by omega) a18), (lk_ne (show Y ≠ (Y + 19) by omega) a19), (lk_ne (show Y ≠ (Y + 20) by omega) a20), (lk_ne (show Y ≠ (Y + 21) by omega) a21)⟩, ⟨_, _, (lk_ne (show Y ≠ (Y + 15) by omega) a15), (lk_ne (show Y ≠ (Y + 16) by omega) a16), b15⟩⟩
          have hFb : FR (modS Y) w w1 := by rw [ew1]; exact (FR.st (c' := .inr (11, .int (nI 0) :: .int st :: .ref (Y + 1) :: .ref (Y + 2) :: .ref (Y + 3) :: .ref (Y + 4) :: .int (nI pn) :: .ref (Y + 5) :: .ref (Y + 6) :: .ref (Y + 7) :: .int dg :: .ref (Y + 8) :: .int dd :: .ref (Y + 9) :: .ref (Y + 10) :: .ref (Y + 11) :: .ref (Y + 12) :: .int ld :: .int be :: .int (nI 0) :: .ref (Y + 13) :: .ref (Y + 14) :: .ref (Y + 15) :: .ref (Y + 16) :: .ref (Y + 17) :: .int (nI tl) :: .int fa :: .int re :: .int ig :: .ref (Y + 18) :: .ref (Y + 19) :: .ref (Y + 20) :: .ref (Y + 21) :: [])) FR.rf hY rfl (by unfold modS; omega))
          have c2b : w1[Y + 2]? = some (aI 0 626 g2) := by rw [ew1]; exact (lk_ne (show Y ≠ (Y + 2) by omega) a2)
          have cYb : w1[Y]? = some (.inr (11, .int (nI 0) :: .int st :: .ref (Y + 1) :: .ref (Y + 2) :: .ref (Y + 3) :: .ref (Y + 4) :: .int (nI pn) :: .ref (Y + 5) :: .ref (Y + 6) :: .ref (Y + 7) :: .int dg :: .ref (Y + 8) :: .int dd :: .ref (Y + 9) :: .ref (Y + 10) :: .ref (Y + 11) :: .ref (Y + 12) :: .int ld :: .int be :: .int (nI 0) :: .ref (Y + 13) :: .ref (Y + 14) :: .ref (Y + 15) :: .ref (Y + 16) :: .ref (Y + 17) :: .int (nI tl) :: .int fa :: .int re :: .int ig :: .ref (Y + 18) :: .ref (Y + 19) :: .ref (Y + 20) :: .ref (Y + 21) :: [])) := by rw [ew1]; exact (lk_eq hY)
          obtain ⟨⟨thb, dgb, ddb, ldb, beb, ibb, reb, igb, hYb⟩, ⟨⟨g1b, a1b, b1b⟩, ⟨g2b, a2b, b2b⟩, ⟨g3b, g4b, a3b, a4b, b3b, b4b⟩, ⟨g5b, g6b, a5b, a6b, b5b⟩, ⟨g11b, a11b, b11b⟩, ⟨g17b, a17b, b17b⟩⟩, ⟨g7b, g8b, g9b, g10b, g12b, g13b, g14b, g18b, g19b, g20b, g21b, a7b, a8b, a9b, a10b, a12b, a13b, a14b, a18b, a19b, a20b, a21b⟩, ⟨g15b, g16b, a15b, a16b, b15b⟩⟩ := id hMb
          refine GP.post ?_ (GP.weq (w1.set Y (.inr (11, .int (nI 0) :: .int st :: .ref (Y + 1) :: .ref (Y + 2) :: .ref (Y + 3) :: .ref (Y + 4) :: .int (nI pn) :: .ref (Y + 5) :: .ref (Y + 6) :: .ref (Y + 7) :: .int dg :: .ref (Y + 8) :: .int dd :: .ref (Y + 9) :: .ref (Y + 10) :: .ref (Y + 11) :: .ref (Y + 12) :: .int ld :: .int be :: .int (nI 0) :: .ref (Y + 13) :: .ref (Y + 14) :: .ref (Y + 15) :: .ref (Y + 16) :: .ref (Y + 17) :: .int (nI tl) :: .int fa :: .int re :: .int ig :: .ref (Y + 18) :: .ref (Y + 19) :: .ref (Y + 20) :: .ref (Y + 21) :: []))) (set_same cYb).symm (GP.lsub _ (by simp only [nI_pred1]; simp) (va_0 (y := y) cYb c2b b2 hi ((sh.1 i).1 + 1) 0 (Nat.le_refl _) (fun j hj => absurd hj (by omega)) (by rw [Nat.sub_self]; rfl))))
          rintro r wf ⟨v, bb, h1, h2, h3⟩
          refine Or.inr ⟨i, v, rfl, hi, hz.1, hz.2, h1, h2, ?_⟩
          rw [h3]
          exact ⟨⟨⟨_, _, _, _, _, _, _, _, (lk_eq cYb)⟩, ⟨⟨_, (lk_ne (show Y ≠ (Y + 1) by omega) a1b), b1b⟩, ⟨_, (lk_ne (show Y ≠ (Y + 2) by omega) c2b), b2⟩, ⟨_, _, (lk_ne (show Y ≠ (Y + 3) by omega) a3b), (lk_ne (show Y ≠ (Y + 4) by omega) a4b), b3b, b4b⟩, ⟨_, _, (lk_ne (show Y ≠ (Y + 5) by omega) a5b), (lk_ne (show Y ≠ (Y + 6) by omega) a6b), b5b⟩, ⟨_, (lk_ne (show Y ≠ (Y + 11) by omega) a11b), b11b⟩, ⟨_, (lk_ne (show Y ≠ (Y + 17) by omega) a17b), b17b⟩⟩, ⟨_, _, _, _, _, _, _, _, _, _, _, (lk_ne (show Y ≠ (Y + 7) by omega) a7b), (lk_ne (show Y ≠ (Y + 8) by omega) a8b), (lk_ne (show Y ≠ (Y + 9) by omega) a9b), (lk_ne (show Y ≠ (Y + 10) by omega) a10b), (lk_ne (show Y ≠ (Y + 12) by omega) a12b), (lk_ne (show Y ≠ (Y + 13) by omega) a13b), (lk_ne (show Y ≠ (Y + 14) by omega) a14b), (lk_ne (show Y ≠ (Y + 18) by omega) a18b), (lk_ne (show Y ≠ (Y + 19) by omega) a19b), (lk_ne (show Y ≠ (Y + 20) by omega) a20b), (lk_ne (show Y ≠ (Y + 21) by omega) a21b)⟩, ⟨_, _, (lk_ne (show Y ≠ (Y + 15) by omega) a15b), (lk_ne (show Y ≠ (Y + 16) by omega) a16b), b15b⟩⟩, hFb.tr (FR.st (c' := .inr (11, .int (nI 0) :: .int st :: .ref (Y + 1) :: .ref (Y + 2) :: .ref (Y + 3) :: .ref (Y + 4) :: .int (nI pn) :: .ref (Y + 5) :: .ref (Y + 6) :: .ref (Y + 7) :: .int dg :: .ref (Y + 8) :: .int dd :: .ref (Y + 9) :: .ref (Y + 10) :: .ref (Y + 11) :: .ref (Y + 12) :: .int ld :: .int be :: .int (nI bb) :: .ref (Y + 13) :: .ref (Y + 14) :: .ref (Y + 15) :: .ref (Y + 16) :: .ref (Y + 17) :: .int (nI tl) :: .int fa :: .int re :: .int ig :: .ref (Y + 18) :: .ref (Y + 19) :: .ref (Y + 20) :: .ref (Y + 21) :: [])) FR.rf cYb rfl (by unfold modS; omega))⟩
        · exact absurd hd9 (by decide)
      · refine GP.weq _ e9 ?_
        rw [IL, L50, Lm50] at hz
        refine n_if_ne (pc := 23) 30 dX12_value_23 (by decide) (by omega) (fun hd9 => ?_) (fun hd9 => ?_)
        · exact absurd rfl hd9
        · refine g_ldc2 (pc := 26) kc_X12_177 dX12_value_26 ?_
          exact g_lret (pc := 29) dX12_value_29 (Or.inl ⟨fun g => hz g.2, rfl, ⟨⟨_, _, _, _, _, _, _, _, (lk_eq hY)⟩, ⟨⟨_, (lk_ne (show Y ≠ (Y + 1) by omega) a1), b1⟩, ⟨_, (lk_ne (show Y ≠ (Y + 2) by omega) a2), b2⟩, ⟨_, _, (lk_ne (show Y ≠ (Y + 3) by omega) a3), (lk_ne (show Y ≠ (Y + 4) by omega) a4), b3, b4⟩, ⟨_, _, (lk_ne (show Y ≠ (Y + 5) by omega) a5), (lk_ne (show Y ≠ (Y + 6) by omega) a6), b5⟩, ⟨_, (lk_ne (show Y ≠ (Y + 11) by omega) a11), b11⟩, ⟨_, (lk_ne (show Y ≠ (Y + 17) by omega) a17), b17⟩⟩, ⟨_, _, _, _, _, _, _, _, _, _, _, (lk_ne (show Y ≠ (Y + 7) by omega) a7), (lk_ne (show Y ≠ (Y + 8) by omega) a8), (lk_ne (show Y ≠ (Y + 9) by omega) a9), (lk_ne (show Y ≠ (Y + 10) by omega) a10), (lk_ne (show Y ≠ (Y + 12) by omega) a12), (lk_ne (show Y ≠ (Y + 13) by omega) a13), (lk_ne (show Y ≠ (Y + 14) by omega) a14), (lk_ne (show Y ≠ (Y + 18) by omega) a18), (lk_ne (show Y ≠ (Y + 19) by omega) a19), (lk_ne (show Y ≠ (Y + 20) by omega) a20), (lk_ne (show Y ≠ (Y + 21) by omega) a21)⟩, ⟨_, _, (lk_ne (show Y ≠ (Y + 15) by omega) a15), (lk_ne (show Y ≠ (Y + 16) by omega) a16), b15⟩⟩, (FR.st (c' := .inr (11, .int (nI 0) :: .int st :: .ref (Y + 1) :: .ref (Y + 2) :: .ref (Y + 3) :: .ref (Y + 4) :: .int (nI pn) :: .ref (Y + 5) :: .ref (Y + 6) :: .ref (Y + 7) :: .int dg :: .ref (Y + 8) :: .int dd :: .ref (Y + 9) :: .ref (Y + 10) :: .ref (Y + 11) :: .ref (Y + 12) :: .int ld :: .int be :: .int ib :: .ref (Y + 13) :: .ref (Y + 14) :: .ref (Y + 15) :: .ref (Y + 16) :: .ref (Y + 17) :: .int (nI tl) :: .int fa :: .int re :: .int ig :: .ref (Y + 18) :: .ref (Y + 19) :: .ref (Y + 20) :: .ref (Y + 21) :: [])) FR.rf hY rfl (by unfold modS; omega))⟩)
  · refine GP.weq _ e9 ?_
    refine n_if_eq (pc := 9) 26 dX12_value_9 (by decide) (by omega) (fun hd9 => ?_) (fun hd9 => ?_)
    · refine g_ldc2 (pc := 26) kc_X12_177 dX12_value_26 ?_
      exact g_lret (pc := 29) dX12_value_29 (Or.inl ⟨fun g => hpi g.1, rfl, ⟨⟨_, _, _, _, _, _, _, _, (lk_eq hY)⟩, ⟨⟨_, (lk_ne (show Y ≠ (Y + 1) by omega) a1), b1⟩, ⟨_, (lk_ne (show Y ≠ (Y + 2) by omega) a2), b2⟩, ⟨_, _, (lk_ne (show Y ≠ (Y + 3) by omega) a3), (lk_ne (show Y ≠ (Y + 4) by omega) a4), b3, b4⟩, ⟨_, _, (lk_ne (show Y ≠ (Y + 5) by omega) a5), (lk_ne (show Y ≠ (Y + 6) by omega) a6), b5⟩, ⟨_, (lk_ne (show Y ≠ (Y + 11) by omega) a11), b11⟩, ⟨_, (lk_ne (show Y ≠ (Y + 17) by omega) a17), b17⟩⟩, ⟨_, _, _, _, _, _, _, _, _, _, _, (lk_ne (show Y ≠ (Y + 7) by omega) a7), (lk_ne (show Y ≠ (Y + 8) by omega) a8), (lk_ne (show Y ≠ (Y + 9) by omega) a9), (lk_ne (show Y ≠ (Y + 10) by omega) a10), (lk_ne (show Y ≠ (Y + 12) by omega) a12), (lk_ne (show Y ≠ (Y + 13) by omega) a13), (lk_ne (show Y ≠ (Y + 14) by omega) a14), (lk_ne (show Y ≠ (Y + 18) by omega) a18), (lk_ne (show Y ≠ (Y + 19) by omega) a19), (lk_ne (show Y ≠ (Y + 20) by omega) a20), (lk_ne (show Y ≠ (Y + 21) by omega) a21)⟩, ⟨_, _, (lk_ne (show Y ≠ (Y + 15) by omega) a15), (lk_ne (show Y ≠ (Y + 16) by omega) a16), b15⟩⟩, (FR.st (c' := .inr (11, .int (nI 0) :: .int st :: .ref (Y + 1) :: .ref (Y + 2) :: .ref (Y + 3) :: .ref (Y + 4) :: .int (nI pn) :: .ref (Y + 5) :: .ref (Y + 6) :: .ref (Y + 7) :: .int dg :: .ref (Y + 8) :: .int dd :: .ref (Y + 9) :: .ref (Y + 10) :: .ref (Y + 11) :: .ref (Y + 12) :: .int ld :: .int be :: .int ib :: .ref (Y + 13) :: .ref (Y + 14) :: .ref (Y + 15) :: .ref (Y + 16) :: .ref (Y + 17) :: .int (nI tl) :: .int fa :: .int re :: .int ig :: .ref (Y + 18) :: .ref (Y + 19) :: .ref (Y + 20) :: .ref (Y + 21) :: [])) FR.rf hY rfl (by unfold modS; omega))⟩)
    · exact absurd rfl hd9
