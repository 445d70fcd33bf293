/-! the reference: sign, isDigit, wrong, number -/
theorem by_all : ∀ n : Fin 256, ∀ c : Fin 128, ((Int8.ofUInt8 (UInt8.ofNat n.1)).toInt32 = nI c.1 ↔ ub (Int8.ofUInt8 (UInt8.ofNat n.1)).toInt32 = c.1) := by decide +kernel
theorem by_dig : ∀ n : Fin 256, ((48 ≤ (Int8.ofUInt8 (UInt8.ofNat n.1)).toInt32.toInt ∧ (Int8.ofUInt8 (UInt8.ofNat n.1)).toInt32.toInt ≤ 57) ↔ (48 ≤ ub (Int8.ofUInt8 (UInt8.ofNat n.1)).toInt32 ∧ ub (Int8.ofUInt8 (UInt8.ofNat n.1)).toInt32 ≤ 57)) := by decide +kernel
theorem by_ex {x : Int32} (h : sb x = x) : ∃ n : Fin 256, x = (Int8.ofUInt8 (UInt8.ofNat n.1)).toInt32 := by
  refine ⟨⟨x.toInt8.toUInt8.toNat, UInt8.toNat_lt _⟩, ?_⟩
  show x = (Int8.ofUInt8 (UInt8.ofNat x.toInt8.toUInt8.toNat)).toInt32
  rw [UInt8.ofNat_toNat]
  exact h.symm
theorem by_c {x : Int32} {c : Nat} (h : sb x = x) (hc : c < 128) : x = nI c ↔ ub x = c := by
  obtain ⟨n, rfl⟩ := by_ex h
  exact by_all n ⟨c, hc⟩
theorem by_d {x : Int32} (h : sb x = x) : (48 ≤ x.toInt ∧ x.toInt ≤ 57) ↔ (48 ≤ ub x ∧ ub x ≤ 57) := by
  obtain ⟨n, rfl⟩ := by_ex h
  exact by_dig n
def chA (f : Nat → Int32) (ln q : Nat) : Int32 := if q < ln then f q else -1
def sbT (f : Nat → Int32) (ln : Nat) : Prop := ln ≤ 400 ∧ ∀ i, i < ln → sb (f i) = f i
theorem chA_c {f : Nat → Int32} {ln q c : Nat} (h : sbT f ln) (hc : c < 128) : chA f ln q = nI c ↔ (q < ln ∧ ub (f q) = c) := by
  unfold chA
  by_cases e : q < ln
  · rw [if_pos e, by_c (h.2 q e) hc]
    exact ⟨fun g => ⟨e, g⟩, fun g => g.2⟩
  · rw [if_neg e]
    refine ⟨fun g => absurd g ?_, fun g => absurd g.1 e⟩
    intro g
    have h1 : (nI c).toInt = c := nI_toInt (by omega)
    rw [← g, show (-1 : Int32).toInt = -1 from by decide] at h1
    omega
theorem chA_d {f : Nat → Int32} {ln q : Nat} (h : sbT f ln) : (48 ≤ (chA f ln q).toInt ∧ (chA f ln q).toInt ≤ 57) ↔ (q < ln ∧ 48 ≤ ub (f q) ∧ ub (f q) ≤ 57) := by
  unfold chA
  by_cases e : q < ln
  · rw [if_pos e, by_d (h.2 q e)]
    exact ⟨fun g => ⟨e, g⟩, fun g => g.2⟩
  · rw [if_neg e, show (-1 : Int32).toInt = -1 from by decide]
    exact ⟨fun g => absurd g.1 (by omega), fun g => absurd g.1 e⟩
theorem skp_id {f : Nat → Int32} {ln : Nat} : ∀ k p, ln - p ≤ k → ∀ k2, skp f ln k2 (skp f ln k p) = skp f ln k p
  | 0, p, h, k2 => by
    show skp f ln k2 p = p
    cases k2 with
    | zero => rfl
    | succ k2 =>
      show (if p < ln ∧ ub (f p) = 32 then skp f ln k2 (p + 1) else p) = p
      rw [if_neg (by omega)]
  | k + 1, p, h, k2 => by
    show skp f ln k2 (if p < ln ∧ ub (f p) = 32 then skp f ln k (p + 1) else p) = (if p < ln ∧ ub (f p) = 32 then skp f ln k (p + 1) else p)
    by_cases e : p < ln ∧ ub (f p) = 32
    · rw [if_pos e]
      exact skp_id k (p + 1) (by omega) k2
    · rw [if_neg e]
      cases k2 with
      | zero => rfl
      | succ k2 =>
        show (if p < ln ∧ ub (f p) = 32 then skp f ln k2 (p + 1) else p) = p
        rw [if_neg e]
theorem skB_id {f : Nat → Int32} {ln p : Nat} : skB f ln (skB f ln p) = skB f ln p := skp_id _ _ (Nat.le_refl _) _
/-- a number, most at most, as the reference takes it -/
def tkm (f : Nat → Int32) (ln most : Nat) : Nat → Nat → Nat → Nat × Nat
  | 0, p, v => (v, p)
  | k + 1, p, v => if p < ln ∧ 48 ≤ ub (f p) ∧ ub (f p) ≤ 57 then tkm f ln most k (p + 1) (if most < v then v else 10 * v + ub (f p) - 48) else (v, p)
theorem tkm_tkn {f : Nat → Int32} {ln most : Nat} (hm : most ≤ 9999) : ∀ k p v u, ((v ≤ most ∧ u = v) ∨ (most < v ∧ most < u)) → u ≤ 10000 → (tkm f ln most k p v).2 = (tkn f ln k p u).2 ∧ (((tkm f ln most k p v).1 ≤ most ∧ (tkn f ln k p u).1 = (tkm f ln most k p v).1) ∨ (most < (tkm f ln most k p v).1 ∧ most < (tkn f ln k p u).1))
  | 0, p, v, u, h, hu => ⟨rfl, h⟩
  | k + 1, p, v, u, h, hu => by
    show (if p < ln ∧ 48 ≤ ub (f p) ∧ ub (f p) ≤ 57 then tkm f ln most k (p + 1) (if most < v then v else 10 * v + ub (f p) - 48) else (v, p)).2 = (if p < ln ∧ 48 ≤ ub (f p) ∧ ub (f p) ≤ 57 then tkn f ln k (p + 1) (min (u * 10 + ub (f p) - 48) 10000) else (u, p)).2 ∧ (((if p < ln ∧ 48 ≤ ub (f p) ∧ ub (f p) ≤ 57 then tkm f ln most k (p + 1) (if most < v then v else 10 * v + ub (f p) - 48) else (v, p)).1 ≤ most ∧ (if p < ln ∧ 48 ≤ ub (f p) ∧ ub (f p) ≤ 57 then tkn f ln k (p + 1) (min (u * 10 + ub (f p) - 48) 10000) else (u, p)).1 = (if p < ln ∧ 48 ≤ ub (f p) ∧ ub (f p) ≤ 57 then tkm f ln most k (p + 1) (if most < v then v else 10 * v + ub (f p) - 48) else (v, p)).1) ∨ (most < (if p < ln ∧ 48 ≤ ub (f p) ∧ ub (f p) ≤ 57 then tkm f ln most k (p + 1) (if most < v then v else 10 * v + ub (f p) - 48) else (v, p)).1 ∧ most < (if p < ln ∧ 48 ≤ ub (f p) ∧ ub (f p) ≤ 57 then tkn f ln k (p + 1) (min (u * 10 + ub (f p) - 48) 10000) else (u, p)).1))
    by_cases e : p < ln ∧ 48 ≤ ub (f p) ∧ ub (f p) ≤ 57
    · rw [if_pos e, if_pos e]
      refine tkm_tkn hm k (p + 1) _ _ ?_ (by omega)
      by_cases g : most < v
      · rw [if_pos g]; omega
      · rw [if_neg g]; omega
    · rw [if_neg e, if_neg e]
      exact ⟨rfl, h⟩
theorem tkm_le {f : Nat → Int32} {ln most : Nat} (hm : most ≤ 9999) : ∀ k p v, p ≤ ln → v ≤ 100000 → p ≤ (tkm f ln most k p v).2 ∧ (tkm f ln most k p v).2 ≤ ln ∧ (tkm f ln most k p v).1 ≤ 100000
  | 0, p, v, h, hv => ⟨Nat.le_refl _, h, hv⟩
  | k + 1, p, v, h, hv => by
    simp only [tkm]
    by_cases e : p < ln ∧ 48 ≤ ub (f p) ∧ ub (f p) ≤ 57
    · rw [if_pos e]
      have := tkm_le (f := f) (ln := ln) hm k (p + 1) (if most < v then v else 10 * v + ub (f p) - 48) (by omega) (by split <;> omega)
      omega
    · rw [if_neg e]
      exact ⟨Nat.le_refl _, h, hv⟩
abbrev BX12_sign (w0 : Wd) (Post : Option Value → Wd → Prop) (w : Wd) (pc : Nat) (ls : List (Nat × Value)) (st : List Value) : Prop := GP "sign" RX12 cX12_sign 1 (some .int) 0 0 none w0 Post w pc ls st
abbrev EX12_sign (As : List Value) (w : Wd) (Post : Option Value → Wd → Prop) : Prop := EP yX12_sign cX12_sign 1 (some .int) 0 As w Post
theorem sgn_loop {w0 w : Wd} {Y ln : Nat} {th st nu dg dd ld be ib fa ig : Int32} {f : Nat → Int32} {re : Int32} (hY : w[Y]? = some (oM Y th st nu dg dd ld be ib (nI ln) fa re ig)) (h17 : w[Y + 17]? = some (aI 2 400 f)) (hs : sbT f ln) : ∀ (z p : Nat), ln = p + z → BX12_sign w0 (fun r w' => r = some (.int (chA f ln (skp f ln z p))) ∧ w' = w.set Y (oM Y th st nu dg dd ld be ib (nI ln) fa (nI (skp f ln z p)) ig)) (w.set Y (.inr (11, .int th :: .int st :: .ref (Y + 1) :: .ref (Y + 2) :: .ref (Y + 3) :: .ref (Y + 4) :: .int nu :: .ref (Y + 5) :: .ref (Y + 6) :: .ref (Y + 7) :: .int dg :: .ref (Y + 8) :: .int dd :: .ref (Y + 9) :: .ref (Y + 10) :: .ref (Y + 11) :: .ref (Y + 12) :: .int ld :: .int be :: .int ib :: .ref (Y + 13) :: .ref (Y + 14) :: .ref (Y + 15) :: .ref (Y + 16) :: .ref (Y + 17) :: .int (nI ln) :: .int fa :: .int (nI p) :: .int ig :: .ref (Y + 18) :: .ref (Y + 19) :: .ref (Y + 20) :: .ref (Y + 21) :: []))) 0 [(0, .ref Y)] [] := by
  have hl := hs.1
  intro z
  induction z with
  | zero =>
    intro p hz
    refine g_aload_n (pc := 0) 0 dX12_sign_0 rfl rfl ?_
    refine g_get (pc := 1) dX12_sign_1 fk_X12_255 (lk_eq hY) rfl ?_
    refine g_aload_n (pc := 4) 0 dX12_sign_4 rfl rfl ?_
    refine g_get (pc := 5) dX12_sign_5 fk_X12_249 (lk_eq hY) rfl ?_
    refine n_icmp_ge (pc := 8) 38 dX12_sign_8 (by decide) (by omega) (by omega) (fun hb9 => ?_) (fun hb9 => ?_)
    · refine g_aload_n (pc := 38) 0 dX12_sign_38 rfl rfl ?_
      refine g_get (pc := 39) dX12_sign_39 fk_X12_255 (lk_eq hY) rfl ?_
      refine g_aload_n (pc := 42) 0 dX12_sign_42 rfl rfl ?_
      refine g_get (pc := 43) dX12_sign_43 fk_X12_249 (lk_eq hY) rfl ?_
      refine n_icmp_ge (pc := 46) 61 dX12_sign_46 (by decide) (by omega) (by omega) (fun hq => ?_) (fun hq => ?_)
      · refine g_iconst (pc := 61) (v := -1) dX12_sign_61 (by decide) ?_
        exact g_iret (pc := 62) dX12_sign_62 ⟨by show _ = some (Value.int (if p < ln then f p else -1)); rw [if_neg (by omega)], rfl⟩
      · exact absurd hq (by omega)
    · exact absurd (show ln ≤ p by omega) hb9
  | succ z ih =>
    intro p hz
    have hb32 := by_c (c := 32) (hs.2 p (by omega)) (by decide)
    refine g_aload_n (pc := 0) 0 dX12_sign_0 rfl rfl ?_
    refine g_get (pc := 1) dX12_sign_1 fk_X12_255 (lk_eq hY) rfl ?_
    refine g_aload_n (pc := 4) 0 dX12_sign_4 rfl rfl ?_
    refine g_get (pc := 5) dX12_sign_5 fk_X12_249 (lk_eq hY) rfl ?_
    refine n_icmp_ge (pc := 8) 38 dX12_sign_8 (by decide) (by omega) (by omega) (fun hb9 => ?_) (fun hb9 => ?_)
    · exact absurd hb9 (by omega)
    · refine g_aload_n (pc := 11) 0 dX12_sign_11 rfl rfl ?_
      refine g_get (pc := 12) dX12_sign_12 fk_X12_60 (lk_eq hY) rfl ?_
      refine g_aload_n (pc := 15) 0 dX12_sign_15 rfl rfl ?_
      refine g_get (pc := 16) dX12_sign_16 fk_X12_255 (lk_eq hY) rfl ?_
      refine g_bald (pc := 19) p dX12_sign_19 (lk_ne (show Y ≠ (Y + 17) by omega) h17) (IXn (by omega) (by omega)) ?_
      refine g_bipush (pc := 20) (v := nI 32) dX12_sign_20 (by decide) ?_
      refine g_icmp_ne (pc := 22) 38 dX12_sign_22 (by decide) (fun hbl => ?_) (fun hbl => ?_)
      · have e9 : skp f ln (z + 1) p = p := by show (if p < ln ∧ ub (f p) = 32 then skp f ln z (p + 1) else p) = p; rw [if_neg (fun g => hbl (hb32.mpr g.2))]
        rw [e9]
        refine g_aload_n (pc := 38) 0 dX12_sign_38 rfl rfl ?_
        refine g_get (pc := 39) dX12_sign_39 fk_X12_255 (lk_eq hY) rfl ?_
        refine g_aload_n (pc := 42) 0 dX12_sign_42 rfl rfl ?_
        refine g_get (pc := 43) dX12_sign_43 fk_X12_249 (lk_eq hY) rfl ?_
        refine n_icmp_ge (pc := 46) 61 dX12_sign_46 (by decide) (by omega) (by omega) (fun hq => ?_) (fun hq => ?_)
        · exact absurd hq (by omega)
        · refine g_aload_n (pc := 49) 0 dX12_sign_49 rfl rfl ?_
          refine g_get (pc := 50) dX12_sign_50 fk_X12_60 (lk_eq hY) rfl ?_
          refine g_aload_n (pc := 53) 0 dX12_sign_53 rfl rfl ?_
          refine g_get (pc := 54) dX12_sign_54 fk_X12_255 (lk_eq hY) rfl ?_
          refine g_bald (pc := 57) p dX12_sign_57 (lk_ne (show Y ≠ (Y + 17) by omega) h17) (IXn (by omega) (by omega)) ?_
          refine g_goto (pc := 58) 62 dX12_sign_58 (by decide) ?_
          exact g_iret (pc := 62) dX12_sign_62 ⟨by show _ = some (Value.int (if p < ln then f p else -1)); rw [if_pos (by omega)], rfl⟩
      · rw [Classical.not_not] at hbl
        have e9 : skp f ln (z + 1) p = skp f ln z (p + 1) := by show (if p < ln ∧ ub (f p) = 32 then skp f ln z (p + 1) else p) = _; rw [if_pos ⟨by omega, hb32.mp hbl⟩]
        rw [e9]
        refine g_aload_n (pc := 25) 0 dX12_sign_25 rfl rfl ?_
        refine g_dup (pc := 26) dX12_sign_26 rfl ?_
        refine g_get (pc := 27) dX12_sign_27 fk_X12_255 (lk_eq hY) rfl ?_
        refine g_iconst (pc := 30) (v := nI 1) dX12_sign_30 (by decide) ?_
        refine n_iadd (pc := 31) dX12_sign_31 ?_
        refine g_put (pc := 32) (.int th :: .int st :: .ref (Y + 1) :: .ref (Y + 2) :: .ref (Y + 3) :: .ref (Y + 4) :: .int nu :: .ref (Y + 5) :: .ref (Y + 6) :: .ref (Y + 7) :: .int dg :: .ref (Y + 8) :: .int dd :: .ref (Y + 9) :: .ref (Y + 10) :: .ref (Y + 11) :: .ref (Y + 12) :: .int ld :: .int be :: .int ib :: .ref (Y + 13) :: .ref (Y + 14) :: .ref (Y + 15) :: .ref (Y + 16) :: .ref (Y + 17) :: .int (nI ln) :: .int fa :: .int (nI (p + 1)) :: .int ig :: .ref (Y + 18) :: .ref (Y + 19) :: .ref (Y + 20) :: .ref (Y + 21) :: []) dX12_sign_32 fk_X12_255 (lk_eq hY) (Nat.le_of_ble_eq_true rfl) rfl rfl ?_
        refine GP.weq (w.set Y (.inr (11, .int th :: .int st :: .ref (Y + 1) :: .ref (Y + 2) :: .ref (Y + 3) :: .ref (Y + 4) :: .int nu :: .ref (Y + 5) :: .ref (Y + 6) :: .ref (Y + 7) :: .int dg :: .ref (Y + 8) :: .int dd :: .ref (Y + 9) :: .ref (Y + 10) :: .ref (Y + 11) :: .ref (Y + 12) :: .int ld :: .int be :: .int ib :: .ref (Y + 13) :: .ref (Y + 14) :: .ref (Y + 15) :: .ref (Y + 16) :: .ref (Y + 17) :: .int (nI ln) :: .int fa :: .int (nI (p + 1)) :: .int ig :: .ref (Y + 18) :: .ref (Y + 19) :: .ref (Y + 20) :: .ref (Y + 21) :: []))) (by rw [List.set_set]) ?_
        refine g_goto (pc := 35) 0 dX12_sign_35 (by decide) ?_
        exact GP.lsub _ (by simp) (ih (p + 1) (by omega))
theorem mp_sign (w : Wd) {Y ln : Nat} {th st nu dg dd ld be ib fa ig : Int32} {f : Nat → Int32} {p : Nat} (hY : w[Y]? = some (oM Y th st nu dg dd ld be ib (nI ln) fa (nI p) ig)) (h17 : w[Y + 17]? = some (aI 2 400 f)) (hs : sbT f ln) (hp : p ≤ ln) : EX12_sign [.ref Y] w (fun r w' => r = some (.int (chA f ln (skB f ln p))) ∧ w' = w.set Y (oM Y th st nu dg dd ld be ib (nI ln) fa (nI (skB f ln p)) ig)) := by
  refine EP.of (plainFor_of_name (by decide)) [(0, .ref Y)] rfl (Nat.le_of_ble_eq_true rfl) (fun r wf h => by obtain ⟨rfl, -⟩ := h; trivial) ?_
  show BX12_sign w _ w 0 [(0, .ref Y)] []
  refine GP.weq (w.set Y (.inr (11, .int th :: .int st :: .ref (Y + 1) :: .ref (Y + 2) :: .ref (Y + 3) :: .ref (Y + 4) :: .int nu :: .ref (Y + 5) :: .ref (Y + 6) :: .ref (Y + 7) :: .int dg :: .ref (Y + 8) :: .int dd :: .ref (Y + 9) :: .ref (Y + 10) :: .ref (Y + 11) :: .ref (Y + 12) :: .int ld :: .int be :: .int ib :: .ref (Y + 13) :: .ref (Y + 14) :: .ref (Y + 15) :: .ref (Y + 16) :: .ref (Y + 17) :: .int (nI ln) :: .int fa :: .int (nI p) :: .int ig :: .ref (Y + 18) :: .ref (Y + 19) :: .ref (Y + 20) :: .ref (Y + 21) :: []))) (set_same hY).symm ?_
  exact GP.lsub _ (by simp) (sgn_loop hY h17 hs (ln - p) p (by omega))
abbrev BX12_isDigit (w0 : Wd) (Post : Option Value → Wd → Prop) (w : Wd) (pc : Nat) (ls : List (Nat × Value)) (st : List Value) : Prop := GP "isDigit" RX12 cX12_isDigit 1 (some .boolean) 1 39 none w0 Post w pc ls st
abbrev EX12_isDigit (As : List Value) (w : Wd) (Post : Option Value → Wd → Prop) : Prop := EP yX12_isDigit cX12_isDigit 1 (some .boolean) 1 As w Post
theorem mp_isDigit (w : Wd) {x : Int32} : EX12_isDigit [.int x] w (fun r w' => (r = some (.int (nI 1)) ∧ (48 ≤ x.toInt ∧ x.toInt ≤ 57) ∧ w' = w) ∨ (r = some (.int (nI 0)) ∧ ¬ (48 ≤ x.toInt ∧ x.toInt ≤ 57) ∧ w' = w)) := by
  refine EP.of (plainFor_of_name (by decide)) [(0, .int x)] rfl (Nat.le_of_ble_eq_true rfl) (fun r wf h => by rcases h with ⟨rfl, -⟩ | ⟨rfl, -⟩; exact Or.inr rfl; exact Or.inl rfl) ?_
  show BX12_isDigit w _ w 0 [(0, .int x)] []
  refine g_iload_n (pc := 0) 0 dX12_isDigit_0 rfl rfl ?_
  refine g_i2l (pc := 1) dX12_isDigit_1 ?_
  refine g_ldc2 (pc := 2) kc_X12_258 dX12_isDigit_2 ?_
  refine g_ldc2 (pc := 5) kc_X12_260 dX12_isDigit_5 ?_
  refine g_callS (pc := 8) [.long x.toInt64, .long (48), .long (57)] dX12_isDigit_8 cs_X12_103.1 cs_X12_103.2 rfl rfl (Nat.le_of_ble_eq_true rfl) (by decide) (by decide) (mp_in _) ?_
  rintro _ w9 (⟨rfl, h, e9⟩ | ⟨rfl, h, e9⟩)
  · refine GP.weq _ e9 ?_
    rw [IL, show (48 : Int64).toInt = 48 from by decide, show (57 : Int64).toInt = 57 from by decide] at h
    exact g_iret (pc := 11) dX12_isDigit_11 (Or.inl ⟨rfl, h, rfl⟩)
  · refine GP.weq _ e9 ?_
    rw [IL, show (48 : Int64).toInt = 48 from by decide, show (57 : Int64).toInt = 57 from by decide] at h
    exact g_iret (pc := 11) dX12_isDigit_11 (Or.inr ⟨rfl, h, rfl⟩)
abbrev BX12_wrong (w0 : Wd) (Post : Option Value → Wd → Prop) (w : Wd) (pc : Nat) (ls : List (Nat × Value)) (st : List Value) : Prop := GP "wrong" RX12 cX12_wrong 2 (some .int) 0 0 none w0 Post w pc ls st
abbrev EX12_wrong (As : List Value) (w : Wd) (Post : Option Value → Wd → Prop) : Prop := EP yX12_wrong cX12_wrong 2 (some .int) 0 As w Post
theorem mp_wrong (w : Wd) {Y : Nat} {th st nu dg dd ld be ib ta fa re : Int32} (hY : w[Y]? = some (oM Y th st nu dg dd ld be ib ta fa re (nI 1))) {x : Int32} : EX12_wrong [.ref Y, .int x] w (fun r w' => r = some (.int (nI 0)) ∧ w' = w.set Y (oM Y th st nu dg dd ld be ib ta x re (nI 0))) := by
  refine EP.of (plainFor_of_name (by decide)) [(0, .ref Y), (1, .int x)] rfl (Nat.le_of_ble_eq_true rfl) (fun r wf h => by obtain ⟨rfl, -⟩ := h; trivial) ?_
  show BX12_wrong w _ w 0 [(0, .ref Y), (1, .int x)] []
  refine g_aload_n (pc := 0) 0 dX12_wrong_0 rfl rfl ?_
  refine g_aload_n (pc := 1) 0 dX12_wrong_1 rfl rfl ?_
  refine g_get (pc := 2) dX12_wrong_2 fk_X12_262 hY rfl ?_
  refine n_if_eq (pc := 5) 12 dX12_wrong_5 (by decide) (by omega) (fun h => ?_) (fun h => ?_)
  · exact absurd h (by decide)
  · refine g_iload_n (pc := 8) 1 dX12_wrong_8 rfl rfl ?_
    refine g_goto (pc := 9) 16 dX12_wrong_9 (by decide) ?_
    refine g_put (pc := 16) (.int th :: .int st :: .ref (Y + 1) :: .ref (Y + 2) :: .ref (Y + 3) :: .ref (Y + 4) :: .int nu :: .ref (Y + 5) :: .ref (Y + 6) :: .ref (Y + 7) :: .int dg :: .ref (Y + 8) :: .int dd :: .ref (Y + 9) :: .ref (Y + 10) :: .ref (Y + 11) :: .ref (Y + 12) :: .int ld :: .int be :: .int ib :: .ref (Y + 13) :: .ref (Y + 14) :: .ref (Y + 15) :: .ref (Y + 16) :: .ref (Y + 17) :: .int ta :: .int x :: .int re :: .int (nI 1) :: .ref (Y + 18) :: .ref (Y + 19) :: .ref (Y + 20) :: .ref (Y + 21) :: []) dX12_wrong_16 fk_X12_64 hY (Nat.le_of_ble_eq_true rfl) rfl rfl ?_
    refine g_aload_n (pc := 19) 0 dX12_wrong_19 rfl rfl ?_
    refine g_iconst (pc := 20) (v := nI 0) dX12_wrong_20 (by decide) ?_
    refine g_put (pc := 21) (.int th :: .int st :: .ref (Y + 1) :: .ref (Y + 2) :: .ref (Y + 3) :: .ref (Y + 4) :: .int nu :: .ref (Y + 5) :: .ref (Y + 6) :: .ref (Y + 7) :: .int dg :: .ref (Y + 8) :: .int dd :: .ref (Y + 9) :: .ref (Y + 10) :: .ref (Y + 11) :: .ref (Y + 12) :: .int ld :: .int be :: .int ib :: .ref (Y + 13) :: .ref (Y + 14) :: .ref (Y + 15) :: .ref (Y + 16) :: .ref (Y + 17) :: .int ta :: .int x :: .int re :: .int (nI 0) :: .ref (Y + 18) :: .ref (Y + 19) :: .ref (Y + 20) :: .ref (Y + 21) :: []) dX12_wrong_21 fk_X12_262 (lk_eq hY) (Nat.le_of_ble_eq_true rfl) rfl rfl ?_
    refine GP.weq (w.set Y (.inr (11, .int th :: .int st :: .ref (Y + 1) :: .ref (Y + 2) :: .ref (Y + 3) :: .ref (Y + 4) :: .int nu :: .ref (Y + 5) :: .ref (Y + 6) :: .ref (Y + 7) :: .int dg :: .ref (Y + 8) :: .int dd :: .ref (Y + 9) :: .ref (Y + 10) :: .ref (Y + 11) :: .ref (Y + 12) :: .int ld :: .int be :: .int ib :: .ref (Y + 13) :: .ref (Y + 14) :: .ref (Y + 15) :: .ref (Y + 16) :: .ref (Y + 17) :: .int ta :: .int x :: .int re :: .int (nI 0) :: .ref (Y + 18) :: .ref (Y + 19) :: .ref (Y + 20) :: .ref (Y + 21) :: []))) (by rw [List.set_set]) ?_
    refine g_iconst (pc := 24) (v := nI 0) dX12_wrong_24 (by decide) ?_
    exact g_iret (pc := 25) dX12_wrong_25 ⟨rfl, rfl⟩
abbrev BX12_number (w0 : Wd) (Post : Option Value → Wd → Prop) (w : Wd) (pc : Nat) (ls : List (Nat × Value)) (st : List Value) : Prop := GP "number" RX12 cX12_number 4 (some .int) 2 78 none w0 Post w pc ls st
abbrev EX12_number (As : List Value) (w : Wd) (Post : Option Value → Wd → Prop) : Prop := EP yX12_number cX12_number 4 (some .int) 2 As w Post
theorem num_loop {w0 w : Wd} {Y ln p most : Nat} {th st nu dg dd ld be ib fa : Int32} {f : Nat → Int32} (hY : w[Y]? = some (oM Y th st nu dg dd ld be ib (nI ln) fa (nI p) (nI 1))) (h17 : w[Y + 17]? = some (aI 2 400 f)) (hs : sbT f ln) (hp : p ≤ ln) (hm : most ≤ 9999) {q : Nat} (hq : q = skB f ln p) (hdq : (q < ln ∧ 48 ≤ ub (f q) ∧ ub (f q) ≤ 57)) : ∀ (z e v : Nat), ln = e + z → v ≤ 100000 → tkm f ln most (ln - q) q 0 = tkm f ln most z e v → BX12_number w0 (fun r w' => ((skB f ln p < ln ∧ 48 ≤ ub (f (skB f ln p)) ∧ ub (f (skB f ln p)) ≤ 57) ∧ (tkN f ln (skB f ln p) 0).1 ≤ most ∧ r = some (.int (nI (tkN f ln (skB f ln p) 0).1)) ∧ w' = w.set Y (oM Y th st nu dg dd ld be ib (nI ln) fa (nI (tkN f ln (skB f ln p) 0).2) (nI 1))) ∨ ((¬ (skB f ln p < ln ∧ 48 ≤ ub (f (skB f ln p)) ∧ ub (f (skB f ln p)) ≤ 57) ∨ most < (tkN f ln (skB f ln p) 0).1) ∧ ∃ e v, e ≤ ln ∧ r = some (.int v) ∧ w' = w.set Y (oM Y th st nu dg dd ld be ib (nI ln) (nI (skB f ln p)) (nI e) (nI 0)))) (w.set Y (.inr (11, .int th :: .int st :: .ref (Y + 1) :: .ref (Y + 2) :: .ref (Y + 3) :: .ref (Y + 4) :: .int nu :: .ref (Y + 5) :: .ref (Y + 6) :: .ref (Y + 7) :: .int dg :: .ref (Y + 8) :: .int dd :: .ref (Y + 9) :: .ref (Y + 10) :: .ref (Y + 11) :: .ref (Y + 12) :: .int ld :: .int be :: .int ib :: .ref (Y + 13) :: .ref (Y + 14) :: .ref (Y + 15) :: .ref (Y + 16) :: .ref (Y + 17) :: .int (nI ln) :: .int fa :: .int (nI e) :: .int (nI 1) :: .ref (Y + 18) :: .ref (Y + 19) :: .ref (Y + 20) :: .ref (Y + 21) :: []))) 26 [(3, .int (nI v)), (2, .int (nI q)), (1, .int (nI most)), (0, .ref Y)] [] := by
  have hl := hs.1
  intro z
  induction z with
  | zero =>
    intro e v hz hv hst
    refine g_aload_n (pc := 26) 3 dX12_number_26 rfl rfl ?_
    refine g_get (pc := 27) dX12_number_27 fk_X12_255 (lk_eq hY) rfl ?_
    refine g_aload_n (pc := 30) 3 dX12_number_30 rfl rfl ?_
    refine g_get (pc := 31) dX12_number_31 fk_X12_249 (lk_eq hY) rfl ?_
    refine n_icmp_ge (pc := 34) 92 dX12_number_34 (by decide) (by omega) (by omega) (fun hb9 => ?_) (fun hb9 => ?_)
    · have hrel := tkm_tkn (f := f) (ln := ln) hm (ln - q) q 0 0 (Or.inl ⟨Nat.zero_le _, rfl⟩) (by omega)
      rw [hst] at hrel
      have e1 : tkm f ln most 0 e v = (v, e) := rfl
      rw [e1] at hrel
      simp only at hrel
      refine g_iload_n (pc := 92) 0 dX12_number_92 rfl rfl ?_
      refine g_iload_n (pc := 93) 2 dX12_number_93 rfl rfl ?_
      refine n_icmp_le (pc := 94) 105 dX12_number_94 (by decide) (by omega) (by omega) (fun hmo => ?_) (fun hmo => ?_)
      · refine g_iload_n (pc := 105) 0 dX12_number_105 rfl rfl ?_
        exact g_iret (pc := 106) dX12_number_106 (Or.inl ⟨by rw [← hq]; exact hdq, by rw [← hq]; show (tkn f ln (ln - q) q 0).1 ≤ most; omega, by rw [← hq]; show _ = some (Value.int (nI (tkn f ln (ln - q) q 0).1)); rw [show (tkn f ln (ln - q) q 0).1 = v by omega], by rw [← hq]; show _ = w.set Y (oM Y th st nu dg dd ld be ib (nI ln) fa (nI (tkn f ln (ln - q) q 0).2) (nI 1)); rw [show (tkn f ln (ln - q) q 0).2 = e by omega]⟩)
      · refine g_aload_n (pc := 97) 3 dX12_number_97 rfl rfl ?_
        refine g_iload_n (pc := 98) 1 dX12_number_98 rfl rfl ?_
        refine g_callV (pc := 99) [.int (nI q)] dX12_number_99 cv_X12_271.1 cv_X12_271.2.1 cv_X12_271.2.2.1 cv_X12_271.2.2.2 (lk_eq hY) rfl rfl (Nat.le_of_ble_eq_true rfl) (by decide) (by decide) (mp_wrong _ (lk_eq hY)) ?_
        rintro _ w9 ⟨rfl, e9⟩
        refine GP.weq _ e9 ?_
        refine GP.weq (w.set Y (.inr (11, .int th :: .int st :: .ref (Y + 1) :: .ref (Y + 2) :: .ref (Y + 3) :: .ref (Y + 4) :: .int nu :: .ref (Y + 5) :: .ref (Y + 6) :: .ref (Y + 7) :: .int dg :: .ref (Y + 8) :: .int dd :: .ref (Y + 9) :: .ref (Y + 10) :: .ref (Y + 11) :: .ref (Y + 12) :: .int ld :: .int be :: .int ib :: .ref (Y + 13) :: .ref (Y + 14) :: .ref (Y + 15) :: .ref (Y + 16) :: .ref (Y + 17) :: .int (nI ln) :: .int (nI q) :: .int (nI e) :: .int (nI 0) :: .ref (Y + 18) :: .ref (Y + 19) :: .ref (Y + 20) :: .ref (Y + 21) :: []))) (by rw [show ((w.set Y (.inr (11, .int th :: .int st :: .ref (Y + 1) :: .ref (Y + 2) :: .ref (Y + 3) :: .ref (Y + 4) :: .int nu :: .ref (Y + 5) :: .ref (Y + 6) :: .ref (Y + 7) :: .int dg :: .ref (Y + 8) :: .int dd :: .ref (Y + 9) :: .ref (Y + 10) :: .ref (Y + 11) :: .ref (Y + 12) :: .int ld :: .int be :: .int ib :: .ref (Y + 13) :: .ref (Y + 14) :: .ref (Y + 15) :: .ref (Y + 16) :: .ref (Y + 17) :: .int (nI ln) :: .int fa :: .int (nI e) :: .int (nI 1) :: .ref (Y + 18) :: .ref (Y + 19) :: .ref (Y + 20) :: .ref (Y + 21) :: []))).set Y (.inr (11, .int th :: .int st :: .ref (Y + 1) :: .ref (Y + 2) :: .ref (Y + 3) :: .ref (Y + 4) :: .int nu :: .ref (Y + 5) :: .ref (Y + 6) :: .ref (Y + 7) :: .int dg :: .ref (Y + 8) :: .int dd :: .ref (Y + 9) :: .ref (Y + 10) :: .ref (Y + 11) :: .ref (Y + 12) :: .int ld :: .int be :: .int ib :: .ref (Y + 13) :: .ref (Y + 14) :: .ref (Y + 15) :: .ref (Y + 16) :: .ref (Y + 17) :: .int (nI ln) :: .int (nI q) :: .int (nI e) :: .int (nI 0) :: .ref (Y + 18) :: .ref (Y + 19) :: .ref (Y + 20) :: .ref (Y + 21) :: []))) = (w.set Y (.inr (11, .int th :: .int st :: .ref (Y + 1) :: .ref (Y + 2) :: .ref (Y + 3) :: .ref (Y + 4) :: .int nu :: .ref (Y + 5) :: .ref (Y + 6) :: .ref (Y + 7) :: .int dg :: .ref (Y + 8) :: .int dd :: .ref (Y + 9) :: .ref (Y + 10) :: .ref (Y + 11) :: .ref (Y + 12) :: .int ld :: .int be :: .int ib :: .ref (Y + 13) :: .ref (Y + 14) :: .ref (Y + 15) :: .ref (Y + 16) :: .ref (Y + 17) :: .int (nI ln) :: .int (nI q) :: .int (nI e) :: .int (nI 0) :: .ref (Y + 18) :: .ref (Y + 19) :: .ref (Y + 20) :: .ref (Y + 21) :: []))) from by rw [List.set_set]]) ?_
        refine g_goto (pc := 102) 106 dX12_number_102 (by decide) ?_
        exact g_iret (pc := 106) dX12_number_106 (Or.inr ⟨Or.inr (by rw [← hq]; show most < (tkn f ln (ln - q) q 0).1; omega), e, _, by omega, rfl, by rw [← hq]⟩)
    · exact absurd (show ln ≤ e by omega) hb9
  | succ z ih =>
    intro e v hz hv hst
    have hbd := by_d (hs.2 e (by omega))
    refine g_aload_n (pc := 26) 3 dX12_number_26 rfl rfl ?_
    refine g_get (pc := 27) dX12_number_27 fk_X12_255 (lk_eq hY) rfl ?_
    refine g_aload_n (pc := 30) 3 dX12_number_30 rfl rfl ?_
    refine g_get (pc := 31) dX12_number_31 fk_X12_249 (lk_eq hY) rfl ?_
    refine n_icmp_ge (pc := 34) 92 dX12_number_34 (by decide) (by omega) (by omega) (fun hb9 => ?_) (fun hb9 => ?_)
    · exact absurd hb9 (by omega)
    · refine g_aload_n (pc := 37) 3 dX12_number_37 rfl rfl ?_
      refine g_get (pc := 38) dX12_number_38 fk_X12_60 (lk_eq hY) rfl ?_
      refine g_aload_n (pc := 41) 3 dX12_number_41 rfl rfl ?_
      refine g_get (pc := 42) dX12_number_42 fk_X12_255 (lk_eq hY) rfl ?_
      refine g_bald (pc := 45) e dX12_number_45 (lk_ne (show Y ≠ (Y + 17) by omega) h17) (IXn (by omega) (by omega)) ?_
      refine g_callS (pc := 46) [.int (f e)] dX12_number_46 cs_X12_268.1 cs_X12_268.2 rfl rfl (Nat.le_of_ble_eq_true rfl) (by decide) (by decide) (mp_isDigit _) ?_
      rintro _ w9 (⟨rfl, hd, e9⟩ | ⟨rfl, hd, e9⟩)
      · refine GP.weq _ e9 ?_
        refine n_if_eq (pc := 49) 92 dX12_number_49 (by decide) (by omega) (fun hd9 => ?_) (fun hd9 => ?_)
        · exact absurd hd9 (by decide)
        · rw [hbd] at hd
          have hst2 : tkm f ln most (z + 1) e v = tkm f ln most z (e + 1) (if most < v then v else 10 * v + ub (f e) - 48) := by
            show (if e < ln ∧ 48 ≤ ub (f e) ∧ ub (f e) ≤ 57 then tkm f ln most z (e + 1) (if most < v then v else 10 * v + ub (f e) - 48) else (v, e)) = _
            rw [if_pos ⟨by omega, hd⟩]
          have efe : f e = nI (ub (f e)) := (by_c (c := ub (f e)) (hs.2 e (by omega)) (by omega)).mpr rfl
          obtain ⟨d, hde⟩ : ∃ d, d = ub (f e) := ⟨_, rfl⟩
          rw [← hde] at hd hst2 efe
          refine g_iload_n (pc := 52) 0 dX12_number_52 rfl rfl ?_
          refine g_iload_n (pc := 53) 2 dX12_number_53 rfl rfl ?_
          refine n_icmp_le (pc := 54) 61 dX12_number_54 (by decide) (by omega) (by omega) (fun hmo => ?_) (fun hmo => ?_)
          · refine g_bipush (pc := 61) (v := nI 10) dX12_number_61 (by decide) ?_
            refine g_iload_n (pc := 63) 0 dX12_number_63 rfl rfl ?_
            refine n_imul (pc := 64) dX12_number_64 ?_
            refine g_aload_n (pc := 65) 3 dX12_number_65 rfl rfl ?_
            refine g_get (pc := 66) dX12_number_66 fk_X12_60 (lk_eq hY) rfl ?_
            refine g_aload_n (pc := 69) 3 dX12_number_69 rfl rfl ?_
            refine g_get (pc := 70) dX12_number_70 fk_X12_255 (lk_eq hY) rfl ?_
            refine g_bald (pc := 73) e dX12_number_73 (lk_ne (show Y ≠ (Y + 17) by omega) h17) (IXn (by omega) (by omega)) ?_
            refine GP.ti (nI d) efe ?_
            refine n_iadd (pc := 74) dX12_number_74 ?_
            refine g_bipush (pc := 75) (v := nI 48) dX12_number_75 (by decide) ?_
            refine n_isub (pc := 77) dX12_number_77 (by omega) ?_
            refine g_istore_n (pc := 78) [(3, .int (nI (((10 * v) + d) - 48))), (2, .int (nI q)), (1, .int (nI most)), (0, .ref Y)] dX12_number_78 rfl (by decide) rfl ?_
            refine g_aload_n (pc := 79) 3 dX12_number_79 rfl rfl ?_
            refine g_dup (pc := 80) dX12_number_80 rfl ?_
            refine g_get (pc := 81) dX12_number_81 fk_X12_255 (lk_eq hY) rfl ?_
            refine g_iconst (pc := 84) (v := nI 1) dX12_number_84 (by decide) ?_
            refine n_iadd (pc := 85) dX12_number_85 ?_
            refine g_put (pc := 86) (.int th :: .int st :: .ref (Y + 1) :: .ref (Y + 2) :: .ref (Y + 3) :: .ref (Y + 4) :: .int nu :: .ref (Y + 5) :: .ref (Y + 6) :: .ref (Y + 7) :: .int dg :: .ref (Y + 8) :: .int dd :: .ref (Y + 9) :: .ref (Y + 10) :: .ref (Y + 11) :: .ref (Y + 12) :: .int ld :: .int be :: .int ib :: .ref (Y + 13) :: .ref (Y + 14) :: .ref (Y + 15) :: .ref (Y + 16) :: .ref (Y + 17) :: .int (nI ln) :: .int fa :: .int (nI (e + 1)) :: .int (nI 1) :: .ref (Y + 18) :: .ref (Y + 19) :: .ref (Y + 20) :: .ref (Y + 21) :: []) dX12_number_86 fk_X12_255 (lk_eq hY) (Nat.le_of_ble_eq_true rfl) rfl rfl ?_
            refine GP.weq (w.set Y (.inr (11, .int th :: .int st :: .ref (Y + 1) :: .ref (Y + 2) :: .ref (Y + 3) :: .ref (Y + 4) :: .int nu :: .ref (Y + 5) :: .ref (Y + 6) :: .ref (Y + 7) :: .int dg :: .ref (Y + 8) :: .int dd :: .ref (Y + 9) :: .ref (Y + 10) :: .ref (Y + 11) :: .ref (Y + 12) :: .int ld :: .int be :: .int ib :: .ref (Y + 13) :: .ref (Y + 14) :: .ref (Y + 15) :: .ref (Y + 16) :: .ref (Y + 17) :: .int (nI ln) :: .int fa :: .int (nI (e + 1)) :: .int (nI 1) :: .ref (Y + 18) :: .ref (Y + 19) :: .ref (Y + 20) :: .ref (Y + 21) :: []))) (by rw [List.set_set]) ?_
            refine g_goto (pc := 89) 26 dX12_number_89 (by decide) ?_
            rw [if_neg (by omega)] at hst2
            exact GP.lsub _ (by simp) (ih (e + 1) (10 * v + d - 48) (by omega) (by omega) (hst.trans hst2))
          · refine g_iload_n (pc := 57) 0 dX12_number_57 rfl rfl ?_
            refine g_goto (pc := 58) 78 dX12_number_58 (by decide) ?_
            refine g_istore_n (pc := 78) [(3, .int (nI v)), (2, .int (nI q)), (1, .int (nI most)), (0, .ref Y)] dX12_number_78 rfl (by decide) rfl ?_
            refine g_aload_n (pc := 79) 3 dX12_number_79 rfl rfl ?_
            refine g_dup (pc := 80) dX12_number_80 rfl ?_
            refine g_get (pc := 81) dX12_number_81 fk_X12_255 (lk_eq hY) rfl ?_
            refine g_iconst (pc := 84) (v := nI 1) dX12_number_84 (by decide) ?_
            refine n_iadd (pc := 85) dX12_number_85 ?_
            refine g_put (pc := 86) (.int th :: .int st :: .ref (Y + 1) :: .ref (Y + 2) :: .ref (Y + 3) :: .ref (Y + 4) :: .int nu :: .ref (Y + 5) :: .ref (Y + 6) :: .ref (Y + 7) :: .int dg :: .ref (Y + 8) :: .int dd :: .ref (Y + 9) :: .ref (Y + 10) :: .ref (Y + 11) :: .ref (Y + 12) :: .int ld :: .int be :: .int ib :: .ref (Y + 13) :: .ref (Y + 14) :: .ref (Y + 15) :: .ref (Y + 16) :: .ref (Y + 17) :: .int (nI ln) :: .int fa :: .int (nI (e + 1)) :: .int (nI 1) :: .ref (Y + 18) :: .ref (Y + 19) :: .ref (Y + 20) :: .ref (Y + 21) :: []) dX12_number_86 fk_X12_255 (lk_eq hY) (Nat.le_of_ble_eq_true rfl) rfl rfl ?_
            refine GP.weq (w.set Y (.inr (11, .int th :: .int st :: .ref (Y + 1) :: .ref (Y + 2) :: .ref (Y + 3) :: .ref (Y + 4) :: .int nu :: .ref (Y + 5) :: .ref (Y + 6) :: .ref (Y + 7) :: .int dg :: .ref (Y + 8) :: .int dd :: .ref (Y + 9) :: .ref (Y + 10) :: .ref (Y + 11) :: .ref (Y + 12) :: .int ld :: .int be :: .int ib :: .ref (Y + 13) :: .ref (Y + 14) :: .ref (Y + 15) :: .ref (Y + 16) :: .ref (Y + 17) :: .int (nI ln) :: .int fa :: .int (nI (e + 1)) :: .int (nI 1) :: .ref (Y + 18) :: .ref (Y + 19) :: .ref (Y + 20) :: .ref (Y + 21) :: []))) (by rw [List.set_set]) ?_
            refine g_goto (pc := 89) 26 dX12_number_89 (by decide) ?_
            rw [if_pos (by omega)] at hst2
            exact GP.lsub _ (by simp) (ih (e + 1) v (by omega) hv (hst.trans hst2))
      · refine GP.weq _ e9 ?_
        refine n_if_eq (pc := 49) 92 dX12_number_49 (by decide) (by omega) (fun hd9 => ?_) (fun hd9 => ?_)
        · rw [hbd] at hd
          have hst2 : tkm f ln most (z + 1) e v = (v, e) := by
            show (if e < ln ∧ 48 ≤ ub (f e) ∧ ub (f e) ≤ 57 then tkm f ln most z (e + 1) (if most < v then v else 10 * v + ub (f e) - 48) else (v, e)) = _
            rw [if_neg (fun g => hd g.2)]
          have hrel := tkm_tkn (f := f) (ln := ln) hm (ln - q) q 0 0 (Or.inl ⟨Nat.zero_le _, rfl⟩) (by omega)
          rw [hst] at hrel
          rw [hst2] at hrel
          simp only at hrel
          refine g_iload_n (pc := 92) 0 dX12_number_92 rfl rfl ?_
          refine g_iload_n (pc := 93) 2 dX12_number_93 rfl rfl ?_
          refine n_icmp_le (pc := 94) 105 dX12_number_94 (by decide) (by omega) (by omega) (fun hmo => ?_) (fun hmo => ?_)
          · refine g_iload_n (pc := 105) 0 dX12_number_105 rfl rfl ?_
            exact g_iret (pc := 106) dX12_number_106 (Or.inl ⟨by rw [← hq]; exact hdq, by rw [← hq]; show (tkn f ln (ln - q) q 0).1 ≤ most; omega, by rw [← hq]; show _ = some (Value.int (nI (tkn f ln (ln - q) q 0).1)); rw [show (tkn f ln (ln - q) q 0).1 = v by omega], by rw [← hq]; show _ = w.set Y (oM Y th st nu dg dd ld be ib (nI ln) fa (nI (tkn f ln (ln - q) q 0).2) (nI 1)); rw [show (tkn f ln (ln - q) q 0).2 = e by omega]⟩)
          · refine g_aload_n (pc := 97) 3 dX12_number_97 rfl rfl ?_
            refine g_iload_n (pc := 98) 1 dX12_number_98 rfl rfl ?_
            refine g_callV (pc := 99) [.int (nI q)] dX12_number_99 cv_X12_271.1 cv_X12_271.2.1 cv_X12_271.2.2.1 cv_X12_271.2.2.2 (lk_eq hY) rfl rfl (Nat.le_of_ble_eq_true rfl) (by decide) (by decide) (mp_wrong _ (lk_eq hY)) ?_
            rintro _ w9 ⟨rfl, e9⟩
            refine GP.weq _ e9 ?_
            refine GP.weq (w.set Y (.inr (11, .int th :: .int st :: .ref (Y + 1) :: .ref (Y + 2) :: .ref (Y + 3) :: .ref (Y + 4) :: .int nu :: .ref (Y + 5) :: .ref (Y + 6) :: .ref (Y + 7) :: .int dg :: .ref (Y + 8) :: .int dd :: .ref (Y + 9) :: .ref (Y + 10) :: .ref (Y + 11) :: .ref (Y + 12) :: .int ld :: .int be :: .int ib :: .ref (Y + 13) :: .ref (Y + 14) :: .ref (Y + 15) :: .ref (Y + 16) :: .ref (Y + 17) :: .int (nI ln) :: .int (nI q) :: .int (nI e) :: .int (nI 0) :: .ref (Y + 18) :: .ref (Y + 19) :: .ref (Y + 20) :: .ref (Y + 21) :: []))) (by rw [show ((w.set Y (.inr (11, .int th :: .int st :: .ref (Y + 1) :: .ref (Y + 2) :: .ref (Y + 3) :: .ref (Y + 4) :: .int nu :: .ref (Y + 5) :: .ref (Y + 6) :: .ref (Y + 7) :: .int dg :: .ref (Y + 8) :: .int dd :: .ref (Y + 9) :: .ref (Y + 10) :: .ref (Y + 11) :: .ref (Y + 12) :: .int ld :: .int be :: .int ib :: .ref (Y + 13) :: .ref (Y + 14) :: .ref (Y + 15) :: .ref (Y + 16) :: .ref (Y + 17) :: .int (nI ln) :: .int fa :: .int (nI e) :: .int (nI 1) :: .ref (Y + 18) :: .ref (Y + 19) :: .ref (Y + 20) :: .ref (Y + 21) :: []))).set Y (.inr (11, .int th :: .int st :: .ref (Y + 1) :: .ref (Y + 2) :: .ref (Y + 3) :: .ref (Y + 4) :: .int nu :: .ref (Y + 5) :: .ref (Y + 6) :: .ref (Y + 7) :: .int dg :: .ref (Y + 8) :: .int dd :: .ref (Y + 9) :: .ref (Y + 10) :: .ref (Y + 11) :: .ref (Y + 12) :: .int ld :: .int be :: .int ib :: .ref (Y + 13) :: .ref (Y + 14) :: .ref (Y + 15) :: .ref (Y + 16) :: .ref (Y + 17) :: .int (nI ln) :: .int (nI q) :: .int (nI e) :: .int (nI 0) :: .ref (Y + 18) :: .ref (Y + 19) :: .ref (Y + 20) :: .ref (Y + 21) :: []))) = (w.set Y (.inr (11, .int th :: .int st :: .ref (Y + 1) :: .ref (Y + 2) :: .ref (Y + 3) :: .ref (Y + 4) :: .int nu :: .ref (Y + 5) :: .ref (Y + 6) :: .ref (Y + 7) :: .int dg :: .ref (Y + 8) :: .int dd :: .ref (Y + 9) :: .ref (Y + 10) :: .ref (Y + 11) :: .ref (Y + 12) :: .int ld :: .int be :: .int ib :: .ref (Y + 13) :: .ref (Y + 14) :: .ref (Y + 15) :: .ref (Y + 16) :: .ref (Y + 17) :: .int (nI ln) :: .int (nI q) :: .int (nI e) :: .int (nI 0) :: .ref (Y + 18) :: .ref (Y + 19) :: .ref (Y + 20) :: .ref (Y + 21) :: []))) from by rw [List.set_set]]) ?_
            refine g_goto (pc := 102) 106 dX12_number_102 (by decide) ?_
            exact g_iret (pc := 106) dX12_number_106 (Or.inr ⟨Or.inr (by rw [← hq]; show most < (tkn f ln (ln - q) q 0).1; omega), e, _, by omega, rfl, by rw [← hq]⟩)
        · exact absurd rfl hd9
theorem mp_number (w : Wd) {Y ln p most : Nat} {th st nu dg dd ld be ib fa : Int32} {f : Nat → Int32} (hY : w[Y]? = some (oM Y th st nu dg dd ld be ib (nI ln) fa (nI p) (nI 1))) (h17 : w[Y + 17]? = some (aI 2 400 f)) (hs : sbT f ln) (hp : p ≤ ln) (hm : most ≤ 9999) : EX12_number [.ref Y, .int (nI most)] w (fun r w' => ((skB f ln p < ln ∧ 48 ≤ ub (f (skB f ln p)) ∧ ub (f (skB f ln p)) ≤ 57) ∧ (tkN f ln (skB f ln p) 0).1 ≤ most ∧ r = some (.int (nI (tkN f ln (skB f ln p) 0).1)) ∧ w' = w.set Y (oM Y th st nu dg dd ld be ib (nI ln) fa (nI (tkN f ln (skB f ln p) 0).2) (nI 1))) ∨ ((¬ (skB f ln p < ln ∧ 48 ≤ ub (f (skB f ln p)) ∧ ub (f (skB f ln p)) ≤ 57) ∨ most < (tkN f ln (skB f ln p) 0).1) ∧ ∃ e v, e ≤ ln ∧ r = some (.int v) ∧ w' = w.set Y (oM Y th st nu dg dd ld be ib (nI ln) (nI (skB f ln p)) (nI e) (nI 0)))) := by
  refine EP.of (plainFor_of_name (by decide)) [(0, .ref Y), (1, .int (nI most))] rfl (Nat.le_of_ble_eq_true rfl) (fun r wf h => by rcases h with ⟨-, -, rfl, -⟩ | ⟨-, e, v, -, rfl, -⟩ <;> trivial) ?_
  show BX12_number w _ w 0 [(0, .ref Y), (1, .int (nI most))] []
  have hl := hs.1
  have hq9 := skB_le (f := f) hp
  obtain ⟨q, hq⟩ : ∃ q, q = skB f ln p := ⟨_, rfl⟩
  refine g_aload_n (pc := 0) 0 dX12_number_0 rfl rfl ?_
  refine g_callV (pc := 1) [] dX12_number_1 cv_X12_265.1 cv_X12_265.2.1 cv_X12_265.2.2.1 cv_X12_265.2.2.2 hY rfl rfl (Nat.le_of_ble_eq_true rfl) (by decide) (by decide) (mp_sign _ hY h17 hs hp) ?_
  rintro _ w9 ⟨rfl, e9⟩
  rw [← hq] at e9 ⊢
  rw [← hq] at hq9
  refine GP.weq _ e9 ?_
  refine g_callS (pc := 4) [.int (chA f ln q)] dX12_number_4 cs_X12_268.1 cs_X12_268.2 rfl rfl (Nat.le_of_ble_eq_true rfl) (by decide) (by decide) (mp_isDigit _) ?_
  rintro _ w9 (⟨rfl, hd, e9⟩ | ⟨rfl, hd, e9⟩)
  · refine GP.weq _ e9 ?_
    refine n_if_ne (pc := 7) 19 dX12_number_7 (by decide) (by omega) (fun hd9 => ?_) (fun hd9 => ?_)
    · rw [chA_d hs] at hd
      refine g_aload_n (pc := 19) 0 dX12_number_19 rfl rfl ?_
      refine g_get (pc := 20) dX12_number_20 fk_X12_255 (lk_eq hY) rfl ?_
      refine g_istore_n (pc := 23) [(2, .int (nI q)), (0, .ref Y), (1, .int (nI most))] dX12_number_23 rfl (by decide) rfl ?_
      refine g_iconst (pc := 24) (v := nI 0) dX12_number_24 (by decide) ?_
      refine g_istore_n (pc := 25) [(3, .int (nI 0)), (2, .int (nI q)), (0, .ref Y), (1, .int (nI most))] dX12_number_25 rfl (by decide) rfl ?_
      have h9 := num_loop (w0 := w) hY h17 hs hp hm hq hd (ln - q) q 0 (by omega) (by omega) rfl
      rw [← hq] at h9
      exact GP.lsub _ (by simp) h9
    · exact absurd hd9 (by decide)
  · refine GP.weq _ e9 ?_
    refine n_if_ne (pc := 7) 19 dX12_number_7 (by decide) (by omega) (fun hd9 => ?_) (fun hd9 => ?_)
    · exact absurd rfl hd9
    · rw [chA_d hs] at hd
      refine g_aload_n (pc := 10) 0 dX12_number_10 rfl rfl ?_
      refine g_aload_n (pc := 11) 0 dX12_number_11 rfl rfl ?_
      refine g_get (pc := 12) dX12_number_12 fk_X12_255 (lk_eq hY) rfl ?_
      refine g_callV (pc := 15) [.int (nI q)] dX12_number_15 cv_X12_271.1 cv_X12_271.2.1 cv_X12_271.2.2.1 cv_X12_271.2.2.2 (lk_eq hY) rfl rfl (Nat.le_of_ble_eq_true rfl) (by decide) (by decide) (mp_wrong _ (lk_eq hY)) ?_
      rintro _ w9 ⟨rfl, e9⟩
      refine GP.weq _ e9 ?_
      refine GP.weq (w.set Y (.inr (11, .int th :: .int st :: .ref (Y + 1) :: .ref (Y + 2) :: .ref (Y + 3) :: .ref (Y + 4) :: .int nu :: .ref (Y + 5) :: .ref (Y + 6) :: .ref (Y + 7) :: .int dg :: .ref (Y + 8) :: .int dd :: .ref (Y + 9) :: .ref (Y + 10) :: .ref (Y + 11) :: .ref (Y + 12) :: .int ld :: .int be :: .int ib :: .ref (Y + 13) :: .ref (Y + 14) :: .ref (Y + 15) :: .ref (Y + 16) :: .ref (Y + 17) :: .int (nI ln) :: .int (nI q) :: .int (nI q) :: .int (nI 0) :: .ref (Y + 18) :: .ref (Y + 19) :: .ref (Y + 20) :: .ref (Y + 21) :: []))) (by rw [show ((w.set Y (.inr (11, .int th :: .int st :: .ref (Y + 1) :: .ref (Y + 2) :: .ref (Y + 3) :: .ref (Y + 4) :: .int nu :: .ref (Y + 5) :: .ref (Y + 6) :: .ref (Y + 7) :: .int dg :: .ref (Y + 8) :: .int dd :: .ref (Y + 9) :: .ref (Y + 10) :: .ref (Y + 11) :: .ref (Y + 12) :: .int ld :: .int be :: .int ib :: .ref (Y + 13) :: .ref (Y + 14) :: .ref (Y + 15) :: .ref (Y + 16) :: .ref (Y + 17) :: .int (nI ln) :: .int fa :: .int (nI q) :: .int (nI 1) :: .ref (Y + 18) :: .ref (Y + 19) :: .ref (Y + 20) :: .ref (Y + 21) :: []))).set Y (.inr (11, .int th :: .int st :: .ref (Y + 1) :: .ref (Y + 2) :: .ref (Y + 3) :: .ref (Y + 4) :: .int nu :: .ref (Y + 5) :: .ref (Y + 6) :: .ref (Y + 7) :: .int dg :: .ref (Y + 8) :: .int dd :: .ref (Y + 9) :: .ref (Y + 10) :: .ref (Y + 11) :: .ref (Y + 12) :: .int ld :: .int be :: .int ib :: .ref (Y + 13) :: .ref (Y + 14) :: .ref (Y + 15) :: .ref (Y + 16) :: .ref (Y + 17) :: .int (nI ln) :: .int (nI q) :: .int (nI q) :: .int (nI 0) :: .ref (Y + 18) :: .ref (Y + 19) :: .ref (Y + 20) :: .ref (Y + 21) :: []))) = (w.set Y (.inr (11, .int th :: .int st :: .ref (Y + 1) :: .ref (Y + 2) :: .ref (Y + 3) :: .ref (Y + 4) :: .int nu :: .ref (Y + 5) :: .ref (Y + 6) :: .ref (Y + 7) :: .int dg :: .ref (Y + 8) :: .int dd :: .ref (Y + 9) :: .ref (Y + 10) :: .ref (Y + 11) :: .ref (Y + 12) :: .int ld :: .int be :: .int ib :: .ref (Y + 13) :: .ref (Y + 14) :: .ref (Y + 15) :: .ref (Y + 16) :: .ref (Y + 17) :: .int (nI ln) :: .int (nI q) :: .int (nI q) :: .int (nI 0) :: .ref (Y + 18) :: .ref (Y + 19) :: .ref (Y + 20) :: .ref (Y + 21) :: []))) from by rw [List.set_set]]) ?_
      exact g_iret (pc := 18) dX12_number_18 (Or.inr ⟨Or.inl hd, q, _, hq9.2, rfl, rfl⟩)
