/-! Poly: valueAt, isZeroAt -/
def hev (F : Nat → Int) (x : Int) (n : Nat) : Nat → Int
  | 0 => 0
  | m + 1 => hev F x n m * x + F (n - m)
def hfit (F : Nat → Int) (x : Int) (n m : Nat) : Prop := ∀ j, j < m → inL (hev F x n j * x) ∧ inL (hev F x n (j + 1))
theorem hfit_s {F : Nat → Int} {x : Int} {n m : Nat} (h : hfit F x n m) (h1 : inL (hev F x n m * x)) (h2 : inL (hev F x n (m + 1))) : hfit F x n (m + 1) := fun j hj => by
  by_cases hjm : j = m
  · subst hjm; exact ⟨h1, h2⟩
  · exact h j (by omega)
theorem dec_nI {c : Nat} (hc : c < 2147483647) : nI c - 1 < 0 ↔ c = 0 := by
  have h1 : (nI c - 1).toInt = (c : Int) - 1 := by
    have e1 : (nI c).toInt = c := nI_toInt (by omega)
    have e2 : (1 : Int32).toInt = 1 := by decide
    rw [I_sub (by omega) (by omega), e1, e2]
  rw [Int32.lt_iff_toInt_lt, h1]
  show _ < (0 : Int) ↔ _
  omega
/-- once away from 0, always away from 0 -/
theorem hev_away {F : Nat → Int} {x : Int} {n : Nat} (hx : 2 ≤ x ∨ x ≤ -2) (hF : ∀ t, t ≤ n → -9999 ≤ F t ∧ F t ≤ 9999) {m : Nat} (h : 129987 < hev F x n m ∨ hev F x n m < -129987) : ∀ k, m + k ≤ n + 1 → 129987 < hev F x n (m + k) ∨ hev F x n (m + k) < -129987
  | 0, _ => h
  | k + 1, hk => by
    have ih := hev_away hx hF h k (by omega)
    have hf := hF (n - (m + k)) (by omega)
    show 129987 < hev F x n (m + k) * x + F (n - (m + k)) ∨ _ * x + F (n - (m + k)) < _
    generalize hev F x n (m + k) = s at ih ⊢
    generalize F (n - (m + k)) = a at hf ⊢
    rcases ih with ih | ih <;> rcases hx with hx | hx
    · have : 0 ≤ (s - 129987) * (x - 2) := Int.mul_nonneg (by omega) (by omega)
      have e : (s - 129987) * (x - 2) = s * x - 2 * s - 129987 * x + 259974 := by grind
      left; omega
    · have : 0 ≤ (s - 129987) * (-x - 2) := Int.mul_nonneg (by omega) (by omega)
      have e : (s - 129987) * (-x - 2) = -(s * x) - 2 * s + 129987 * x + 259974 := by grind
      right; omega
    · have : 0 ≤ (-s - 129987) * (x - 2) := Int.mul_nonneg (by omega) (by omega)
      have e : (-s - 129987) * (x - 2) = -(s * x) + 2 * s - 129987 * x + 259974 := by grind
      right; omega
    · have : 0 ≤ (-s - 129987) * (-x - 2) := Int.mul_nonneg (by omega) (by omega)
      have e : (-s - 129987) * (-x - 2) = s * x + 2 * s + 129987 * x + 259974 := by grind
      left; omega
theorem hev_near {F : Nat → Int} {x : Int} {n : Nat} (hx : -1 ≤ x ∧ x ≤ 1) (hF : ∀ t, t ≤ n → -9999 ≤ F t ∧ F t ≤ 9999) : ∀ m, m ≤ n + 1 → -(m * 9999 : Int) ≤ hev F x n m ∧ hev F x n m ≤ m * 9999
  | 0, _ => ⟨by simp [hev], by simp [hev]⟩
  | m + 1, hm => by
    have ih := hev_near hx hF m (by omega)
    have hf := hF (n - m) (by omega)
    show _ ≤ hev F x n m * x + F (n - m) ∧ hev F x n m * x + F (n - m) ≤ _
    generalize hev F x n m = s at ih ⊢
    rcases (show x = -1 ∨ x = 0 ∨ x = 1 by omega) with h | h | h <;> rw [h] <;> omega
/-- a value that got far away never comes to 0 -/
theorem hev_ne {F : Nat → Int} {x : Int} {n m : Nat} (hn : n ≤ 12) (hF : ∀ t, t ≤ n → -9999 ≤ F t ∧ F t ≤ 9999) (hm : m ≤ n + 1) (h : 129987 < hev F x n m ∨ hev F x n m < -129987) : hev F x n (n + 1) < -129987 ∨ 129987 < hev F x n (n + 1) := by
  by_cases hx : 2 ≤ x ∨ x ≤ -2
  · have := hev_away hx hF h (n + 1 - m) (by omega)
    rw [show m + (n + 1 - m) = n + 1 by omega] at this
    omega
  · have := hev_near (F := F) (x := x) (n := n) (by omega) hF m hm
    omega
abbrev BX6_valueAt (w0 : Wd) (Post : Option Value → Wd → Prop) (w : Wd) (pc : Nat) (ls : List (Nat × Value)) (st : List Value) : Prop := GP "valueAt" RX6 cX6_valueAt 7 (some .long) 1 39 none w0 Post w pc ls st
abbrev EX6_valueAt (As : List Value) (w : Wd) (Post : Option Value → Wd → Prop) : Prop := EP yX6_valueAt cX6_valueAt 7 (some .long) 1 As w Post
theorem va_loop {w0 w : Wd} {o b n : Nat} {f : Nat → Int32} {x : Int32} (ho : w[o]? = some (oP n b)) (hb : w[b]? = some (aI 0 (n + 1) f)) (hn : n ≤ 12) (hf : ∀ t, t ≤ n → -9999 ≤ (f t).toInt ∧ (f t).toInt ≤ 9999) (hx : -50 ≤ x.toInt ∧ x.toInt ≤ 50) : ∀ (c : Nat) (s : Int64), c ≤ n → hfit (toJ f) x.toInt n (n + 1 - c) → s.toInt = hev (toJ f) x.toInt n (n + 1 - c) → BX6_valueAt w0 (fun r w' => ∃ v : Int64, r = some (.long v) ∧ w' = w ∧ ((hfit (toJ f) x.toInt n (n + 1) ∧ v.toInt = hev (toJ f) x.toInt n (n + 1)) ∨ (¬ hfit (toJ f) x.toInt n (n + 1) ∧ v.toInt = -9223372036854775808))) w 19 [(4, .int (nI c - 1)), (2, .long s), (0, .ref o), (1, .int x)] [] := by
  intro c
  induction c with
  | zero =>
    intro s hc h hs
    rw [nI_dec0]
    refine g_iload (pc := 19) 0 dX6_valueAt_19 rfl ?_
    refine g_if_lt (pc := 21) 77 dX6_valueAt_21 (by decide) (fun hz => ?_) (fun hz => ?_)
    · refine g_lload_n (pc := 77) 1 dX6_valueAt_77 rfl rfl ?_
      exact g_lret (pc := 78) dX6_valueAt_78 ⟨s, rfl, rfl, Or.inl ⟨h, hs⟩⟩
    · exact absurd (by decide) hz
  | succ c ih =>
    intro s hc h hs
    rw [nI_pred]
    have hm : n - (n + 1 - (c + 1)) = c := by omega
    have e1 : n + 1 - c = n + 1 - (c + 1) + 1 := by omega
    have hst : hev (toJ f) x.toInt n (n + 1 - c) = hev (toJ f) x.toInt n (n + 1 - (c + 1)) * x.toInt + toJ f c := by rw [e1]; show _ * _ + toJ f (n - (n + 1 - (c + 1))) = _; rw [hm]
    refine g_iload (pc := 19) 0 dX6_valueAt_19 rfl ?_
    refine n_if_lt (pc := 21) 77 dX6_valueAt_21 (by decide) (by omega) ?_
    refine g_lload_n (pc := 24) 1 dX6_valueAt_24 rfl rfl ?_
    refine g_iload_n (pc := 25) 3 dX6_valueAt_25 rfl rfl ?_
    refine g_i2l (pc := 26) dX6_valueAt_26 ?_
    refine g_lmul (pc := 27) dX6_valueAt_27 ?_
    refine g_lstore (pc := 28) [(5, .long (s * x.toInt64)), (4, .int (nI c)), (2, .long s), (0, .ref o), (1, .int x)] dX6_valueAt_28 (by decide) rfl ?_
    refine g_lload_n (pc := 30) 2 dX6_valueAt_30 rfl rfl ?_
    refine g_iload_n (pc := 31) 4 dX6_valueAt_31 rfl rfl ?_
    refine g_i2l (pc := 32) dX6_valueAt_32 ?_
    have hxl : x.toInt64.toInt = x.toInt := IL x
    have hfl : (f c).toInt64.toInt = (f c).toInt := IL _
    refine g_callS (pc := 33) [.long s, .long x.toInt64] dX6_valueAt_33 cs_X6_49.1 cs_X6_49.2 rfl rfl (Nat.le_of_ble_eq_true rfl) (by decide) (by decide) (sp_productFits _ s x.toInt64) ?_
    rintro _ w9 (⟨rfl, hp, e9⟩ | ⟨rfl, hp, e9⟩)
    · refine GP.weq _ e9 ?_
      rw [hxl] at hp
      refine n_if_eq (pc := 36) 55 dX6_valueAt_36 (by decide) (by omega) (fun h0 => ?_) (fun h0 => ?_)
      · exact absurd h0 (by decide)
      · refine g_lload (pc := 39) 0 dX6_valueAt_39 rfl ?_
        refine g_aload_n (pc := 41) 3 dX6_valueAt_41 rfl rfl ?_
        refine g_get (pc := 42) dX6_valueAt_42 fk_X6_24 ho rfl ?_
        refine g_iload (pc := 45) 1 dX6_valueAt_45 rfl ?_
        refine g_iald (pc := 47) c dX6_valueAt_47 hb (IXn (by omega) (by omega)) ?_
        refine g_i2l (pc := 48) dX6_valueAt_48 ?_
        refine g_callS (pc := 49) [.long (s * x.toInt64), .long ((f c).toInt64)] dX6_valueAt_49 cs_X6_55.1 cs_X6_55.2 rfl rfl (Nat.le_of_ble_eq_true rfl) (by decide) (by decide) (sp_sumFits _ (s * x.toInt64) (f c).toInt64) ?_
        rintro _ w9 (⟨rfl, hq, e9⟩ | ⟨rfl, hq, e9⟩)
        · refine GP.weq _ e9 ?_
          have em : (s * x.toInt64).toInt = s.toInt * x.toInt := by rw [L_mul (by rw [hxl]; exact hp.1) (by rw [hxl]; exact hp.2), hxl]
          rw [em, hfl] at hq
          have es : (s * x.toInt64 + (f c).toInt64).toInt = s.toInt * x.toInt + (f c).toInt := by rw [L_add (by rw [em, hfl]; exact hq.1) (by rw [em, hfl]; exact hq.2), em, hfl]
          refine n_if_ne (pc := 52) 59 dX6_valueAt_52 (by decide) (by omega) (fun h1 => ?_) (fun h1 => ?_)
          · refine g_lload (pc := 59) 0 dX6_valueAt_59 rfl ?_
            refine g_aload_n (pc := 61) 3 dX6_valueAt_61 rfl rfl ?_
            refine g_get (pc := 62) dX6_valueAt_62 fk_X6_24 ho rfl ?_
            refine g_iload (pc := 65) 1 dX6_valueAt_65 rfl ?_
            refine g_iald (pc := 67) c dX6_valueAt_67 hb (IXn (by omega) (by omega)) ?_
            refine g_i2l (pc := 68) dX6_valueAt_68 ?_
            refine g_ladd (pc := 69) dX6_valueAt_69 ?_
            refine g_lstore_n (pc := 70) [(2, .long ((s * x.toInt64) + ((f c).toInt64))), (5, .long (s * x.toInt64)), (4, .int (nI c)), (0, .ref o), (1, .int x)] dX6_valueAt_70 rfl (by decide) rfl ?_
            refine g_iinc (pc := 71) [(4, .int (nI c - 1)), (2, .long ((s * x.toInt64) + ((f c).toInt64))), (5, .long (s * x.toInt64)), (0, .ref o), (1, .int x)] 2 dX6_valueAt_71 rfl (dec1 _) (by decide) rfl ?_
            refine g_goto (pc := 74) 19 dX6_valueAt_74 (by decide) ?_
            refine GP.lsub _ (by intro y hy; simp only [List.mem_cons] at hy ⊢; grind) (ih (s * x.toInt64 + (f c).toInt64) (by omega) ?_ ?_)
            · rw [e1]
              refine hfit_s h (by rw [← hs]; exact hp) ?_
              rw [← e1, hst, ← hs]; exact hq
            · rw [hst, ← hs, es]; rfl
          · exact absurd h1 (by decide)
        · refine GP.weq _ e9 ?_
          have em : (s * x.toInt64).toInt = s.toInt * x.toInt := by rw [L_mul (by rw [hxl]; exact hp.1) (by rw [hxl]; exact hp.2), hxl]
          rw [em, hfl] at hq
          refine n_if_ne (pc := 52) 59 dX6_valueAt_52 (by decide) (by omega) (fun h1 => ?_) (fun h1 => ?_)
          · exact absurd rfl h1
          · refine g_ldc2 (pc := 55) kc_X6_60 dX6_valueAt_55 ?_
            refine g_lret (pc := 58) dX6_valueAt_58 ⟨_, rfl, rfl, Or.inr ⟨fun g => ?_, by decide⟩⟩
            have g9 := (g (n + 1 - (c + 1)) (by omega)).2
            rw [← e1, hst, ← hs] at g9
            exact hq g9
    · refine GP.weq _ e9 ?_
      rw [hxl] at hp
      refine n_if_eq (pc := 36) 55 dX6_valueAt_36 (by decide) (by omega) (fun h0 => ?_) (fun h0 => ?_)
      · refine g_ldc2 (pc := 55) kc_X6_60 dX6_valueAt_55 ?_
        refine g_lret (pc := 58) dX6_valueAt_58 ⟨_, rfl, rfl, Or.inr ⟨fun g => ?_, by decide⟩⟩
        have g9 := (g (n + 1 - (c + 1)) (by omega)).1
        rw [← hs] at g9
        exact hp g9
      · exact absurd rfl h0
theorem sp_valueAt (w : Wd) {o b n : Nat} {f : Nat → Int32} {x : Int32} (ho : w[o]? = some (oP n b)) (hb : w[b]? = some (aI 0 (n + 1) f)) (hn : n ≤ 12) (hf : ∀ t, t ≤ n → -9999 ≤ (f t).toInt ∧ (f t).toInt ≤ 9999) (hx : -50 ≤ x.toInt ∧ x.toInt ≤ 50) : EX6_valueAt [.ref o, .int x] w (fun r w' => ∃ v : Int64, r = some (.long v) ∧ w' = w ∧ ((hfit (toJ f) x.toInt n (n + 1) ∧ v.toInt = hev (toJ f) x.toInt n (n + 1)) ∨ (¬ hfit (toJ f) x.toInt n (n + 1) ∧ v.toInt = -9223372036854775808))) := by
  refine EP.of (plainFor_of_name (by decide)) [(0, .ref o), (1, .int x)] rfl (Nat.le_of_ble_eq_true rfl) (fun r wf h => by obtain ⟨v, rfl, -⟩ := h; trivial) ?_
  show BX6_valueAt w _ w 0 [(0, .ref o), (1, .int x)] []
  refine g_aload_n (pc := 0) 0 dX6_valueAt_0 rfl rfl ?_
  refine g_get (pc := 1) dX6_valueAt_1 fk_X6_24 ho rfl ?_
  refine g_aload_n (pc := 4) 0 dX6_valueAt_4 rfl rfl ?_
  refine g_get (pc := 5) dX6_valueAt_5 fk_X6_18 ho rfl ?_
  refine g_iald (pc := 8) n dX6_valueAt_8 hb (IXn (by omega) (by omega)) ?_
  refine g_i2l (pc := 9) dX6_valueAt_9 ?_
  refine g_lstore_n (pc := 10) [(2, .long ((f n).toInt64)), (0, .ref o), (1, .int x)] dX6_valueAt_10 rfl (by decide) rfl ?_
  refine g_aload_n (pc := 11) 1 dX6_valueAt_11 rfl rfl ?_
  refine g_get (pc := 12) dX6_valueAt_12 fk_X6_18 ho rfl ?_
  refine g_iconst (pc := 15) (v := nI 1) dX6_valueAt_15 (by decide) ?_
  refine g_isub (pc := 16) dX6_valueAt_16 ?_
  refine g_istore (pc := 17) [(4, .int ((nI n) - (nI 1))), (2, .long ((f n).toInt64)), (0, .ref o), (1, .int x)] dX6_valueAt_17 (by decide) rfl ?_
  have hfn := hf n (Nat.le_refl n)
  have e0 : hev (toJ f) x.toInt n (0 + 1) = toJ f n := by show 0 * x.toInt + toJ f n = _; rw [Int.zero_mul, Int.zero_add]
  have e1 : toJ f n = (f n).toInt := rfl
  have en : n + 1 - n = 0 + 1 := by omega
  refine GP.lsub _ (by intro y hy; exact hy) (va_loop ho hb hn hf hx n (f n).toInt64 (by omega) ?_ ?_)
  · rw [en]
    refine hfit_s (fun j hj => absurd hj (by omega)) ?_ ?_
    · show inL (0 * x.toInt)
      rw [Int.zero_mul]
      exact ⟨by decide, by decide⟩
    · rw [e0, e1]; exact ⟨by omega, by omega⟩
  · rw [en, e0, IL]; rfl
abbrev BX6_isZeroAt (w0 : Wd) (Post : Option Value → Wd → Prop) (w : Wd) (pc : Nat) (ls : List (Nat × Value)) (st : List Value) : Prop := GP "isZeroAt" RX6 cX6_isZeroAt 5 (some .boolean) 0 0 none w0 Post w pc ls st
abbrev EX6_isZeroAt (As : List Value) (w : Wd) (Post : Option Value → Wd → Prop) : Prop := EP yX6_isZeroAt cX6_isZeroAt 5 (some .boolean) 0 As w Post
theorem za_loop {w0 w : Wd} {o b n : Nat} {f : Nat → Int32} {x : Int32} (ho : w[o]? = some (oP n b)) (hb : w[b]? = some (aI 0 (n + 1) f)) (hn : n ≤ 12) (hf : ∀ t, t ≤ n → -9999 ≤ (f t).toInt ∧ (f t).toInt ≤ 9999) (hx : -50 ≤ x.toInt ∧ x.toInt ≤ 50) : ∀ (c : Nat) (s : Int64), c ≤ n + 1 → -129987 ≤ s.toInt ∧ s.toInt ≤ 129987 → s.toInt = hev (toJ f) x.toInt n (n + 1 - c) → BX6_isZeroAt w0 (fun r w' => (r = some (.int (nI 1)) ∧ hev (toJ f) x.toInt n (n + 1) = 0 ∧ w' = w) ∨ (r = some (.int (nI 0)) ∧ ¬ (hev (toJ f) x.toInt n (n + 1) = 0) ∧ w' = w)) w 8 [(4, .int (nI c - 1)), (2, .long s), (0, .ref o), (1, .int x)] [] := by
  intro c
  induction c with
  | zero =>
    intro s hc h hs
    rw [nI_dec0]
    rw [show n + 1 - 0 = n + 1 from rfl] at hs
    refine g_iload (pc := 8) 0 dX6_isZeroAt_8 rfl ?_
    refine g_if_lt (pc := 10) 51 dX6_isZeroAt_10 (by decide) (fun hz => ?_) (fun hz => ?_)
    · refine g_lload_n (pc := 51) 1 dX6_isZeroAt_51 rfl rfl ?_
      refine g_lconst (pc := 52) (v := 0) dX6_isZeroAt_52 (by decide) ?_
      refine g_lcmp_ne (pc := 53) 61 dX6_isZeroAt_53 dX6_isZeroAt_54 (by decide) (fun h1 => ?_) (fun h1 => ?_)
      · refine g_iconst (pc := 61) (v := nI 0) dX6_isZeroAt_61 (by decide) ?_
        exact g_iret (pc := 62) dX6_isZeroAt_62 (Or.inr ⟨rfl, fun g => h1 (L0.mp (hs.trans g)), rfl⟩)
      · refine g_iconst (pc := 57) (v := nI 1) dX6_isZeroAt_57 (by decide) ?_
        refine g_goto (pc := 58) 62 dX6_isZeroAt_58 (by decide) ?_
        exact g_iret (pc := 62) dX6_isZeroAt_62 (Or.inl ⟨rfl, by rw [← hs]; exact L0.mpr (Classical.not_not.mp h1), rfl⟩)
    · exact absurd (by decide) hz
  | succ c ih =>
    intro s hc h hs
    rw [nI_pred]
    have hm : n - (n + 1 - (c + 1)) = c := by omega
    have e1 : n + 1 - c = n + 1 - (c + 1) + 1 := by omega
    have hst : hev (toJ f) x.toInt n (n + 1 - c) = hev (toJ f) x.toInt n (n + 1 - (c + 1)) * x.toInt + toJ f c := by rw [e1]; show _ * _ + toJ f (n - (n + 1 - (c + 1))) = _; rw [hm]
    have hxl : x.toInt64.toInt = x.toInt := IL x
    have hfl : (f c).toInt64.toInt = (f c).toInt := IL _
    have hfc := hf c (by omega)
    have hb1 : -7000000 ≤ s.toInt * x.toInt ∧ s.toInt * x.toInt ≤ 7000000 := by
      have h1 : 0 ≤ (129987 - s.toInt) * (50 - x.toInt) := Int.mul_nonneg (by omega) (by omega)
      have h2 : 0 ≤ (129987 + s.toInt) * (50 + x.toInt) := Int.mul_nonneg (by omega) (by omega)
      have h3 : 0 ≤ (129987 - s.toInt) * (50 + x.toInt) := Int.mul_nonneg (by omega) (by omega)
      have h4 : 0 ≤ (129987 + s.toInt) * (50 - x.toInt) := Int.mul_nonneg (by omega) (by omega)
      have f1 : (129987 - s.toInt) * (50 - x.toInt) = 6499350 - 129987 * x.toInt - 50 * s.toInt + s.toInt * x.toInt := by grind
      have f2 : (129987 + s.toInt) * (50 + x.toInt) = 6499350 + 129987 * x.toInt + 50 * s.toInt + s.toInt * x.toInt := by grind
      have f3 : (129987 - s.toInt) * (50 + x.toInt) = 6499350 + 129987 * x.toInt - 50 * s.toInt - s.toInt * x.toInt := by grind
      have f4 : (129987 + s.toInt) * (50 - x.toInt) = 6499350 - 129987 * x.toInt + 50 * s.toInt - s.toInt * x.toInt := by grind
      constructor <;> omega
    have em : (s * x.toInt64).toInt = s.toInt * x.toInt := by rw [L_mul (by rw [hxl]; omega) (by rw [hxl]; omega), hxl]
    have es : (s * x.toInt64 + (f c).toInt64).toInt = s.toInt * x.toInt + (f c).toInt := by rw [L_add (by rw [em, hfl]; omega) (by rw [em, hfl]; omega), em, hfl]
    have es2 : (s * x.toInt64 + (f c).toInt64).toInt = hev (toJ f) x.toInt n (n + 1 - c) := by rw [es, hst, ← hs]; rfl
    have k1 : (129987 : Int64).toInt = 129987 := by decide
    have k2 : (-129987 : Int64).toInt = -129987 := by decide
    refine g_iload (pc := 8) 0 dX6_isZeroAt_8 rfl ?_
    refine n_if_lt (pc := 10) 51 dX6_isZeroAt_10 (by decide) (by omega) ?_
    refine g_lload_n (pc := 13) 1 dX6_isZeroAt_13 rfl rfl ?_
    refine g_iload_n (pc := 14) 3 dX6_isZeroAt_14 rfl rfl ?_
    refine g_i2l (pc := 15) dX6_isZeroAt_15 ?_
    refine g_lmul (pc := 16) dX6_isZeroAt_16 ?_
    refine g_aload_n (pc := 17) 2 dX6_isZeroAt_17 rfl rfl ?_
    refine g_get (pc := 18) dX6_isZeroAt_18 fk_X6_24 ho rfl ?_
    refine g_iload (pc := 21) 0 dX6_isZeroAt_21 rfl ?_
    refine g_iald (pc := 23) c dX6_isZeroAt_23 hb (IXn (by omega) (by omega)) ?_
    refine g_i2l (pc := 24) dX6_isZeroAt_24 ?_
    refine g_ladd (pc := 25) dX6_isZeroAt_25 ?_
    refine g_lstore_n (pc := 26) [(2, .long ((s * x.toInt64) + ((f c).toInt64))), (4, .int (nI c)), (0, .ref o), (1, .int x)] dX6_isZeroAt_26 rfl (by decide) rfl ?_
    refine g_lload_n (pc := 27) 0 dX6_isZeroAt_27 rfl rfl ?_
    refine g_ldc2 (pc := 28) kc_X6_62 dX6_isZeroAt_28 ?_
    refine g_lcmp_gt (pc := 31) 43 dX6_isZeroAt_31 dX6_isZeroAt_32 (by decide) (fun h1 => ?_) (fun h1 => ?_)
    · rw [Int64.lt_iff_toInt_lt, es2, k1] at h1
      refine g_iconst (pc := 43) (v := nI 0) dX6_isZeroAt_43 (by decide) ?_
      exact g_iret (pc := 44) dX6_isZeroAt_44 (Or.inr ⟨rfl, fun g => by have h9 := hev_ne (F := toJ f) (x := x.toInt) (m := n + 1 - c) hn hf (by omega) (by omega); omega, rfl⟩)
    · rw [Int64.lt_iff_toInt_lt, es2, k1] at h1
      refine g_lload_n (pc := 35) 0 dX6_isZeroAt_35 rfl rfl ?_
      refine g_ldc2 (pc := 36) kc_X6_64 dX6_isZeroAt_36 ?_
      refine g_lcmp_ge (pc := 39) 45 dX6_isZeroAt_39 dX6_isZeroAt_40 (by decide) (fun h2 => ?_) (fun h2 => ?_)
      · rw [Int64.le_iff_toInt_le, es2, k2] at h2
        refine g_iinc (pc := 45) [(4, .int (nI c - 1)), (2, .long ((s * x.toInt64) + ((f c).toInt64))), (0, .ref o), (1, .int x)] 1 dX6_isZeroAt_45 rfl (dec1 _) (by decide) rfl ?_
        refine g_goto (pc := 48) 8 dX6_isZeroAt_48 (by decide) ?_
        exact GP.lsub _ (by intro y hy; exact hy) (ih _ (by omega) (by omega) es2)
      · rw [Int64.le_iff_toInt_le, es2, k2] at h2
        refine g_iconst (pc := 43) (v := nI 0) dX6_isZeroAt_43 (by decide) ?_
        exact g_iret (pc := 44) dX6_isZeroAt_44 (Or.inr ⟨rfl, fun g => by have h9 := hev_ne (F := toJ f) (x := x.toInt) (m := n + 1 - c) hn hf (by omega) (by omega); omega, rfl⟩)
theorem sp_isZeroAt (w : Wd) {o b n : Nat} {f : Nat → Int32} {x : Int32} (ho : w[o]? = some (oP n b)) (hb : w[b]? = some (aI 0 (n + 1) f)) (hn : n ≤ 12) (hf : ∀ t, t ≤ n → -9999 ≤ (f t).toInt ∧ (f t).toInt ≤ 9999) (hx : -50 ≤ x.toInt ∧ x.toInt ≤ 50) : EX6_isZeroAt [.ref o, .int x] w (fun r w' => (r = some (.int (nI 1)) ∧ hev (toJ f) x.toInt n (n + 1) = 0 ∧ w' = w) ∨ (r = some (.int (nI 0)) ∧ ¬ (hev (toJ f) x.toInt n (n + 1) = 0) ∧ w' = w)) := by
  refine EP.of (plainFor_of_name (by decide)) [(0, .ref o), (1, .int x)] rfl (Nat.le_of_ble_eq_true rfl) (fun r wf h => by rcases h with ⟨rfl, -⟩ | ⟨rfl, -⟩; exact Or.inr rfl; exact Or.inl rfl) ?_
  show BX6_isZeroAt w _ w 0 [(0, .ref o), (1, .int x)] []
  refine g_lconst (pc := 0) (v := 0) dX6_isZeroAt_0 (by decide) ?_
  refine g_lstore_n (pc := 1) [(2, .long 0), (0, .ref o), (1, .int x)] dX6_isZeroAt_1 rfl (by decide) rfl ?_
  refine g_aload_n (pc := 2) 1 dX6_isZeroAt_2 rfl rfl ?_
  refine g_get (pc := 3) dX6_isZeroAt_3 fk_X6_18 ho rfl ?_
  refine g_istore (pc := 6) [(4, .int (nI n)), (2, .long 0), (0, .ref o), (1, .int x)] dX6_isZeroAt_6 (by decide) rfl ?_
  have h9 := za_loop (w0 := w) ho hb hn hf hx (n + 1) 0 (by omega) ⟨by decide, by decide⟩ (by rw [show n + 1 - (n + 1) = 0 by omega]; rfl)
  rw [nI_pred] at h9
  exact GP.lsub _ (by intro y hy; exact hy) h9
