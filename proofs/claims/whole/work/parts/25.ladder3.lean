/-! Ladder: one COEFFICIENT where nothing can be beyond, each product once -/
def sg (t : Nat) : Int := if t % 2 = 0 then 1 else -1
theorem sg_s (t : Nat) : sg (t + 1) = - sg t := by
  unfold sg
  by_cases h : t % 2 = 0
  · rw [if_neg (by omega), if_pos h]
  · rw [if_pos (by omega), if_neg h]; rfl
theorem sg_add (a b : Nat) : sg (a + b) = sg a * sg b := by
  induction b with
  | zero => show sg a = sg a * 1; omega
  | succ b ih => rw [← Nat.add_assoc, sg_s, sg_s, ih, Int.mul_neg]
theorem sg_sq (a : Nat) : sg a * sg a = 1 := by
  unfold sg
  split <;> rfl
theorem sg_2 (a : Nat) : sg (2 * a) = 1 := by
  unfold sg
  rw [if_pos (by omega)]
theorem grt_sg (a : Nat → Int) (n j i : Nat) : grt a n j i = sg (2 * j - i + n) * (a i * a (2 * j - i)) := by
  unfold grt sg
  split
  · omega
  · omega
/-- the products of pairs around j, with turning signs -/
def bA (a : Nat → Int) (j : Nat) : Nat → Int
  | 0 => 0
  | F + 1 => bA a j F + sg F * (a (j - (F + 1)) * a (j + (F + 1)))
def gsm (a : Nat → Int) (n j lo : Nat) : Nat → Int
  | 0 => 0
  | c + 1 => gsm a n j lo c + grt a n j (lo + c)
theorem gsm_grp (a : Nat → Int) (n j : Nat) : ∀ c, grp a n j c = gsm a n j (2 * j - n) c
  | 0 => rfl
  | c + 1 => by show grp a n j c + _ = gsm a n j _ c + _; rw [gsm_grp a n j c]
theorem gsm_left (a : Nat → Int) (n j lo : Nat) : ∀ c, gsm a n j lo (c + 1) = grt a n j lo + gsm a n j (lo + 1) c
  | 0 => by show 0 + grt a n j (lo + 0) = _ + 0; rw [Nat.add_zero]; omega
  | c + 1 => by
    show gsm a n j lo (c + 1) + grt a n j (lo + (c + 1)) = _ + (gsm a n j (lo + 1) c + grt a n j (lo + 1 + c))
    rw [gsm_left a n j lo c, show lo + 1 + c = lo + (c + 1) by omega]
    omega
theorem gsm_win (a : Nat → Int) (n j : Nat) : ∀ F, F ≤ j → gsm a n j (j - F) (2 * F + 1) = sg (j + n) * (a j * a j - 2 * bA a j F)
  | 0, _ => by
    show 0 + grt a n j (j - 0 + 0) = _
    rw [grt_sg, show j - 0 + 0 = j by omega, show 2 * j - j = j by omega]
    show 0 + _ = _ * (_ - 2 * 0)
    simp
  | F + 1, h => by
    have ih := gsm_win a n j F (by omega)
    have e1 : gsm a n j (j - (F + 1)) (2 * (F + 1) + 1) = gsm a n j (j - (F + 1)) (2 * F + 1 + 1) + grt a n j (j + (F + 1)) := by
      show gsm a n j _ (2 * F + 1 + 1) + grt a n j (j - (F + 1) + (2 * F + 1 + 1)) = _
      rw [show j - (F + 1) + (2 * F + 1 + 1) = j + (F + 1) by omega]
    rw [e1, gsm_left, show j - (F + 1) + 1 = j - F by omega, ih, grt_sg, grt_sg, show 2 * j - (j - (F + 1)) = j + (F + 1) by omega, show 2 * j - (j + (F + 1)) = j - (F + 1) by omega]
    have s1 : sg (j + (F + 1) + n) = sg (j + n) * sg (F + 1) := by rw [← sg_add]; congr 1; omega
    have s2 : sg (j - (F + 1) + n) = sg (j + n) * sg (F + 1) := by
      have h9 := sg_add (j - (F + 1) + n) (2 * (F + 1))
      rw [sg_2, show j - (F + 1) + n + 2 * (F + 1) = j + n + (F + 1) by omega, sg_add] at h9
      omega
    rw [s1, s2, sg_s]
    show _ = sg (j + n) * (a j * a j - 2 * (bA a j F + sg F * (a (j - (F + 1)) * a (j + (F + 1)))))
    rw [Int.mul_comm (a (j + (F + 1))) (a (j - (F + 1)))]
    generalize a (j - (F + 1)) * a (j + (F + 1)) = b
    generalize sg (j + n) = s
    generalize sg F = t
    generalize bA a j F = B
    generalize a j * a j = q
    grind
theorem gco_win {a : Nat → Int} {n j : Nat} (h : j ≤ n) : gco a n j = sg (j + n) * (a j * a j - 2 * bA a j (min j (n - j))) := by
  have e : gcnt n j = 2 * min j (n - j) + 1 := by unfold gcnt; omega
  unfold gco
  rw [gsm_grp, e, show 2 * j - n = j - min j (n - j) by omega]
  exact gsm_win a n j _ (by omega)
/-- pairs behind k steps of the loop, from the farthest on -/
def qA (a : Nat → Int) (j F : Nat) : Nat → Int
  | 0 => 0
  | k + 1 => a (j - (F - k)) * a (j + (F - k)) - qA a j F k
theorem qA_b (a : Nat → Int) (j F : Nat) : ∀ k, k ≤ F → qA a j F k = sg (F - k) * (bA a j F - bA a j (F - k))
  | 0, _ => by show 0 = _; rw [Nat.sub_zero, Int.sub_self]; simp
  | k + 1, h => by
    have ih := qA_b a j F k (by omega)
    obtain ⟨g, hg⟩ : ∃ g, F - k = g + 1 := ⟨F - k - 1, by omega⟩
    show a (j - (F - k)) * a (j + (F - k)) - qA a j F k = _
    rw [ih, show F - (k + 1) = g by omega, hg, sg_s]
    show _ = sg g * (bA a j F - bA a j g)
    have e : bA a j (g + 1) = bA a j g + sg g * (a (j - (g + 1)) * a (j + (g + 1))) := rfl
    rw [e]
    have hs := sg_sq g
    generalize a (j - (g + 1)) * a (j + (g + 1)) = b at *
    generalize sg g = t at *
    generalize bA a j F = B at *
    generalize bA a j g = C at *
    grind
theorem qA_end (a : Nat → Int) (j F : Nat) : qA a j F F = bA a j F := by
  rw [qA_b a j F F (Nat.le_refl _), Nat.sub_self]
  show 1 * (_ - 0) = _
  omega
theorem pr_bd {x y : Int} (hx : -536870912 ≤ x ∧ x ≤ 536870912) (hy : -536870912 ≤ y ∧ y ≤ 536870912) : -288230376151711744 ≤ x * y ∧ x * y ≤ 288230376151711744 := by
  have h1 := sq_le (x := x) hx.1 hx.2
  have h2 := sq_le (x := y) hy.1 hy.2
  have h3 : 0 ≤ (x + y) * (x + y) := by rcases Int.le_total 0 (x + y) with h | h; exact Int.mul_nonneg h h; exact Int.mul_nonneg_of_nonpos_of_nonpos h h
  have h4 : 0 ≤ (x - y) * (x - y) := by rcases Int.le_total 0 (x - y) with h | h; exact Int.mul_nonneg h h; exact Int.mul_nonneg_of_nonpos_of_nonpos h h
  have e3 : (x + y) * (x + y) = x * x + 2 * (x * y) + y * y := by grind
  have e4 : (x - y) * (x - y) = x * x - 2 * (x * y) + y * y := by grind
  omega
/-- all below 2^29 -/
def easyA (f : Nat → Int64) (n : Nat) : Prop := ∀ i, i ≤ n → -536870912 < (f i).toInt ∧ (f i).toInt < 536870912
theorem easy_mul {f : Nat → Int64} {n i l : Nat} (h : easyA f n) (hi : i ≤ n) (hl : l ≤ n) : (f i * f l).toInt = toI f i * toI f l ∧ -288230376151711744 ≤ toI f i * toI f l ∧ toI f i * toI f l ≤ 288230376151711744 := by
  have h1 := h i hi
  have h2 := h l hl
  have h3 := pr_bd (x := (f i).toInt) (y := (f l).toInt) (by omega) (by omega)
  exact ⟨L_mul (by omega) (by omega), h3⟩
theorem grt_bd {f : Nat → Int64} {n j i : Nat} (h : easyA f n) (hi : i ≤ n) (hl : 2 * j - i ≤ n) : -288230376151711744 ≤ grt (toI f) n j i ∧ grt (toI f) n j i ≤ 288230376151711744 := by
  have := (easy_mul h hi hl).2
  unfold grt
  split <;> omega
theorem easy_fit {f : Nat → Int64} {n j : Nat} (hn : n ≤ 12) (hj : j ≤ n) (h : easyA f n) : gfit (toI f) n j := by
  have hb : ∀ c : Nat, c ≤ gcnt n j → -((c : Int) * 288230376151711744) ≤ grp (toI f) n j c ∧ grp (toI f) n j c ≤ (c : Int) * 288230376151711744 := by
    intro c
    induction c with
    | zero => intro _; exact ⟨by show _ ≤ (0 : Int); omega, by show (0 : Int) ≤ _; omega⟩
    | succ c ih =>
      intro hc
      have h1 := ih (by omega)
      have hcn : gcnt n j = min n (2 * j) + 1 - (2 * j - n) := rfl
      have h2 := grt_bd (j := j) (i := 2 * j - n + c) h (by omega) (by omega)
      show _ ≤ grp (toI f) n j c + grt (toI f) n j (2 * j - n + c) ∧ grp (toI f) n j c + grt (toI f) n j (2 * j - n + c) ≤ _
      omega
  have hcn : gcnt n j = min n (2 * j) + 1 - (2 * j - n) := rfl
  intro c hc
  have h1 := hb (c + 1) (by omega)
  have h2 := (easy_mul (i := 2 * j - n + c) (l := 2 * j - (2 * j - n + c)) h (by omega) (by omega)).2
  exact ⟨⟨by omega, by omega⟩, ⟨by omega, by omega⟩⟩
theorem qA_bd {f : Nat → Int64} {n j F : Nat} (h : easyA f n) (hF : F ≤ j) (hF2 : j + F ≤ n) : ∀ k : Nat, k ≤ F → -((k : Int) * 288230376151711744) ≤ qA (toI f) j F k ∧ qA (toI f) j F k ≤ (k : Int) * 288230376151711744
  | 0, _ => ⟨by show _ ≤ (0 : Int); omega, by show (0 : Int) ≤ _; omega⟩
  | k + 1, hk => by
    have h1 := qA_bd h hF hF2 k (by omega)
    have h2 := (easy_mul (i := j - (F - k)) (l := j + (F - k)) h (by omega) (by omega)).2
    show _ ≤ toI f (j - (F - k)) * toI f (j + (F - k)) - qA (toI f) j F k ∧ toI f (j - (F - k)) * toI f (j + (F - k)) - qA (toI f) j F k ≤ _
    omega
abbrev BX4_easySum (w0 : Wd) (Post : Option Value → Wd → Prop) (w : Wd) (pc : Nat) (ls : List (Nat × Value)) (st : List Value) : Prop := GP "easySum" RX4 cX4_easySum 7 (some .long) 1 39 none w0 Post w pc ls st
abbrev EX4_easySum (As : List Value) (w : Wd) (Post : Option Value → Wd → Prop) : Prop := EP yX4_easySum cX4_easySum 7 (some .long) 1 As w Post
theorem es_loop {w0 w : Wd} {q Q n j : Nat} {f : Nat → Int64} (hq : w[q]? = some (aL Q f)) (hQ : Q < 2147483648) (hn : n < Q) (hn2 : n ≤ 12) (hj : j ≤ n) (he : easyA f n) : ∀ (c : Nat) (s : Int64), c ≤ min j (n - j) → s.toInt = qA (toI f) j (min j (n - j)) (min j (n - j) - c) → BX4_easySum w0 (fun r w' => ∃ s : Int64, r = some (.long s) ∧ s.toInt = gco (toI f) n j ∧ w' = w) w 11 [(5, .int (nI c)), (3, .long s), (0, .ref q), (1, .int (nI n)), (2, .int (nI j))] [] := by
  intro c
  induction c with
  | zero =>
    intro s hc hs
    refine g_iload (pc := 11) 0 dX4_easySum_11 rfl ?_
    refine n_if_le (pc := 13) 38 dX4_easySum_13 (by decide) (by omega) (fun hz => ?_) (fun hz => ?_)
    · rw [Nat.sub_zero, qA_end] at hs
      have hB := qA_bd he (j := j) (F := min j (n - j)) (by omega) (by omega) (min j (n - j)) (Nat.le_refl _)
      rw [qA_end, ← hs] at hB
      have hJ := easy_mul he hj hj
      have e2 : ((2 : Int64) * s).toInt = 2 * s.toInt := by rw [L_mul (by show -9223372036854775808 ≤ (2 : Int) * _; omega) (by show (2 : Int) * _ < _; omega)]; rfl
      have e3 : (f j * f j - 2 * s).toInt = toI f j * toI f j - 2 * bA (toI f) j (min j (n - j)) := by rw [L_sub (by rw [hJ.1, e2]; omega) (by rw [hJ.1, e2]; omega), hJ.1, e2, hs]
      refine g_aload_n (pc := 38) 2 dX4_easySum_38 rfl rfl ?_
      refine g_iload_n (pc := 39) 4 dX4_easySum_39 rfl rfl ?_
      refine g_lald (pc := 40) j dX4_easySum_40 hq (IXn (by omega) (by omega)) ?_
      refine g_aload_n (pc := 41) 2 dX4_easySum_41 rfl rfl ?_
      refine g_iload_n (pc := 42) 4 dX4_easySum_42 rfl rfl ?_
      refine g_lald (pc := 43) j dX4_easySum_43 hq (IXn (by omega) (by omega)) ?_
      refine g_lmul (pc := 44) dX4_easySum_44 ?_
      refine g_ldc2 (pc := 45) kc_X4_65 dX4_easySum_45 ?_
      refine g_lload_n (pc := 48) 1 dX4_easySum_48 rfl rfl ?_
      refine g_lmul (pc := 49) dX4_easySum_49 ?_
      refine g_lsub (pc := 50) dX4_easySum_50 ?_
      refine g_lstore (pc := 51) [(5, .long (((f j) * (f j)) - ((2) * s))), (3, .long s), (0, .ref q), (1, .int (nI n)), (2, .int (nI j))] dX4_easySum_51 (by decide) rfl ?_
      refine g_iload_n (pc := 53) 3 dX4_easySum_53 rfl rfl ?_
      refine g_iload_n (pc := 54) 4 dX4_easySum_54 rfl rfl ?_
      refine n_iadd (pc := 55) dX4_easySum_55 ?_
      refine g_iconst (pc := 56) (v := nI 2) dX4_easySum_56 (by decide) ?_
      refine n_irem (pc := 57) dX4_easySum_57 (by omega) (by omega) (by omega) ?_
      refine n_if_ne (pc := 58) 66 dX4_easySum_58 (by decide) (by omega) (fun hev => ?_) (fun hev => ?_)
      · refine g_lload (pc := 66) 0 dX4_easySum_66 rfl ?_
        refine g_lneg (pc := 68) dX4_easySum_68 ?_
        have e4 : (-(f j * f j - 2 * s)).toInt = -(f j * f j - 2 * s).toInt := L_neg (by rw [e3, ← hs]; omega)
        exact g_lret (pc := 69) dX4_easySum_69 ⟨_, rfl, by rw [e4, e3, gco_win hj]; unfold sg; rw [if_neg (by omega)]; omega, rfl⟩
      · refine g_lload (pc := 61) 0 dX4_easySum_61 rfl ?_
        refine g_goto (pc := 63) 69 dX4_easySum_63 (by decide) ?_
        exact g_lret (pc := 69) dX4_easySum_69 ⟨_, rfl, by rw [e3, gco_win hj]; unfold sg; rw [if_pos (by omega)]; omega, rfl⟩
    · exact absurd rfl hz
  | succ c ih =>
    intro s hc hs
    refine g_iload (pc := 11) 0 dX4_easySum_11 rfl ?_
    refine n_if_le (pc := 13) 38 dX4_easySum_13 (by decide) (by omega) (fun hz => ?_) (fun hz => ?_)
    · exact absurd hz (by omega)
    · refine g_aload_n (pc := 16) 2 dX4_easySum_16 rfl rfl ?_
      refine g_iload_n (pc := 17) 4 dX4_easySum_17 rfl rfl ?_
      refine g_iload (pc := 18) 0 dX4_easySum_18 rfl ?_
      refine n_isub (pc := 20) dX4_easySum_20 (by omega) ?_
      refine g_lald (pc := 21) (j - (c + 1)) dX4_easySum_21 hq (IXn (by omega) (by omega)) ?_
      refine g_aload_n (pc := 22) 2 dX4_easySum_22 rfl rfl ?_
      refine g_iload_n (pc := 23) 4 dX4_easySum_23 rfl rfl ?_
      refine g_iload (pc := 24) 0 dX4_easySum_24 rfl ?_
      refine n_iadd (pc := 26) dX4_easySum_26 ?_
      refine g_lald (pc := 27) (j + (c + 1)) dX4_easySum_27 hq (IXn (by omega) (by omega)) ?_
      refine g_lmul (pc := 28) dX4_easySum_28 ?_
      refine g_lload_n (pc := 29) 1 dX4_easySum_29 rfl rfl ?_
      refine g_lsub (pc := 30) dX4_easySum_30 ?_
      refine g_lstore_n (pc := 31) [(3, .long (((f (j - (c + 1))) * (f (j + (c + 1)))) - s)), (5, .int (nI (c + 1))), (0, .ref q), (1, .int (nI n)), (2, .int (nI j))] dX4_easySum_31 rfl (by decide) rfl ?_
      refine n_idec (pc := 32) (c := 1) [(5, .int (nI ((c + 1) - 1))), (3, .long (((f (j - (c + 1))) * (f (j + (c + 1)))) - s)), (0, .ref q), (1, .int (nI n)), (2, .int (nI j))] 1 dX4_easySum_32 rfl (by decide) (by omega) (by decide) rfl ?_
      refine g_goto (pc := 35) 11 dX4_easySum_35 (by decide) ?_
      refine GP.lsub [(5, .int (nI c)), (3, .long (((f (j - (c + 1))) * (f (j + (c + 1)))) - s)), (0, .ref q), (1, .int (nI n)), (2, .int (nI j))] (by simp) ?_
      have hB := qA_bd he (j := j) (F := min j (n - j)) (by omega) (by omega) (min j (n - j) - (c + 1)) (by omega)
      have hM := easy_mul he (show j - (c + 1) ≤ n by omega) (show j + (c + 1) ≤ n by omega)
      refine ih _ (by omega) ?_
      rw [L_sub (by rw [hM.1, hs]; omega) (by rw [hM.1, hs]; omega), hM.1, hs]
      obtain ⟨g, hg⟩ : ∃ g, g = min j (n - j) - (c + 1) := ⟨_, rfl⟩
      rw [show min j (n - j) - c = g + 1 by omega, ← hg]
      show _ = toI f (j - (min j (n - j) - g)) * toI f (j + (min j (n - j) - g)) - _
      rw [show min j (n - j) - g = c + 1 by omega]
theorem sp_easySum (w : Wd) {q Q n j : Nat} {f : Nat → Int64} (hq : w[q]? = some (aL Q f)) (hQ : Q < 2147483648) (hn : n < Q) (hn2 : n ≤ 12) (hj : j ≤ n) (he : easyA f n) : EX4_easySum [.ref q, .int (nI n), .int (nI j)] w (fun r w' => ∃ s : Int64, r = some (.long s) ∧ s.toInt = gco (toI f) n j ∧ w' = w) := by
  refine EP.of (plainFor_of_name (by decide)) [(0, .ref q), (1, .int (nI n)), (2, .int (nI j))] rfl (Nat.le_of_ble_eq_true rfl) (fun r wf h => by obtain ⟨s, rfl, -⟩ := h; trivial) ?_
  show BX4_easySum w _ w 0 [(0, .ref q), (1, .int (nI n)), (2, .int (nI j))] []
  refine g_lconst (pc := 0) (v := 0) dX4_easySum_0 (by decide) ?_
  refine g_lstore_n (pc := 1) [(3, .long 0), (0, .ref q), (1, .int (nI n)), (2, .int (nI j))] dX4_easySum_1 rfl (by decide) rfl ?_
  refine g_iload_n (pc := 2) 3 dX4_easySum_2 rfl rfl ?_
  refine g_iload_n (pc := 3) 2 dX4_easySum_3 rfl rfl ?_
  refine g_iload_n (pc := 4) 3 dX4_easySum_4 rfl rfl ?_
  refine n_isub (pc := 5) dX4_easySum_5 (by omega) ?_
  refine g_callS (pc := 6) [.int (nI j), .int (nI (n - j))] dX4_easySum_6 cs_X4_34.1 cs_X4_34.2 rfl rfl (Nat.le_of_ble_eq_true rfl) (by decide) (by decide) (sp_minI _ (nI j) (nI (n - j))) ?_
  rintro _ w9 ⟨rfl, e9⟩
  refine GP.weq _ e9 ?_
  refine GP.ti (nI (min j (n - j))) (minN (by omega) (by omega)) ?_
  refine g_istore (pc := 9) [(5, .int (nI (min j (n - j)))), (3, .long 0), (0, .ref q), (1, .int (nI n)), (2, .int (nI j))] dX4_easySum_9 (by decide) rfl ?_
  exact GP.lsub _ (by simp) (es_loop hq hQ hn hn2 hj he (min j (n - j)) 0 (Nat.le_refl _) (by rw [Nat.sub_self]; show (0 : Int64).toInt = 0; decide))
