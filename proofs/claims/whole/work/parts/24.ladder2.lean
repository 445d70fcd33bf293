/-! Ladder: one COEFFICIENT of the next LEVEL, with care -/
def toI (f : Nat → Int64) : Nat → Int := fun t => (f t).toInt
/-- the product of i and 2 j - i, with its sign -/
def grt (a : Nat → Int) (n j i : Nat) : Int := if (2 * j - i + n) % 2 = 0 then a i * a (2 * j - i) else -(a i * a (2 * j - i))
def grp (a : Nat → Int) (n j : Nat) : Nat → Int
  | 0 => 0
  | c + 1 => grp a n j c + grt a n j (2 * j - n + c)
/-- how many products there are -/
def gcnt (n j : Nat) : Nat := min n (2 * j) + 1 - (2 * j - n)
/-- no product and no sum on the way is beyond a long -/
def gfit (a : Nat → Int) (n j : Nat) : Prop := ∀ c, c < gcnt n j → inL (a (2 * j - n + c) * a (2 * j - (2 * j - n + c))) ∧ inL (grp a n j (c + 1))
/-- COEFFICIENT j of the next LEVEL -/
def gco (a : Nat → Int) (n j : Nat) : Int := grp a n j (gcnt n j)
theorem max0 {a b : Nat} (ha : a < 2147483648) (hb : b < 2147483648) : (if nI 0 < nI a - nI b then nI a - nI b else nI 0) = nI (a - b) := by
  by_cases h : b ≤ a
  · rw [nI_sub h]
    by_cases h2 : nI 0 < nI (a - b)
    · rw [if_pos h2]
    · rw [if_neg h2]
      have h3 : ¬ 0 < a - b := fun g => h2 ((nI_ltN (by decide) (by omega)).mpr g)
      congr 1
      omega
  · have h2 : ¬ nI 0 < nI a - nI b := by
      rw [Int32.lt_iff_toInt_lt, I_sub (by rw [nI_toInt ha, nI_toInt hb]; omega) (by rw [nI_toInt ha, nI_toInt hb]; omega), nI_toInt ha, nI_toInt hb]
      show ¬ (0 : Int) < _
      omega
    rw [if_neg h2]
    congr 1
    omega
theorem grs_s {f : Nat → Int64} {n j c : Nat} {s : Int64} (hs : s.toInt = grp (toI f) n j c) {x y : Int64} (hx : x = f (2 * j - n + c)) (hy : y = f (2 * j - (2 * j - n + c))) (hp : inL (x.toInt * y.toInt)) : ((2 * j - (2 * j - n + c) + n) % 2 = 0 → (inL (s.toInt + (x * y).toInt) ↔ inL (grp (toI f) n j (c + 1))) ∧ (inL (s.toInt + (x * y).toInt) → (s + x * y).toInt = grp (toI f) n j (c + 1))) ∧ (¬ (2 * j - (2 * j - n + c) + n) % 2 = 0 → (inL (s.toInt - (x * y).toInt) ↔ inL (grp (toI f) n j (c + 1))) ∧ (inL (s.toInt - (x * y).toInt) → (s + -(x * y)).toInt = grp (toI f) n j (c + 1))) := by
  subst hx
  subst hy
  have e : (f (2 * j - n + c) * f (2 * j - (2 * j - n + c))).toInt = toI f (2 * j - n + c) * toI f (2 * j - (2 * j - n + c)) := L_mul hp.1 hp.2
  generalize f (2 * j - n + c) * f (2 * j - (2 * j - n + c)) = z at *
  have hg : grp (toI f) n j (c + 1) = grp (toI f) n j c + grt (toI f) n j (2 * j - n + c) := rfl
  constructor
  · intro h
    have h2 : grt (toI f) n j (2 * j - n + c) = z.toInt := by unfold grt; rw [if_pos h, e]
    rw [hg, h2, ← hs]
    exact ⟨Iff.rfl, fun g => L_add g.1 g.2⟩
  · intro h
    have h2 : grt (toI f) n j (2 * j - n + c) = -z.toInt := by unfold grt; rw [if_neg h, e]
    rw [hg, h2, ← hs]
    refine ⟨by rw [Int.sub_eq_add_neg], fun g => ?_⟩
    rw [← Int64.sub_eq_add_neg, L_sub g.1 g.2]
    omega
abbrev BX4_writesCarefulSum (w0 : Wd) (Post : Option Value → Wd → Prop) (w : Wd) (pc : Nat) (ls : List (Nat × Value)) (st : List Value) : Prop := GP "writesCarefulSum" RX4 cX4_writesCarefulSum 12 (some .boolean) 1 39 none w0 Post w pc ls st
abbrev EX4_writesCarefulSum (As : List Value) (w : Wd) (Post : Option Value → Wd → Prop) : Prop := EP yX4_writesCarefulSum cX4_writesCarefulSum 12 (some .boolean) 1 As w Post
theorem cf_loop {w0 w : Wd} {q Q n j p K : Nat} {f g : Nat → Int64} (hq : w[q]? = some (aL Q f)) (hp : w[p]? = some (aL K g)) (hQ : Q < 2147483648) (hK : K < 2147483648) (hn : n < Q) (hn2 : n ≤ 100) (hj : j ≤ n) (hjK : j < K) : ∀ (k c : Nat) (s : Int64), gcnt n j = c + k → s.toInt = grp (toI f) n j c → (∀ c', c' < c → inL (toI f (2 * j - n + c') * toI f (2 * j - (2 * j - n + c'))) ∧ inL (grp (toI f) n j (c' + 1))) → BX4_writesCarefulSum w0 (fun r w' => (r = some (.int (nI 1)) ∧ gfit (toI f) n j ∧ ∃ s : Int64, s.toInt = gco (toI f) n j ∧ w' = w.set p (aL K (vp_updL g j s))) ∨ (r = some (.int (nI 0)) ∧ ¬ gfit (toI f) n j ∧ w' = w)) w 23 [(7, .int (nI (2 * j - n + c))), (6, .int (nI (min n (2 * j)))), (4, .long s), (0, .ref q), (1, .int (nI n)), (2, .int (nI j)), (3, .ref p)] [] := by
  have hcn : gcnt n j = min n (2 * j) + 1 - (2 * j - n) := rfl
  intro k
  induction k with
  | zero =>
    intro c s hc hs hf
    refine g_iload (pc := 23) 0 dX4_writesCarefulSum_23 rfl ?_
    refine g_iload (pc := 25) 1 dX4_writesCarefulSum_25 rfl ?_
    refine n_icmp_gt (pc := 27) 135 dX4_writesCarefulSum_27 (by decide) (by omega) (by omega) (fun hz => ?_) (fun hz => ?_)
    · refine g_aload_n (pc := 135) 6 dX4_writesCarefulSum_135 rfl rfl ?_
      refine g_iload_n (pc := 136) 5 dX4_writesCarefulSum_136 rfl rfl ?_
      refine g_lload (pc := 137) 2 dX4_writesCarefulSum_137 rfl ?_
      refine g_last (pc := 139) j dX4_writesCarefulSum_139 hp (IXn (by omega) (by omega)) ?_
      refine g_iconst (pc := 140) (v := nI 1) dX4_writesCarefulSum_140 (by decide) ?_
      exact g_iret (pc := 141) dX4_writesCarefulSum_141 (Or.inl ⟨rfl, fun c' hc' => hf c' (by omega), s, by rw [hs]; unfold gco; congr 1; omega, rfl⟩)
    · exact absurd hz (by omega)
  | succ k ih =>
    intro c s hc hs hf
    refine g_iload (pc := 23) 0 dX4_writesCarefulSum_23 rfl ?_
    refine g_iload (pc := 25) 1 dX4_writesCarefulSum_25 rfl ?_
    refine n_icmp_gt (pc := 27) 135 dX4_writesCarefulSum_27 (by decide) (by omega) (by omega) (fun hz => ?_) (fun hz => ?_)
    · exact absurd hz (by omega)
    · refine g_iconst (pc := 30) (v := nI 2) dX4_writesCarefulSum_30 (by decide) ?_
      refine g_iload_n (pc := 31) 5 dX4_writesCarefulSum_31 rfl rfl ?_
      refine n_imul (pc := 32) dX4_writesCarefulSum_32 ?_
      refine g_iload (pc := 33) 0 dX4_writesCarefulSum_33 rfl ?_
      refine n_isub (pc := 35) dX4_writesCarefulSum_35 (by omega) ?_
      refine g_istore (pc := 36) [(8, .int (nI ((2 * j) - (2 * j - n + c)))), (7, .int (nI (2 * j - n + c))), (6, .int (nI (min n (2 * j)))), (4, .long s), (0, .ref q), (1, .int (nI n)), (2, .int (nI j)), (3, .ref p)] dX4_writesCarefulSum_36 (by decide) rfl ?_
      refine g_aload_n (pc := 38) 4 dX4_writesCarefulSum_38 rfl rfl ?_
      refine g_iload (pc := 39) 1 dX4_writesCarefulSum_39 rfl ?_
      refine g_lald (pc := 41) (2 * j - n + c) dX4_writesCarefulSum_41 hq (IXn (by omega) (by omega)) ?_
      refine g_aload_n (pc := 42) 4 dX4_writesCarefulSum_42 rfl rfl ?_
      refine g_iload (pc := 43) 0 dX4_writesCarefulSum_43 rfl ?_
      refine g_lald (pc := 45) ((2 * j) - (2 * j - n + c)) dX4_writesCarefulSum_45 hq (IXn (by omega) (by omega)) ?_
      refine g_callS (pc := 46) [.long (f (2 * j - n + c)), .long (f ((2 * j) - (2 * j - n + c)))] dX4_writesCarefulSum_46 cs_X4_67.1 cs_X4_67.2 rfl rfl (Nat.le_of_ble_eq_true rfl) (by decide) (by decide) (sp_productFits _ _ _) ?_
      rintro _ w9 (⟨rfl, hP, e9⟩ | ⟨rfl, hP, e9⟩)
      · refine GP.weq _ e9 ?_
        refine n_if_ne (pc := 49) 54 dX4_writesCarefulSum_49 (by decide) (by omega) (fun hz9 => ?_) (fun hz9 => ?_)
        · have hG := grs_s hs rfl rfl hP
          refine g_aload_n (pc := 54) 4 dX4_writesCarefulSum_54 rfl rfl ?_
          refine g_iload (pc := 55) 1 dX4_writesCarefulSum_55 rfl ?_
          refine g_lald (pc := 57) (2 * j - n + c) dX4_writesCarefulSum_57 hq (IXn (by omega) (by omega)) ?_
          refine g_aload_n (pc := 58) 4 dX4_writesCarefulSum_58 rfl rfl ?_
          refine g_iload (pc := 59) 0 dX4_writesCarefulSum_59 rfl ?_
          refine g_lald (pc := 61) ((2 * j) - (2 * j - n + c)) dX4_writesCarefulSum_61 hq (IXn (by omega) (by omega)) ?_
          refine g_lmul (pc := 62) dX4_writesCarefulSum_62 ?_
          refine g_lstore (pc := 63) [(9, .long ((f (2 * j - n + c)) * (f ((2 * j) - (2 * j - n + c))))), (8, .int (nI ((2 * j) - (2 * j - n + c)))), (7, .int (nI (2 * j - n + c))), (6, .int (nI (min n (2 * j)))), (4, .long s), (0, .ref q), (1, .int (nI n)), (2, .int (nI j)), (3, .ref p)] dX4_writesCarefulSum_63 (by decide) rfl ?_
          refine g_iload (pc := 65) 1 dX4_writesCarefulSum_65 rfl ?_
          refine g_iload_n (pc := 67) 6 dX4_writesCarefulSum_67 rfl rfl ?_
          refine n_iadd (pc := 68) dX4_writesCarefulSum_68 ?_
          refine g_iconst (pc := 69) (v := nI 2) dX4_writesCarefulSum_69 (by decide) ?_
          refine n_irem (pc := 70) dX4_writesCarefulSum_70 (by omega) (by omega) (by omega) ?_
          refine n_if_eq (pc := 71) 78 dX4_writesCarefulSum_71 (by decide) (by omega) (fun hev => ?_) (fun hev => ?_)
          · refine g_iconst (pc := 78) (v := nI 0) dX4_writesCarefulSum_78 (by decide) ?_
            refine g_istore (pc := 79) [(11, .int (nI 0)), (9, .long ((f (2 * j - n + c)) * (f ((2 * j) - (2 * j - n + c))))), (8, .int (nI ((2 * j) - (2 * j - n + c)))), (7, .int (nI (2 * j - n + c))), (6, .int (nI (min n (2 * j)))), (4, .long s), (0, .ref q), (1, .int (nI n)), (2, .int (nI j)), (3, .ref p)] dX4_writesCarefulSum_79 (by decide) rfl ?_
            refine g_iload (pc := 81) 0 dX4_writesCarefulSum_81 rfl ?_
            refine n_if_eq (pc := 83) 99 dX4_writesCarefulSum_83 (by decide) (by omega) (fun hzz => ?_) (fun hzz => ?_)
            · refine g_lload (pc := 99) 5 dX4_writesCarefulSum_99 rfl ?_
              refine g_lload (pc := 101) 1 dX4_writesCarefulSum_101 rfl ?_
              refine g_callS (pc := 103) [.long s, .long ((f (2 * j - n + c)) * (f ((2 * j) - (2 * j - n + c))))] dX4_writesCarefulSum_103 cs_X4_74.1 cs_X4_74.2 rfl rfl (Nat.le_of_ble_eq_true rfl) (by decide) (by decide) (sp_sumFits _ _ _) ?_
              rintro _ w9 (⟨rfl, hS, e9⟩ | ⟨rfl, hS, e9⟩)
              · refine GP.weq _ e9 ?_
                refine n_if_ne (pc := 106) 111 dX4_writesCarefulSum_106 (by decide) (by omega) (fun hz5 => ?_) (fun hz5 => ?_)
                · refine g_lload (pc := 111) 5 dX4_writesCarefulSum_111 rfl ?_
                  refine g_iload (pc := 113) 0 dX4_writesCarefulSum_113 rfl ?_
                  refine n_if_eq (pc := 115) 124 dX4_writesCarefulSum_115 (by decide) (by omega) (fun hz6 => ?_) (fun hz6 => ?_)
                  · refine g_lload (pc := 124) 1 dX4_writesCarefulSum_124 rfl ?_
                    refine g_ladd (pc := 126) dX4_writesCarefulSum_126 ?_
                    refine g_lstore (pc := 127) [(4, .long (s + ((f (2 * j - n + c)) * (f ((2 * j) - (2 * j - n + c)))))), (11, .int (nI 0)), (9, .long ((f (2 * j - n + c)) * (f ((2 * j) - (2 * j - n + c))))), (8, .int (nI ((2 * j) - (2 * j - n + c)))), (7, .int (nI (2 * j - n + c))), (6, .int (nI (min n (2 * j)))), (0, .ref q), (1, .int (nI n)), (2, .int (nI j)), (3, .ref p)] dX4_writesCarefulSum_127 (by decide) rfl ?_
                    refine n_iinc (pc := 129) (c := 1) [(7, .int (nI ((2 * j - n + c) + 1))), (4, .long (s + ((f (2 * j - n + c)) * (f ((2 * j) - (2 * j - n + c)))))), (11, .int (nI 0)), (9, .long ((f (2 * j - n + c)) * (f ((2 * j) - (2 * j - n + c))))), (8, .int (nI ((2 * j) - (2 * j - n + c)))), (6, .int (nI (min n (2 * j)))), (0, .ref q), (1, .int (nI n)), (2, .int (nI j)), (3, .ref p)] 4 dX4_writesCarefulSum_129 rfl (by decide) (by decide) rfl ?_
                    refine g_goto (pc := 132) 23 dX4_writesCarefulSum_132 (by decide) ?_
                    refine GP.lsub [(7, .int (nI (2 * j - n + (c + 1)))), (6, .int (nI (min n (2 * j)))), (4, .long (s + ((f (2 * j - n + c)) * (f ((2 * j) - (2 * j - n + c)))))), (0, .ref q), (1, .int (nI n)), (2, .int (nI j)), (3, .ref p)] (by simp [Nat.add_assoc]) ?_
                    refine ih (c + 1) _ (by omega) ((hG.1 hev).2 hS) (fun c' hc' => ?_)
                    by_cases hcc : c' = c
                    · subst hcc; exact ⟨hP, (hG.1 hev).1.mp hS⟩
                    · exact hf c' (by omega)
                  · exact absurd hz6 (by decide)
                · exact absurd hz5 (by decide)
              · refine GP.weq _ e9 ?_
                refine n_if_ne (pc := 106) 111 dX4_writesCarefulSum_106 (by decide) (by omega) (fun hz5 => ?_) (fun hz5 => ?_)
                · exact absurd rfl hz5
                · refine g_iconst (pc := 109) (v := nI 0) dX4_writesCarefulSum_109 (by decide) ?_
                  exact g_iret (pc := 110) dX4_writesCarefulSum_110 (Or.inr ⟨rfl, fun hg => hS ((hG.1 hev).1.mpr (hg c (by omega)).2), rfl⟩)
            · exact absurd hzz (by decide)
          · refine g_iconst (pc := 74) (v := nI 1) dX4_writesCarefulSum_74 (by decide) ?_
            refine g_goto (pc := 75) 79 dX4_writesCarefulSum_75 (by decide) ?_
            refine g_istore (pc := 79) [(11, .int (nI 1)), (9, .long ((f (2 * j - n + c)) * (f ((2 * j) - (2 * j - n + c))))), (8, .int (nI ((2 * j) - (2 * j - n + c)))), (7, .int (nI (2 * j - n + c))), (6, .int (nI (min n (2 * j)))), (4, .long s), (0, .ref q), (1, .int (nI n)), (2, .int (nI j)), (3, .ref p)] dX4_writesCarefulSum_79 (by decide) rfl ?_
            refine g_iload (pc := 81) 0 dX4_writesCarefulSum_81 rfl ?_
            refine n_if_eq (pc := 83) 99 dX4_writesCarefulSum_83 (by decide) (by omega) (fun hzz => ?_) (fun hzz => ?_)
            · exact absurd hzz (by decide)
            · refine g_lload (pc := 86) 5 dX4_writesCarefulSum_86 rfl ?_
              refine g_lload (pc := 88) 1 dX4_writesCarefulSum_88 rfl ?_
              refine g_callS (pc := 90) [.long s, .long ((f (2 * j - n + c)) * (f ((2 * j) - (2 * j - n + c))))] dX4_writesCarefulSum_90 cs_X4_71.1 cs_X4_71.2 rfl rfl (Nat.le_of_ble_eq_true rfl) (by decide) (by decide) (sp_differenceFits _ _ _) ?_
              rintro _ w9 (⟨rfl, hS, e9⟩ | ⟨rfl, hS, e9⟩)
              · refine GP.weq _ e9 ?_
                refine n_if_ne (pc := 93) 111 dX4_writesCarefulSum_93 (by decide) (by omega) (fun hz5 => ?_) (fun hz5 => ?_)
                · refine g_lload (pc := 111) 5 dX4_writesCarefulSum_111 rfl ?_
                  refine g_iload (pc := 113) 0 dX4_writesCarefulSum_113 rfl ?_
                  refine n_if_eq (pc := 115) 124 dX4_writesCarefulSum_115 (by decide) (by omega) (fun hz6 => ?_) (fun hz6 => ?_)
                  · exact absurd hz6 (by decide)
                  · refine g_lload (pc := 118) 1 dX4_writesCarefulSum_118 rfl ?_
                    refine g_lneg (pc := 120) dX4_writesCarefulSum_120 ?_
                    refine g_goto (pc := 121) 126 dX4_writesCarefulSum_121 (by decide) ?_
                    refine g_ladd (pc := 126) dX4_writesCarefulSum_126 ?_
                    refine g_lstore (pc := 127) [(4, .long (s + (-((f (2 * j - n + c)) * (f ((2 * j) - (2 * j - n + c))))))), (11, .int (nI 1)), (9, .long ((f (2 * j - n + c)) * (f ((2 * j) - (2 * j - n + c))))), (8, .int (nI ((2 * j) - (2 * j - n + c)))), (7, .int (nI (2 * j - n + c))), (6, .int (nI (min n (2 * j)))), (0, .ref q), (1, .int (nI n)), (2, .int (nI j)), (3, .ref p)] dX4_writesCarefulSum_127 (by decide) rfl ?_
                    refine n_iinc (pc := 129) (c := 1) [(7, .int (nI ((2 * j - n + c) + 1))), (4, .long (s + (-((f (2 * j - n + c)) * (f ((2 * j) - (2 * j - n + c))))))), (11, .int (nI 1)), (9, .long ((f (2 * j - n + c)) * (f ((2 * j) - (2 * j - n + c))))), (8, .int (nI ((2 * j) - (2 * j - n + c)))), (6, .int (nI (min n (2 * j)))), (0, .ref q), (1, .int (nI n)), (2, .int (nI j)), (3, .ref p)] 4 dX4_writesCarefulSum_129 rfl (by decide) (by decide) rfl ?_
                    refine g_goto (pc := 132) 23 dX4_writesCarefulSum_132 (by decide) ?_
                    refine GP.lsub [(7, .int (nI (2 * j - n + (c + 1)))), (6, .int (nI (min n (2 * j)))), (4, .long (s + (-((f (2 * j - n + c)) * (f ((2 * j) - (2 * j - n + c))))))), (0, .ref q), (1, .int (nI n)), (2, .int (nI j)), (3, .ref p)] (by simp [Nat.add_assoc]) ?_
                    refine ih (c + 1) _ (by omega) ((hG.2 hev).2 hS) (fun c' hc' => ?_)
                    by_cases hcc : c' = c
                    · subst hcc; exact ⟨hP, (hG.2 hev).1.mp hS⟩
                    · exact hf c' (by omega)
                · exact absurd hz5 (by decide)
              · refine GP.weq _ e9 ?_
                refine n_if_ne (pc := 93) 111 dX4_writesCarefulSum_93 (by decide) (by omega) (fun hz5 => ?_) (fun hz5 => ?_)
                · exact absurd rfl hz5
                · refine g_goto (pc := 96) 109 dX4_writesCarefulSum_96 (by decide) ?_
                  refine g_iconst (pc := 109) (v := nI 0) dX4_writesCarefulSum_109 (by decide) ?_
                  exact g_iret (pc := 110) dX4_writesCarefulSum_110 (Or.inr ⟨rfl, fun hg => hS ((hG.2 hev).1.mpr (hg c (by omega)).2), rfl⟩)
        · exact absurd hz9 (by decide)
      · refine GP.weq _ e9 ?_
        refine n_if_ne (pc := 49) 54 dX4_writesCarefulSum_49 (by decide) (by omega) (fun hz9 => ?_) (fun hz9 => ?_)
        · exact absurd rfl hz9
        · refine g_iconst (pc := 52) (v := nI 0) dX4_writesCarefulSum_52 (by decide) ?_
          exact g_iret (pc := 53) dX4_writesCarefulSum_53 (Or.inr ⟨rfl, fun hg => hP (hg c (by omega)).1, rfl⟩)
theorem sp_careful (w : Wd) {q Q n j p K : Nat} {f g : Nat → Int64} (hq : w[q]? = some (aL Q f)) (hp : w[p]? = some (aL K g)) (hQ : Q < 2147483648) (hK : K < 2147483648) (hn : n < Q) (hn2 : n ≤ 100) (hj : j ≤ n) (hjK : j < K) : EX4_writesCarefulSum [.ref q, .int (nI n), .int (nI j), .ref p] w (fun r w' => (r = some (.int (nI 1)) ∧ gfit (toI f) n j ∧ ∃ s : Int64, s.toInt = gco (toI f) n j ∧ w' = w.set p (aL K (vp_updL g j s))) ∨ (r = some (.int (nI 0)) ∧ ¬ gfit (toI f) n j ∧ w' = w)) := by
  refine EP.of (plainFor_of_name (by decide)) [(0, .ref q), (1, .int (nI n)), (2, .int (nI j)), (3, .ref p)] rfl (Nat.le_of_ble_eq_true rfl) (fun r wf h => by rcases h with ⟨rfl, -⟩ | ⟨rfl, -⟩; exact Or.inr rfl; exact Or.inl rfl) ?_
  show BX4_writesCarefulSum w _ w 0 [(0, .ref q), (1, .int (nI n)), (2, .int (nI j)), (3, .ref p)] []
  refine g_lconst (pc := 0) (v := 0) dX4_writesCarefulSum_0 (by decide) ?_
  refine g_lstore (pc := 1) [(4, .long 0), (0, .ref q), (1, .int (nI n)), (2, .int (nI j)), (3, .ref p)] dX4_writesCarefulSum_1 (by decide) rfl ?_
  refine g_iload_n (pc := 3) 2 dX4_writesCarefulSum_3 rfl rfl ?_
  refine g_iconst (pc := 4) (v := nI 2) dX4_writesCarefulSum_4 (by decide) ?_
  refine g_iload_n (pc := 5) 3 dX4_writesCarefulSum_5 rfl rfl ?_
  refine n_imul (pc := 6) dX4_writesCarefulSum_6 ?_
  refine g_callS (pc := 7) [.int (nI n), .int (nI (2 * j))] dX4_writesCarefulSum_7 cs_X4_34.1 cs_X4_34.2 rfl rfl (Nat.le_of_ble_eq_true rfl) (by decide) (by decide) (sp_minI _ (nI n) (nI (2 * j))) ?_
  rintro _ w9 ⟨rfl, e9⟩
  refine GP.weq _ e9 ?_
  refine GP.ti (nI (min n (2 * j))) (minN (by omega) (by omega)) ?_
  refine g_istore (pc := 10) [(6, .int (nI (min n (2 * j)))), (4, .long 0), (0, .ref q), (1, .int (nI n)), (2, .int (nI j)), (3, .ref p)] dX4_writesCarefulSum_10 (by decide) rfl ?_
  refine g_iconst (pc := 12) (v := nI 0) dX4_writesCarefulSum_12 (by decide) ?_
  refine g_iconst (pc := 13) (v := nI 2) dX4_writesCarefulSum_13 (by decide) ?_
  refine g_iload_n (pc := 14) 4 dX4_writesCarefulSum_14 rfl rfl ?_
  refine n_imul (pc := 15) dX4_writesCarefulSum_15 ?_
  refine g_iload_n (pc := 16) 3 dX4_writesCarefulSum_16 rfl rfl ?_
  refine g_isub (pc := 17) dX4_writesCarefulSum_17 ?_
  refine g_callS (pc := 18) [.int (nI 0), .int ((nI (2 * j)) - (nI n))] dX4_writesCarefulSum_18 cs_X4_40.1 cs_X4_40.2 rfl rfl (Nat.le_of_ble_eq_true rfl) (by decide) (by decide) (sp_maxI _ (nI 0) (nI (2 * j) - nI n)) ?_
  rintro _ w9 ⟨rfl, e9⟩
  refine GP.weq _ e9 ?_
  refine GP.ti (nI (2 * j - n)) (max0 (by omega) (by omega)) ?_
  refine g_istore (pc := 21) [(7, .int (nI (2 * j - n))), (6, .int (nI (min n (2 * j)))), (4, .long 0), (0, .ref q), (1, .int (nI n)), (2, .int (nI j)), (3, .ref p)] dX4_writesCarefulSum_21 (by decide) rfl ?_
  refine GP.lsub [(7, .int (nI (2 * j - n + 0))), (6, .int (nI (min n (2 * j)))), (4, .long 0), (0, .ref q), (1, .int (nI n)), (2, .int (nI j)), (3, .ref p)] (by simp) ?_
  exact cf_loop hq hp hQ hK hn hn2 hj hjK (gcnt n j) 0 0 (by omega) (show (0 : Int64).toInt = 0 by decide) (fun c' hc' => absurd hc' (by omega))
