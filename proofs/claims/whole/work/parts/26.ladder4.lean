/-! Ladder: SQUARED -/
def sqd (a : Nat → Int) (n : Nat) : Prop := ∀ j, j ≤ n → gfit a n j
abbrev BX4_writesSquared (w0 : Wd) (Post : Option Value → Wd → Prop) (w : Wd) (pc : Nat) (ls : List (Nat × Value)) (st : List Value) : Prop := GP "writesSquared" RX4 cX4_writesSquared 5 (some .boolean) 2 78 none w0 Post w pc ls st
abbrev EX4_writesSquared (As : List Value) (w : Wd) (Post : Option Value → Wd → Prop) : Prop := EP yX4_writesSquared cX4_writesSquared 5 (some .boolean) 2 As w Post
theorem ws_loop1 {w0 w : Wd} {Post : Option Value → Wd → Prop} {q Q n p K : Nat} {f g : Nat → Int64} (hq : w[q]? = some (aL Q f)) (hp : w[p]? = some (aL K g)) (hpq : p ≠ q) (hQ : Q < 2147483648) (hK : K < 2147483648) (hn : n < Q) (hn2 : n ≤ 12) (hnK : n < K) (hx : ∀ e, e ≤ 1 → (e = 1 → easyA f n) → BX4_writesSquared w0 Post w 67 [(4, .int (nI (n + 1))), (3, .int (nI e)), (0, .ref q), (1, .int (nI n)), (2, .ref p)] []) : ∀ (k i e : Nat), n + 1 = i + k → e ≤ 1 → (e = 1 → ∀ t, t < i → -536870912 < (f t).toInt ∧ (f t).toInt < 536870912) → BX4_writesSquared w0 Post w 23 [(4, .int (nI i)), (3, .int (nI e)), (0, .ref q), (1, .int (nI n)), (2, .ref p)] [] := by
  intro k
  induction k with
  | zero =>
    intro i e hi he h
    refine g_iload (pc := 23) 0 dX4_writesSquared_23 rfl ?_
    refine g_iload_n (pc := 25) 3 dX4_writesSquared_25 rfl rfl ?_
    refine n_icmp_gt (pc := 26) 67 dX4_writesSquared_26 (by decide) (by omega) (by omega) (fun hz => ?_) (fun hz => ?_)
    · have e9 : i = n + 1 := by omega
      subst e9
      exact hx e he (fun g t ht => h g t (by omega))
    · exact absurd hz (by omega)
  | succ k ih =>
    intro i e hi he h
    refine g_iload (pc := 23) 0 dX4_writesSquared_23 rfl ?_
    refine g_iload_n (pc := 25) 3 dX4_writesSquared_25 rfl rfl ?_
    refine n_icmp_gt (pc := 26) 67 dX4_writesSquared_26 (by decide) (by omega) (by omega) (fun hz => ?_) (fun hz => ?_)
    · exact absurd hz (by omega)
    · refine g_iload_n (pc := 29) 1 dX4_writesSquared_29 rfl rfl ?_
      refine n_if_eq (pc := 30) 59 dX4_writesSquared_30 (by decide) (by omega) (fun hz1 => ?_) (fun hz1 => ?_)
      · refine g_iconst (pc := 59) (v := nI 0) dX4_writesSquared_59 (by decide) ?_
        refine g_istore_n (pc := 60) [(3, .int (nI 0)), (4, .int (nI i)), (0, .ref q), (1, .int (nI n)), (2, .ref p)] dX4_writesSquared_60 rfl (by decide) rfl ?_
        refine n_iinc (pc := 61) (c := 1) [(4, .int (nI (i + 1))), (3, .int (nI 0)), (0, .ref q), (1, .int (nI n)), (2, .ref p)] 1 dX4_writesSquared_61 rfl (by decide) (by decide) rfl ?_
        refine g_goto (pc := 64) 23 dX4_writesSquared_64 (by decide) ?_
        exact GP.lsub _ (by simp) (ih (i + 1) 0 (by omega) (by omega) (fun g => absurd g (by decide)))
      · refine g_aload_n (pc := 33) 2 dX4_writesSquared_33 rfl rfl ?_
        refine g_iload (pc := 34) 0 dX4_writesSquared_34 rfl ?_
        refine g_lald (pc := 36) i dX4_writesSquared_36 hq (IXn (by omega) (by omega)) ?_
        refine g_ldc2 (pc := 37) kc_X4_53 dX4_writesSquared_37 ?_
        refine g_lcmp_ge (pc := 40) 59 dX4_writesSquared_40 dX4_writesSquared_41 (by decide) (fun hz2 => ?_) (fun hz2 => ?_)
        · refine g_iconst (pc := 59) (v := nI 0) dX4_writesSquared_59 (by decide) ?_
          refine g_istore_n (pc := 60) [(3, .int (nI 0)), (4, .int (nI i)), (0, .ref q), (1, .int (nI n)), (2, .ref p)] dX4_writesSquared_60 rfl (by decide) rfl ?_
          refine n_iinc (pc := 61) (c := 1) [(4, .int (nI (i + 1))), (3, .int (nI 0)), (0, .ref q), (1, .int (nI n)), (2, .ref p)] 1 dX4_writesSquared_61 rfl (by decide) (by decide) rfl ?_
          refine g_goto (pc := 64) 23 dX4_writesSquared_64 (by decide) ?_
          exact GP.lsub _ (by simp) (ih (i + 1) 0 (by omega) (by omega) (fun g => absurd g (by decide)))
        · refine g_aload_n (pc := 44) 2 dX4_writesSquared_44 rfl rfl ?_
          refine g_iload (pc := 45) 0 dX4_writesSquared_45 rfl ?_
          refine g_lald (pc := 47) i dX4_writesSquared_47 hq (IXn (by omega) (by omega)) ?_
          refine g_ldc2 (pc := 48) kc_X4_55 dX4_writesSquared_48 ?_
          refine g_lcmp_le (pc := 51) 59 dX4_writesSquared_51 dX4_writesSquared_52 (by decide) (fun hz3 => ?_) (fun hz3 => ?_)
          · refine g_iconst (pc := 59) (v := nI 0) dX4_writesSquared_59 (by decide) ?_
            refine g_istore_n (pc := 60) [(3, .int (nI 0)), (4, .int (nI i)), (0, .ref q), (1, .int (nI n)), (2, .ref p)] dX4_writesSquared_60 rfl (by decide) rfl ?_
            refine n_iinc (pc := 61) (c := 1) [(4, .int (nI (i + 1))), (3, .int (nI 0)), (0, .ref q), (1, .int (nI n)), (2, .ref p)] 1 dX4_writesSquared_61 rfl (by decide) (by decide) rfl ?_
            refine g_goto (pc := 64) 23 dX4_writesSquared_64 (by decide) ?_
            exact GP.lsub _ (by simp) (ih (i + 1) 0 (by omega) (by omega) (fun g => absurd g (by decide)))
          · refine g_iconst (pc := 55) (v := nI 1) dX4_writesSquared_55 (by decide) ?_
            refine g_goto (pc := 56) 60 dX4_writesSquared_56 (by decide) ?_
            refine g_istore_n (pc := 60) [(3, .int (nI 1)), (4, .int (nI i)), (0, .ref q), (1, .int (nI n)), (2, .ref p)] dX4_writesSquared_60 rfl (by decide) rfl ?_
            refine n_iinc (pc := 61) (c := 1) [(4, .int (nI (i + 1))), (3, .int (nI 1)), (0, .ref q), (1, .int (nI n)), (2, .ref p)] 1 dX4_writesSquared_61 rfl (by decide) (by decide) rfl ?_
            refine g_goto (pc := 64) 23 dX4_writesSquared_64 (by decide) ?_
            refine GP.lsub _ (by simp) (ih (i + 1) 1 (by omega) (by omega) (fun _ t ht => ?_))
            by_cases hti : t = i
            · subst hti
              have a1 : ¬ (536870912 : Int64).toInt ≤ (f t).toInt := fun g => hz2 (Int64.le_iff_toInt_le.mpr g)
              have a2 : ¬ (f t).toInt ≤ (-536870912 : Int64).toInt := fun g => hz3 (Int64.le_iff_toInt_le.mpr g)
              have b1 : (536870912 : Int64).toInt = 536870912 := by decide
              have b2 : (-536870912 : Int64).toInt = -536870912 := by decide
              omega
            · exact h (by omega) t (by omega)
theorem ws_loop2 {w0 w : Wd} {q Q n p K : Nat} {f g : Nat → Int64} (hq : w[q]? = some (aL Q f)) (hp : w[p]? = some (aL K g)) (hpq : p ≠ q) (hQ : Q < 2147483648) (hK : K < 2147483648) (hn : n < Q) (hn2 : n ≤ 12) (hnK : n < K) {e : Nat} (he1 : e ≤ 1) (he : e = 1 → easyA f n) : ∀ (k j : Nat) (cur : Nat → Int64), n + 1 = j + k → (∀ t, t < j → gfit (toI f) n t ∧ (cur t).toInt = gco (toI f) n t) → (∀ t, n < t → cur t = g t) → BX4_writesSquared w0 (fun r w' => (r = some (.int (nI 1)) ∧ sqd (toI f) n ∧ ∃ g' : Nat → Int64, (∀ j, j ≤ n → (g' j).toInt = gco (toI f) n j) ∧ (∀ j, n < j → g' j = g j) ∧ w' = w.set p (aL K g')) ∨ (r = some (.int (nI 0)) ∧ ¬ sqd (toI f) n ∧ ∃ g' : Nat → Int64, (∀ j, n < j → g' j = g j) ∧ w' = w.set p (aL K g'))) (w.set p (aL K cur)) 70 [(4, .int (nI j)), (3, .int (nI e)), (0, .ref q), (1, .int (nI n)), (2, .ref p)] [] := by
  intro k
  induction k with
  | zero =>
    intro j cur hj h h2
    refine g_iload (pc := 70) 0 dX4_writesSquared_70 rfl ?_
    refine g_iload_n (pc := 72) 3 dX4_writesSquared_72 rfl rfl ?_
    refine n_icmp_gt (pc := 73) 113 dX4_writesSquared_73 (by decide) (by omega) (by omega) (fun hz => ?_) (fun hz => ?_)
    · refine g_iconst (pc := 113) (v := nI 1) dX4_writesSquared_113 (by decide) ?_
      exact g_iret (pc := 114) dX4_writesSquared_114 (Or.inl ⟨rfl, fun t ht => (h t (by omega)).1, cur, fun t ht => (h t (by omega)).2, h2, rfl⟩)
    · exact absurd hz (by omega)
  | succ k ih =>
    intro j cur hj h h2
    refine g_iload (pc := 70) 0 dX4_writesSquared_70 rfl ?_
    refine g_iload_n (pc := 72) 3 dX4_writesSquared_72 rfl rfl ?_
    refine n_icmp_gt (pc := 73) 113 dX4_writesSquared_73 (by decide) (by omega) (by omega) (fun hz => ?_) (fun hz => ?_)
    · exact absurd hz (by omega)
    · refine g_iload_n (pc := 76) 1 dX4_writesSquared_76 rfl rfl ?_
      refine n_if_eq (pc := 77) 94 dX4_writesSquared_77 (by decide) (by omega) (fun hz1 => ?_) (fun hz1 => ?_)
      · refine g_aload_n (pc := 94) 2 dX4_writesSquared_94 rfl rfl ?_
        refine g_iload_n (pc := 95) 3 dX4_writesSquared_95 rfl rfl ?_
        refine g_iload (pc := 96) 0 dX4_writesSquared_96 rfl ?_
        refine g_aload_n (pc := 98) 4 dX4_writesSquared_98 rfl rfl ?_
        refine g_callS (pc := 99) [.ref q, .int (nI n), .int (nI j), .ref p] dX4_writesSquared_99 cs_X4_61.1 cs_X4_61.2 rfl rfl (Nat.le_of_ble_eq_true rfl) (by decide) (by decide) (sp_careful _ (lk_ne hpq hq) (lk_eq hp) hQ hK hn (by omega) (by omega) (by omega)) ?_
        rintro _ w9 (⟨rfl, hG, s, hs, e9⟩ | ⟨rfl, hG, e9⟩)
        · refine GP.weq _ e9 ?_
          refine GP.weq (w.set p (aL K (vp_updL cur j s))) (by rw [List.set_set]) ?_
          refine n_if_ne (pc := 102) 107 dX4_writesSquared_102 (by decide) (by omega) (fun hz5 => ?_) (fun hz5 => ?_)
          · refine n_iinc (pc := 107) (c := 1) [(4, .int (nI (j + 1))), (3, .int (nI e)), (0, .ref q), (1, .int (nI n)), (2, .ref p)] 0 dX4_writesSquared_107 rfl (by decide) (by decide) rfl ?_
            refine g_goto (pc := 110) 70 dX4_writesSquared_110 (by decide) ?_
            refine GP.lsub _ (by simp) (ih (j + 1) _ (by omega) (fun t ht => ?_) (fun t ht => by rw [upL_n (by omega)]; exact h2 t ht))
            by_cases htj : t = j
            · subst htj; rw [upL_s]; exact ⟨hG, hs⟩
            · rw [upL_n htj]; exact h t (by omega)
          · exact absurd hz5 (by decide)
        · refine GP.weq _ e9 ?_
          refine n_if_ne (pc := 102) 107 dX4_writesSquared_102 (by decide) (by omega) (fun hz5 => ?_) (fun hz5 => ?_)
          · exact absurd rfl hz5
          · refine g_iconst (pc := 105) (v := nI 0) dX4_writesSquared_105 (by decide) ?_
            exact g_iret (pc := 106) dX4_writesSquared_106 (Or.inr ⟨rfl, fun hh => hG (hh j (by omega)), cur, h2, rfl⟩)
      · have hE := he (by omega)
        refine g_aload_n (pc := 80) 4 dX4_writesSquared_80 rfl rfl ?_
        refine g_iload (pc := 81) 0 dX4_writesSquared_81 rfl ?_
        refine g_aload_n (pc := 83) 2 dX4_writesSquared_83 rfl rfl ?_
        refine g_iload_n (pc := 84) 3 dX4_writesSquared_84 rfl rfl ?_
        refine g_iload (pc := 85) 0 dX4_writesSquared_85 rfl ?_
        refine g_callS (pc := 87) [.ref q, .int (nI n), .int (nI j)] dX4_writesSquared_87 cs_X4_57.1 cs_X4_57.2 rfl rfl (Nat.le_of_ble_eq_true rfl) (by decide) (by decide) (sp_easySum _ (lk_ne hpq hq) hQ hn hn2 (by omega) hE) ?_
        rintro _ w9 ⟨s, rfl, hs, e9⟩
        refine GP.weq _ e9 ?_
        refine g_last (pc := 90) j dX4_writesSquared_90 (lk_eq hp) (IXn (by omega) (by omega)) ?_
        refine GP.weq (w.set p (aL K (vp_updL cur j s))) (by rw [List.set_set]) ?_
        refine g_goto (pc := 91) 107 dX4_writesSquared_91 (by decide) ?_
        refine n_iinc (pc := 107) (c := 1) [(4, .int (nI (j + 1))), (3, .int (nI e)), (0, .ref q), (1, .int (nI n)), (2, .ref p)] 0 dX4_writesSquared_107 rfl (by decide) (by decide) rfl ?_
        refine g_goto (pc := 110) 70 dX4_writesSquared_110 (by decide) ?_
        refine GP.lsub _ (by simp) (ih (j + 1) _ (by omega) (fun t ht => ?_) (fun t ht => by rw [upL_n (by omega)]; exact h2 t ht))
        by_cases htj : t = j
        · subst htj; rw [upL_s]; exact ⟨easy_fit hn2 (by omega) hE, hs⟩
        · rw [upL_n htj]; exact h t (by omega)
theorem sp_writesSquared (w : Wd) {q Q n p K : Nat} {f g : Nat → Int64} (hq : w[q]? = some (aL Q f)) (hp : w[p]? = some (aL K g)) (hpq : p ≠ q) (hQ : Q < 2147483648) (hK : K < 2147483648) (hn : n < Q) (hn2 : n ≤ 12) (hnK : n < K) : EX4_writesSquared [.ref q, .int (nI n), .ref p] w (fun r w' => (r = some (.int (nI 1)) ∧ sqd (toI f) n ∧ ∃ g' : Nat → Int64, (∀ j, j ≤ n → (g' j).toInt = gco (toI f) n j) ∧ (∀ j, n < j → g' j = g j) ∧ w' = w.set p (aL K g')) ∨ (r = some (.int (nI 0)) ∧ ¬ sqd (toI f) n ∧ ∃ g' : Nat → Int64, (∀ j, n < j → g' j = g j) ∧ w' = w.set p (aL K g'))) := by
  refine EP.of (plainFor_of_name (by decide)) [(0, .ref q), (1, .int (nI n)), (2, .ref p)] rfl (Nat.le_of_ble_eq_true rfl) (fun r wf h => by rcases h with ⟨rfl, -⟩ | ⟨rfl, -⟩; exact Or.inr rfl; exact Or.inl rfl) ?_
  show BX4_writesSquared w _ w 0 [(0, .ref q), (1, .int (nI n)), (2, .ref p)] []
  refine g_iload_n (pc := 0) 1 dX4_writesSquared_0 rfl rfl ?_
  refine n_if_lt (pc := 1) 16 dX4_writesSquared_1 (by decide) (by omega) ?_
  refine g_iload_n (pc := 4) 1 dX4_writesSquared_4 rfl rfl ?_
  refine g_aload_n (pc := 5) 0 dX4_writesSquared_5 rfl rfl ?_
  refine g_alen (pc := 6) dX4_writesSquared_6 hq (by decide) ?_
  refine n_icmp_ge (pc := 7) 16 dX4_writesSquared_7 (by decide) (by omega) (by omega) (fun hz => ?_) (fun hz => ?_)
  · exact absurd hz (by omega)
  · refine g_iload_n (pc := 10) 1 dX4_writesSquared_10 rfl rfl ?_
    refine g_aload_n (pc := 11) 2 dX4_writesSquared_11 rfl rfl ?_
    refine g_alen (pc := 12) dX4_writesSquared_12 hp (by decide) ?_
    refine n_icmp_lt (pc := 13) 18 dX4_writesSquared_13 (by decide) (by omega) (by omega) (fun hz => ?_) (fun hz => ?_)
    · refine g_iconst (pc := 18) (v := nI 1) dX4_writesSquared_18 (by decide) ?_
      refine g_istore_n (pc := 19) [(3, .int (nI 1)), (0, .ref q), (1, .int (nI n)), (2, .ref p)] dX4_writesSquared_19 rfl (by decide) rfl ?_
      refine g_iconst (pc := 20) (v := nI 0) dX4_writesSquared_20 (by decide) ?_
      refine g_istore (pc := 21) [(4, .int (nI 0)), (3, .int (nI 1)), (0, .ref q), (1, .int (nI n)), (2, .ref p)] dX4_writesSquared_21 (by decide) rfl ?_
      refine GP.lsub [(4, .int (nI 0)), (3, .int (nI 1)), (0, .ref q), (1, .int (nI n)), (2, .ref p)] (by simp) ?_
      refine ws_loop1 hq hp hpq hQ hK hn hn2 hnK (fun e he1 he => ?_) (n + 1) 0 1 (by omega) (by omega) (fun _ t ht => absurd ht (by omega))
      refine g_iconst (pc := 67) (v := nI 0) dX4_writesSquared_67 (by decide) ?_
      refine g_istore (pc := 68) [(4, .int (nI 0)), (3, .int (nI e)), (0, .ref q), (1, .int (nI n)), (2, .ref p)] dX4_writesSquared_68 (by decide) rfl ?_
      refine GP.weq (w.set p (aL K g)) (by rw [set_same hp]) ?_
      exact GP.lsub _ (by simp) (ws_loop2 hq hp hpq hQ hK hn hn2 hnK he1 he (n + 1) 0 g (by omega) (fun t ht => absurd ht (by omega)) (fun _ _ => rfl))
    · exact absurd hz (by omega)
