/-! Circle: divideOut, divideAllOut, isOne, writeCore -/
/-- F' of degree T' is F divided c times by divisor n -/
def ofC (n : Nat) : Nat → (Nat → Int) → Nat → (Nat → Int) → Nat → Prop
  | 0, F, T, F', T' => F' = F ∧ T' = T
  | c + 1, F, T, F', T' => ∃ F1 T1, ofC n c F T F1 T1 ∧ dvB n F1 T1 F' ∧ T' = T1 - cyDg n
/-- F' of degree T' is left of F when divisors 0 .. k - 1 were divided out -/
def coC : Nat → (Nat → Int) → Nat → (Nat → Int) → Nat → Prop
  | 0, F, T, F', T' => F' = F ∧ T' = T
  | k + 1, F, T, F', T' => ∃ F1 T1 c, coC k F T F1 T1 ∧ ofC k c F1 T1 F' T' ∧ ∀ q, ¬ dvB k F' T' q
theorem ofC_deg {n : Nat} {F : Nat → Int} {T : Nat} : ∀ {c : Nat} {F' : Nat → Int} {T' : Nat}, ofC n c F T F' T' → T' + c * cyDg n = T
  | 0, F', T', h => by rw [h.2]; simp
  | c + 1, F', T', h => by
    obtain ⟨F1, T1, h1, h2, h3⟩ := h
    have ih := ofC_deg h1
    have h4 := h2.2.1
    rw [Nat.add_mul, Nat.one_mul]
    omega
theorem dvB_deg {n : Nat} {F q : Nat → Int} {T : Nat} (hn : n ≤ 42) (h : dvB n F T q) : 1 ≤ cyDg n ∧ cyDg n ≤ T := ⟨(cy_dg ⟨n, by omega⟩ h.1).1, h.2.1⟩
theorem coC_low {F0 F : Nat → Int} {T0 n : Nat} (h : coC n F0 T0 F 0) : ∀ z, n + z ≤ 43 → coC (n + z) F0 T0 F 0
  | 0, _ => h
  | z + 1, hz => ⟨F, 0, 0, coC_low h z (by omega), ⟨rfl, rfl⟩, fun q hq => by have := dvB_deg (show n + z ≤ 42 by omega) hq; omega⟩
abbrev BX0_divideOut (w0 : Wd) (Post : Option Value → Wd → Prop) (w : Wd) (pc : Nat) (ls : List (Nat × Value)) (st : List Value) : Prop := GP "divideOut" RX0 cX0_divideOut 3 (some .int) 3 117 none w0 Post w pc ls st
abbrev EX0_divideOut (As : List Value) (w : Wd) (Post : Option Value → Wd → Prop) : Prop := EP yX0_divideOut cX0_divideOut 3 (some .int) 3 As w Post
theorem do_loop {w0 w : Wd} {C T n : Nat} {F : Nat → Int} (hT : T ≤ 12) (hn : n ≤ 42) : ∀ (z c : Nat) (w1 : Wd) (F1 : Nat → Int) (T1 : Nat), 12 = c + z → ofC n c F T F1 T1 → cirM w1 C T1 F1 → FR (cirS C) w w1 → BX0_divideOut w0 (fun r w' => ∃ c F' T', r = some (.int (nI c)) ∧ ofC n c F T F' T' ∧ (∀ q, ¬ dvB n F' T' q) ∧ cirM w' C T' F' ∧ FR (cirS C) w w') w1 2 [(2, .int (nI c)), (0, .ref C), (1, .int (nI n))] [] := by
  intro z
  induction z with
  | zero =>
    intro c w1 F1 T1 hz ho hM hF
    refine g_iload_n (pc := 2) 0 dX0_divideOut_2 rfl rfl ?_
    refine g_bipush (pc := 3) (v := nI 12) dX0_divideOut_3 (by decide) ?_
    refine n_icmp_ge (pc := 5) 22 dX0_divideOut_5 (by decide) (by omega) (by omega) (fun hb => ?_) (fun hb => ?_)
    · refine g_iload_n (pc := 22) 0 dX0_divideOut_22 rfl rfl ?_
      exact g_iret (pc := 23) dX0_divideOut_23 ⟨c, F1, T1, rfl, ho, fun q hq => by have h1 := dvB_deg hn hq; have h2 := ofC_deg ho; rw [show c = 12 by omega] at h2; omega, hM, hF⟩
    · exact absurd hb (by omega)
  | succ z ih =>
    intro c w1 F1 T1 hz ho hM hF
    obtain ⟨-, -, mk, lf, ⟨hc, -⟩, -⟩ := id hM
    refine g_iload_n (pc := 2) 0 dX0_divideOut_2 rfl rfl ?_
    refine g_bipush (pc := 3) (v := nI 12) dX0_divideOut_3 (by decide) ?_
    refine n_icmp_ge (pc := 5) 22 dX0_divideOut_5 (by decide) (by omega) (by omega) (fun hb => ?_) (fun hb => ?_)
    · exact absurd hb (by omega)
    · refine g_aload_n (pc := 8) 1 dX0_divideOut_8 rfl rfl ?_
      refine g_iload_n (pc := 9) 2 dX0_divideOut_9 rfl rfl ?_
      refine g_callV (pc := 10) [.int (nI n)] dX0_divideOut_10 cv_X0_79.1 cv_X0_79.2.1 cv_X0_79.2.2.1 cv_X0_79.2.2.2 hc rfl rfl (Nat.le_of_ble_eq_true rfl) (by decide) (by decide) (sp_isDividedBy _ (n := n) hM hn) ?_
      rintro _ w9 (⟨rfl, q, hq, hM2, hF2⟩ | ⟨rfl, hno, hM2, hF2⟩)
      · skip
        refine n_if_eq (pc := 13) 22 dX0_divideOut_13 (by decide) (by omega) (fun h1 => ?_) (fun h1 => ?_)
        · exact absurd h1 (by decide)
        · refine n_iinc (pc := 16) (c := 1) [(2, .int (nI (c + 1))), (0, .ref C), (1, .int (nI n))] 0 dX0_divideOut_16 rfl (by decide) (by decide) rfl ?_
          refine g_goto (pc := 19) 2 dX0_divideOut_19 (by decide) ?_
          exact GP.lsub _ (by simp) (ih (c + 1) w9 q (T1 - cyDg n) (by omega) ⟨F1, T1, ho, hq, rfl⟩ hM2 (hF.tr hF2))
      · skip
        refine n_if_eq (pc := 13) 22 dX0_divideOut_13 (by decide) (by omega) (fun h1 => ?_) (fun h1 => ?_)
        · refine g_iload_n (pc := 22) 0 dX0_divideOut_22 rfl rfl ?_
          exact g_iret (pc := 23) dX0_divideOut_23 ⟨c, F1, T1, rfl, ho, hno, hM2, hF.tr hF2⟩
        · exact absurd rfl h1
theorem sp_divideOut (w : Wd) {C T n : Nat} {F : Nat → Int} (hM : cirM w C T F) (hn : n ≤ 42) : EX0_divideOut [.ref C, .int (nI n)] w (fun r w' => ∃ c F' T', r = some (.int (nI c)) ∧ ofC n c F T F' T' ∧ (∀ q, ¬ dvB n F' T' q) ∧ cirM w' C T' F' ∧ FR (cirS C) w w') := by
  refine EP.of (plainFor_of_name (by decide)) [(0, .ref C), (1, .int (nI n))] rfl (Nat.le_of_ble_eq_true rfl) (fun r wf h => by obtain ⟨c, F', T', rfl, -⟩ := h; trivial) ?_
  show BX0_divideOut w _ w 0 [(0, .ref C), (1, .int (nI n))] []
  refine g_iconst (pc := 0) (v := nI 0) dX0_divideOut_0 (by decide) ?_
  refine g_istore_n (pc := 1) [(2, .int (nI 0)), (0, .ref C), (1, .int (nI n))] dX0_divideOut_1 rfl (by decide) rfl ?_
  exact GP.lsub _ (by simp) (do_loop hM.1 hn 12 0 _ F T (by omega) ⟨rfl, rfl⟩ hM FR.rf)
abbrev BX0_divideAllOut (w0 : Wd) (Post : Option Value → Wd → Prop) (w : Wd) (pc : Nat) (ls : List (Nat × Value)) (st : List Value) : Prop := GP "divideAllOut" RX0 cX0_divideAllOut 4 none 3 117 none w0 Post w pc ls st
abbrev EX0_divideAllOut (As : List Value) (w : Wd) (Post : Option Value → Wd → Prop) : Prop := EP yX0_divideAllOut cX0_divideAllOut 4 none 3 As w Post
theorem da_loop {w0 w : Wd} {C T : Nat} {F : Nat → Int} (hT : T ≤ 12) : ∀ (z s n : Nat) (w1 : Wd) (F2 F1 : Nat → Int) (T2 T1 c : Nat), 55 = s + z → s + T1 ≤ n + T → n ≤ 43 → coC n F T F2 T2 → ofC n c F2 T2 F1 T1 → (n = 43 → c = 0) → cirM w1 C T1 F1 → FR (cirS C) w w1 → BX0_divideAllOut w0 (fun r w' => r = none ∧ ∃ F' T', coC 43 F T F' T' ∧ cirM w' C T' F' ∧ FR (cirS C) w w') w1 4 [(2, .int (nI s)), (1, .int (nI n)), (0, .ref C)] [] := by
  intro z
  induction z with
  | zero =>
    intro s n w1 F2 F1 T2 T1 c hz hs hn hc1 ho hc0 hM hF
    obtain ⟨hT1, -, mk, lf, ⟨hc, hD, -⟩, hlf, hmk⟩ := id hM
    obtain ⟨pf, mf, hp, hm, hall⟩ := hD
    have h0 : T1 = 0 ∨ n = 43 := by omega
    refine g_iload_n (pc := 4) 0 dX0_divideAllOut_4 rfl rfl ?_
    refine g_bipush (pc := 5) (v := nI 54) dX0_divideAllOut_5 (by decide) ?_
    refine n_icmp_gt (pc := 7) 82 dX0_divideAllOut_7 (by decide) (by omega) (by omega) (fun hb => ?_) (fun hb => ?_)
    · exact g_vret (pc := 82) dX0_divideAllOut_82 ⟨rfl, F1, T1, by
        rcases h0 with e | e
        · subst e
          by_cases hn3 : n = 43
          · have e0 := hc0 hn3
            subst e0
            obtain ⟨e1, e2⟩ := ho
            subst e1 e2 hn3
            exact hc1
          · have h9 : coC (n + 1) F T F1 0 := ⟨F2, T2, c, hc1, ho, fun q hq => by have := dvB_deg (by omega) hq; omega⟩
            have h8 := coC_low h9 (43 - (n + 1)) (by omega)
            rw [show n + 1 + (43 - (n + 1)) = 43 by omega] at h8
            exact h8
        · have e0 := hc0 e
          subst e0 e
          obtain ⟨e1, e2⟩ := ho
          subst e1 e2
          exact hc1, hM, hF⟩
    · exact absurd hb (by omega)
  | succ z ih =>
    intro s n w1 F2 F1 T2 T1 c hz hs hn hc1 ho hc0 hM hF
    obtain ⟨hT1, -, mk, lf, ⟨hc, hD, -⟩, hlf, hmk⟩ := id hM
    obtain ⟨pf, mf, hp, hm, hall⟩ := hD
    refine g_iload_n (pc := 4) 0 dX0_divideAllOut_4 rfl rfl ?_
    refine g_bipush (pc := 5) (v := nI 54) dX0_divideAllOut_5 (by decide) ?_
    refine n_icmp_gt (pc := 7) 82 dX0_divideAllOut_7 (by decide) (by omega) (by omega) (fun hb => ?_) (fun hb => ?_)
    · exact absurd hb (by omega)
    · refine g_iload_n (pc := 10) 1 dX0_divideAllOut_10 rfl rfl ?_
      refine g_bipush (pc := 11) (v := nI 42) dX0_divideAllOut_11 (by decide) ?_
      refine n_icmp_gt (pc := 13) 82 dX0_divideAllOut_13 (by decide) (by omega) (by omega) (fun hb2 => ?_) (fun hb2 => ?_)
      · have e : n = 43 := by omega
        have e0 := hc0 e
        subst e0 e
        obtain ⟨e1, e2⟩ := ho
        subst e1 e2
        exact g_vret (pc := 82) dX0_divideAllOut_82 ⟨rfl, _, _, hc1, hM, hF⟩
      · refine g_aload_n (pc := 16) 2 dX0_divideAllOut_16 rfl rfl ?_
        refine g_get (pc := 17) dX0_divideAllOut_17 fk_X0_30 hc rfl ?_
        refine n_if_le (pc := 20) 82 dX0_divideAllOut_20 (by decide) (by omega) (fun hb3 => ?_) (fun hb3 => ?_)
        · subst hb3
          have h9 : coC (n + 1) F T F1 0 := ⟨F2, T2, c, hc1, ho, fun q hq => by have := dvB_deg (by omega) hq; omega⟩
          have h8 := coC_low h9 (43 - (n + 1)) (by omega)
          rw [show n + 1 + (43 - (n + 1)) = 43 by omega] at h8
          exact g_vret (pc := 82) dX0_divideAllOut_82 ⟨rfl, F1, 0, h8, hM, hF⟩
        · refine g_aload_n (pc := 23) 2 dX0_divideAllOut_23 rfl rfl ?_
          refine g_get (pc := 24) dX0_divideAllOut_24 fk_X0_17 hc rfl ?_
          refine g_iload_n (pc := 27) 1 dX0_divideAllOut_27 rfl rfl ?_
          refine g_lald (pc := 28) n dX0_divideAllOut_28 hm (IXn (by omega) (by omega)) ?_
          refine g_lconst (pc := 29) (v := 0) dX0_divideAllOut_29 (by decide) ?_
          refine g_lcmp_eq (pc := 30) 54 dX0_divideAllOut_30 dX0_divideAllOut_31 (by decide) (fun hz0 => ?_) (fun hz0 => ?_)
          · have hz1 : (mf n).toInt = 0 := by rw [hz0]; decide
            refine g_iconst (pc := 54) (v := nI 0) dX0_divideAllOut_54 (by decide) ?_
            refine g_istore_n (pc := 55) [(3, .int (nI 0)), (2, .int (nI s)), (1, .int (nI n)), (0, .ref C)] dX0_divideAllOut_55 rfl (by decide) rfl ?_
            refine g_iload_n (pc := 56) 2 dX0_divideAllOut_56 rfl rfl ?_
            refine g_iload_n (pc := 57) 0 dX0_divideAllOut_57 rfl rfl ?_
            refine n_if_eq (pc := 58) 73 dX0_divideAllOut_58 (by decide) (by omega) (fun hy => ?_) (fun hy => ?_)
            · refine g_iconst (pc := 73) (v := nI 1) dX0_divideAllOut_73 (by decide) ?_
              refine n_iadd (pc := 74) dX0_divideAllOut_74 ?_
              refine g_istore_n (pc := 75) [(1, .int (nI (n + 1))), (3, .int (nI 0)), (2, .int (nI s)), (0, .ref C)] dX0_divideAllOut_75 rfl (by decide) rfl ?_
              refine n_iinc (pc := 76) (c := 1) [(2, .int (nI (s + 1))), (1, .int (nI (n + 1))), (3, .int (nI 0)), (0, .ref C)] 2 dX0_divideAllOut_76 rfl (by decide) (by decide) rfl ?_
              refine g_goto (pc := 79) 4 dX0_divideAllOut_79 (by decide) ?_
              have hno : ∀ q, ¬ dvB n F1 T1 q := fun q hq => by have h1 := ((hall n (by omega)).2 hq.1); obtain ⟨v, b, f, -, -, -, -, -, -, h2⟩ := h1; have h3 := cy_pos ⟨n, by omega⟩ hq.1; simp only at h3; omega
              refine GP.lsub _ (by simp) (ih (s + 1) (n + 1) w1 F1 F1 T1 T1 0 (by omega) (by omega) (by omega) ⟨F2, T2, c, hc1, ho, hno⟩ ⟨rfl, rfl⟩ (fun _ => rfl) hM hF)
            · exact absurd rfl hy
          · obtain ⟨rm, hrm⟩ : ∃ z : Int64, mk - mk / mf n * mf n = z := ⟨_, rfl⟩
            have hdv : ∀ q, dvB n F1 T1 q → rm = 0 := fun q hq => by
              obtain ⟨v, b, f, -, -, -, -, -, -, h2⟩ := (hall n (by omega)).2 hq.1
              have h3 := cy_pos ⟨n, by omega⟩ hq.1
              simp only at h3
              have hhv := hev_mul (x := 4) hq.2.2.2
              have hdg := hq.2.1
              rw [show T1 - cyDg n + cyDg n = T1 by omega, ← hmk, ← h2] at hhv
              rw [← h2] at h3
              have e1 : (mk / mf n).toInt = hev q 4 (T1 - cyDg n) (T1 - cyDg n + 1) := by
                rw [L_div (by omega), hhv, Int.mul_tdiv_cancel _ (by omega)]
              have hl := L_lo mk
              have hh := L_hi mk
              have e2 : (mk / mf n * mf n).toInt = mk.toInt := by
                rw [L_mul (by rw [e1, ← hhv]; exact hl) (by rw [e1, ← hhv]; exact hh), e1, hhv]
              apply L0.mp
              rw [← hrm, L_sub (by rw [e2]; omega) (by rw [e2]; omega), e2]
              omega
            refine g_aload_n (pc := 34) 2 dX0_divideAllOut_34 rfl rfl ?_
            refine g_get (pc := 35) dX0_divideAllOut_35 fk_X0_34 hc rfl ?_
            refine g_aload_n (pc := 38) 2 dX0_divideAllOut_38 rfl rfl ?_
            refine g_get (pc := 39) dX0_divideAllOut_39 fk_X0_17 hc rfl ?_
            refine g_iload_n (pc := 42) 1 dX0_divideAllOut_42 rfl rfl ?_
            refine g_lald (pc := 43) n dX0_divideAllOut_43 hm (IXn (by omega) (by omega)) ?_
            refine g_lrem (pc := 44) dX0_divideAllOut_44 hz0 ?_
            refine GP.tl rm hrm ?_
            refine g_lconst (pc := 45) (v := 0) dX0_divideAllOut_45 (by decide) ?_
            refine g_lcmp_ne (pc := 46) 54 dX0_divideAllOut_46 dX0_divideAllOut_47 (by decide) (fun hr => ?_) (fun hr => ?_)
            · refine g_iconst (pc := 54) (v := nI 0) dX0_divideAllOut_54 (by decide) ?_
              refine g_istore_n (pc := 55) [(3, .int (nI 0)), (2, .int (nI s)), (1, .int (nI n)), (0, .ref C)] dX0_divideAllOut_55 rfl (by decide) rfl ?_
              refine g_iload_n (pc := 56) 2 dX0_divideAllOut_56 rfl rfl ?_
              refine g_iload_n (pc := 57) 0 dX0_divideAllOut_57 rfl rfl ?_
              refine n_if_eq (pc := 58) 73 dX0_divideAllOut_58 (by decide) (by omega) (fun hy => ?_) (fun hy => ?_)
              · refine g_iconst (pc := 73) (v := nI 1) dX0_divideAllOut_73 (by decide) ?_
                refine n_iadd (pc := 74) dX0_divideAllOut_74 ?_
                refine g_istore_n (pc := 75) [(1, .int (nI (n + 1))), (3, .int (nI 0)), (2, .int (nI s)), (0, .ref C)] dX0_divideAllOut_75 rfl (by decide) rfl ?_
                refine n_iinc (pc := 76) (c := 1) [(2, .int (nI (s + 1))), (1, .int (nI (n + 1))), (3, .int (nI 0)), (0, .ref C)] 2 dX0_divideAllOut_76 rfl (by decide) (by decide) rfl ?_
                refine g_goto (pc := 79) 4 dX0_divideAllOut_79 (by decide) ?_
                have hno : ∀ q, ¬ dvB n F1 T1 q := fun q hq => hr (hdv q hq)
                refine GP.lsub _ (by simp) (ih (s + 1) (n + 1) w1 F1 F1 T1 T1 0 (by omega) (by omega) (by omega) ⟨F2, T2, c, hc1, ho, hno⟩ ⟨rfl, rfl⟩ (fun _ => rfl) hM hF)
              · exact absurd rfl hy
            · refine g_iconst (pc := 50) (v := nI 1) dX0_divideAllOut_50 (by decide) ?_
              refine g_goto (pc := 51) 55 dX0_divideAllOut_51 (by decide) ?_
              refine g_istore_n (pc := 55) [(3, .int (nI 1)), (2, .int (nI s)), (1, .int (nI n)), (0, .ref C)] dX0_divideAllOut_55 rfl (by decide) rfl ?_
              refine g_iload_n (pc := 56) 2 dX0_divideAllOut_56 rfl rfl ?_
              refine g_iload_n (pc := 57) 0 dX0_divideAllOut_57 rfl rfl ?_
              refine n_if_eq (pc := 58) 73 dX0_divideAllOut_58 (by decide) (by omega) (fun hy => ?_) (fun hy => ?_)
              · exact absurd hy (by decide)
              · refine g_aload_n (pc := 61) 3 dX0_divideAllOut_61 rfl rfl ?_
                refine g_iload_n (pc := 62) 2 dX0_divideAllOut_62 rfl rfl ?_
                refine g_callV (pc := 63) [.int (nI n)] dX0_divideAllOut_63 cv_X0_79.1 cv_X0_79.2.1 cv_X0_79.2.2.1 cv_X0_79.2.2.2 hc rfl rfl (Nat.le_of_ble_eq_true rfl) (by decide) (by decide) (sp_isDividedBy _ (n := n) hM (by omega)) ?_
                rintro _ w9 (⟨rfl, q, hq, hM2, hF2⟩ | ⟨rfl, hno, hM2, hF2⟩)
                · skip
                  refine n_if_eq (pc := 66) 73 dX0_divideAllOut_66 (by decide) (by omega) (fun h1 => ?_) (fun h1 => ?_)
                  · exact absurd h1 (by decide)
                  · refine g_iconst (pc := 69) (v := nI 0) dX0_divideAllOut_69 (by decide) ?_
                    refine g_goto (pc := 70) 74 dX0_divideAllOut_70 (by decide) ?_
                    refine n_iadd (pc := 74) dX0_divideAllOut_74 ?_
                    refine g_istore_n (pc := 75) [(1, .int (nI (n + 0))), (3, .int (nI 1)), (2, .int (nI s)), (0, .ref C)] dX0_divideAllOut_75 rfl (by decide) rfl ?_
                    refine n_iinc (pc := 76) (c := 1) [(2, .int (nI (s + 1))), (1, .int (nI (n + 0))), (3, .int (nI 1)), (0, .ref C)] 2 dX0_divideAllOut_76 rfl (by decide) (by decide) rfl ?_
                    refine g_goto (pc := 79) 4 dX0_divideAllOut_79 (by decide) ?_
                    have hdd := dvB_deg (by omega) hq
                    exact GP.lsub _ (by simp) (ih (s + 1) n w9 F2 q T2 (T1 - cyDg n) (c + 1) (by omega) (by omega) (by omega) hc1 ⟨F1, T1, ho, hq, rfl⟩ (fun h9 => absurd h9 (by omega)) hM2 (hF.tr hF2))
                · skip
                  refine n_if_eq (pc := 66) 73 dX0_divideAllOut_66 (by decide) (by omega) (fun h1 => ?_) (fun h1 => ?_)
                  · refine g_iconst (pc := 73) (v := nI 1) dX0_divideAllOut_73 (by decide) ?_
                    refine n_iadd (pc := 74) dX0_divideAllOut_74 ?_
                    refine g_istore_n (pc := 75) [(1, .int (nI (n + 1))), (3, .int (nI 1)), (2, .int (nI s)), (0, .ref C)] dX0_divideAllOut_75 rfl (by decide) rfl ?_
                    refine n_iinc (pc := 76) (c := 1) [(2, .int (nI (s + 1))), (1, .int (nI (n + 1))), (3, .int (nI 1)), (0, .ref C)] 2 dX0_divideAllOut_76 rfl (by decide) (by decide) rfl ?_
                    refine g_goto (pc := 79) 4 dX0_divideAllOut_79 (by decide) ?_
                    exact GP.lsub _ (by simp) (ih (s + 1) (n + 1) w9 F1 F1 T1 T1 0 (by omega) (by omega) (by omega) ⟨F2, T2, c, hc1, ho, hno⟩ ⟨rfl, rfl⟩ (fun _ => rfl) hM2 (hF.tr hF2))
                  · exact absurd rfl h1
theorem sp_divideAllOut (w : Wd) {C T : Nat} {F : Nat → Int} (hM : cirM w C T F) : EX0_divideAllOut [.ref C] w (fun r w' => r = none ∧ ∃ F' T', coC 43 F T F' T' ∧ cirM w' C T' F' ∧ FR (cirS C) w w') := by
  refine EP.of (plainFor_of_name (by decide)) [(0, .ref C)] rfl (Nat.le_of_ble_eq_true rfl) (fun r wf h => by obtain ⟨rfl, -⟩ := h; trivial) ?_
  show BX0_divideAllOut w _ w 0 [(0, .ref C)] []
  refine g_iconst (pc := 0) (v := nI 0) dX0_divideAllOut_0 (by decide) ?_
  refine g_istore_n (pc := 1) [(1, .int (nI 0)), (0, .ref C)] dX0_divideAllOut_1 rfl (by decide) rfl ?_
  refine g_iconst (pc := 2) (v := nI 0) dX0_divideAllOut_2 (by decide) ?_
  refine g_istore_n (pc := 3) [(2, .int (nI 0)), (1, .int (nI 0)), (0, .ref C)] dX0_divideAllOut_3 rfl (by decide) rfl ?_
  exact GP.lsub _ (by simp) (da_loop hM.1 55 0 0 _ F F T T 0 (by omega) (by omega) (by omega) ⟨rfl, rfl⟩ ⟨rfl, rfl⟩ (fun h9 => absurd h9 (by decide)) hM FR.rf)
abbrev BX0_isOne (w0 : Wd) (Post : Option Value → Wd → Prop) (w : Wd) (pc : Nat) (ls : List (Nat × Value)) (st : List Value) : Prop := GP "isOne" RX0 cX0_isOne 1 (some .boolean) 4 156 none w0 Post w pc ls st
abbrev EX0_isOne (As : List Value) (w : Wd) (Post : Option Value → Wd → Prop) : Prop := EP yX0_isOne cX0_isOne 1 (some .boolean) 4 As w Post
theorem sp_isOne (w : Wd) {C T : Nat} {F : Nat → Int} (hM : cirM w C T F) : EX0_isOne [.ref C] w (fun r w' => (r = some (.int (nI 1)) ∧ (F T = 1 ∨ F T = -1) ∧ (∃ F', coC 43 F T F' 0) ∧ cirA w' C ∧ FR (cirS C) w w') ∨ (r = some (.int (nI 0)) ∧ ((F T ≠ 1 ∧ F T ≠ -1) ∨ ∃ F' T', coC 43 F T F' T' ∧ T' ≠ 0) ∧ cirA w' C ∧ FR (cirS C) w w')) := by
  refine EP.of (plainFor_of_name (by decide)) [(0, .ref C)] rfl (Nat.le_of_ble_eq_true rfl) (fun r wf h => by rcases h with ⟨rfl, -⟩ | ⟨rfl, -⟩; exact Or.inr rfl; exact Or.inl rfl) ?_
  show BX0_isOne w _ w 0 [(0, .ref C)] []
  obtain ⟨hT, hbd, mk, lf, ⟨hc, hD, h3, -⟩, hlf, hmk⟩ := id hM
  have hlT := hlf T (Nat.le_refl _)
  have hbT := hbd T (Nat.le_refl _)
  have z0 : (0 : Int64).toInt = 0 := by decide
  have z1 : (1 : Int64).toInt = 1 := by decide
  refine g_aload_n (pc := 0) 0 dX0_isOne_0 rfl rfl ?_
  refine g_get (pc := 1) dX0_isOne_1 fk_X0_21 hc rfl ?_
  refine g_aload_n (pc := 4) 0 dX0_isOne_4 rfl rfl ?_
  refine g_get (pc := 5) dX0_isOne_5 fk_X0_30 hc rfl ?_
  refine g_lald (pc := 8) T dX0_isOne_8 h3 (IXn (by omega) (by omega)) ?_
  refine g_callS (pc := 9) [.long (lf T)] dX0_isOne_9 cs_X0_72.1 cs_X0_72.2 rfl rfl (Nat.le_of_ble_eq_true rfl) (by decide) (by decide) (sp_absL _ (lf T)) ?_
  rintro _ w9 ⟨rfl, e9⟩
  refine GP.weq _ e9 ?_
  obtain ⟨x, hx⟩ : ∃ x : Int64, (if 0 ≤ lf T then lf T else -lf T) = x := ⟨_, rfl⟩
  have hx2 : x = 1 ↔ (F T = 1 ∨ F T = -1) := by
    have h9 : x.toInt = 1 ↔ (F T = 1 ∨ F T = -1) := by
      rw [← hx]
      by_cases hcc : 0 ≤ lf T
      · rw [if_pos hcc]
        rw [Int64.le_iff_toInt_le, z0] at hcc
        omega
      · rw [if_neg hcc]
        rw [Int64.le_iff_toInt_le, z0] at hcc
        rw [L_neg (by omega)]
        omega
    rw [← h9]
    exact ⟨fun e => by rw [e]; decide, fun e => Int64.toInt_inj.mp (e.trans z1.symm)⟩
  refine GP.tl x hx ?_
  refine g_lconst (pc := 12) (v := 1) dX0_isOne_12 (by decide) ?_
  refine g_lcmp_eq (pc := 13) 19 dX0_isOne_13 dX0_isOne_14 (by decide) (fun h1 => ?_) (fun h1 => ?_)
  · refine g_aload_n (pc := 19) 0 dX0_isOne_19 rfl rfl ?_
    refine g_callV (pc := 20) [] dX0_isOne_20 cv_X0_76.1 cv_X0_76.2.1 cv_X0_76.2.2.1 cv_X0_76.2.2.2 hc rfl rfl (Nat.le_of_ble_eq_true rfl) (by decide) (by decide) (sp_divideAllOut _ hM) ?_
    rintro _ w9 ⟨rfl, F', T', hco, hM2, hF2⟩
    obtain ⟨-, -, mk2, lf2, ⟨hc2, -⟩, -⟩ := id hM2
    have hT2 := hM2.1
    refine g_aload_n (pc := 23) 0 dX0_isOne_23 rfl rfl ?_
    refine g_get (pc := 24) dX0_isOne_24 fk_X0_30 hc2 rfl ?_
    refine n_if_ne (pc := 27) 34 dX0_isOne_27 (by decide) (by omega) (fun h2 => ?_) (fun h2 => ?_)
    · refine g_iconst (pc := 34) (v := nI 0) dX0_isOne_34 (by decide) ?_
      exact g_iret (pc := 35) dX0_isOne_35 (Or.inr ⟨rfl, Or.inr ⟨F', T', hco, h2⟩, hM2.a, hF2⟩)
    · refine g_iconst (pc := 30) (v := nI 1) dX0_isOne_30 (by decide) ?_
      refine g_goto (pc := 31) 35 dX0_isOne_31 (by decide) ?_
      exact g_iret (pc := 35) dX0_isOne_35 (Or.inl ⟨rfl, hx2.mp h1, ⟨F', by rw [← show T' = 0 by omega]; exact hco⟩, hM2.a, hF2⟩)
  · refine g_iconst (pc := 17) (v := nI 0) dX0_isOne_17 (by decide) ?_
    exact g_iret (pc := 18) dX0_isOne_18 (Or.inr ⟨rfl, Or.inl (by have h9 := fun g => h1 (hx2.mpr g); exact ⟨fun g => h9 (Or.inl g), fun g => h9 (Or.inr g)⟩), hM.a, FR.rf⟩)
abbrev BX0_writeCore (w0 : Wd) (Post : Option Value → Wd → Prop) (w : Wd) (pc : Nat) (ls : List (Nat × Value)) (st : List Value) : Prop := GP "writeCore" RX0 cX0_writeCore 4 none 1 39 none w0 Post w pc ls st
abbrev EX0_writeCore (As : List Value) (w : Wd) (Post : Option Value → Wd → Prop) : Prop := EP yX0_writeCore cX0_writeCore 4 none 1 As w Post
theorem wc_loop {w0 w : Wd} {C T q K : Nat} {mk : Int64} {lf g : Nat → Int64} {F : Nat → Int} (hT : T ≤ 12) (hc : w[C]? = some (oC (C + 1) (C + 2) (C + 3) (C + 4) (C + 5) T mk)) (h3 : w[C + 3]? = some (aL 13 lf)) (hlf : ∀ j, j ≤ T → (lf j).toInt = F j) (hbd : ∀ j, j ≤ T → -1000000000 ≤ F j ∧ F j ≤ 1000000000) (hq : w[q]? = some (aL K g)) (n1 : C ≠ q) (n2 : C + 3 ≠ q) (hK : 12 < K) (hK2 : K < 1000) {mi : Nat} (hmi : (mi = 1 ∧ F T < 0) ∨ (mi = 0 ∧ ¬ F T < 0)) : ∀ (z i : Nat) (cur : Nat → Int64), T + 1 = i + z → (∀ j, j < K → (cur j).toInt = if j < i then (if F T < 0 then -F j else F j) else 0) → BX0_writeCore w0 (fun r w' => r = none ∧ ∃ g' : Nat → Int64, (∀ j, j < K → (g' j).toInt = if j ≤ T then (if F T < 0 then -F j else F j) else 0) ∧ w' = w.set q (aL K g')) (w.set q (aL K cur)) 27 [(3, .int (nI i)), (2, .int (nI mi)), (0, .ref C), (1, .ref q)] [] := by
  intro z
  induction z with
  | zero =>
    intro i cur hz hcur
    refine g_iload_n (pc := 27) 0 dX0_writeCore_27 rfl rfl ?_
    refine g_aload_n (pc := 28) 2 dX0_writeCore_28 rfl rfl ?_
    refine g_get (pc := 29) dX0_writeCore_29 fk_X0_30 (lk_ne (Ne.symm n1) hc) rfl ?_
    refine n_icmp_gt (pc := 32) 70 dX0_writeCore_32 (by decide) (by omega) (by omega) (fun hb => ?_) (fun hb => ?_)
    · exact g_vret (pc := 70) dX0_writeCore_70 ⟨rfl, cur, fun j hj => by rw [hcur j hj]; by_cases h9 : j ≤ T; · { rw [if_pos h9, if_pos (by omega)] }; · { rw [if_neg h9, if_neg (by omega)] }, rfl⟩
    · exact absurd hb (by omega)
  | succ z ih =>
    intro i cur hz hcur
    have hli := hlf i (by omega)
    have hbi := hbd i (by omega)
    refine g_iload_n (pc := 27) 0 dX0_writeCore_27 rfl rfl ?_
    refine g_aload_n (pc := 28) 2 dX0_writeCore_28 rfl rfl ?_
    refine g_get (pc := 29) dX0_writeCore_29 fk_X0_30 (lk_ne (Ne.symm n1) hc) rfl ?_
    refine n_icmp_gt (pc := 32) 70 dX0_writeCore_32 (by decide) (by omega) (by omega) (fun hb => ?_) (fun hb => ?_)
    · exact absurd hb (by omega)
    · refine g_iload_n (pc := 35) 0 dX0_writeCore_35 rfl rfl ?_
      refine g_aload_n (pc := 36) 3 dX0_writeCore_36 rfl rfl ?_
      refine g_alen (pc := 37) dX0_writeCore_37 (lk_eq hq) (by decide) ?_
      refine n_icmp_ge (pc := 38) 70 dX0_writeCore_38 (by decide) (by omega) (by omega) (fun hb2 => ?_) (fun hb2 => ?_)
      · exact absurd hb2 (by omega)
      · refine g_aload_n (pc := 41) 3 dX0_writeCore_41 rfl rfl ?_
        refine g_iload_n (pc := 42) 0 dX0_writeCore_42 rfl rfl ?_
        refine g_iload_n (pc := 43) 1 dX0_writeCore_43 rfl rfl ?_
        refine n_if_eq (pc := 44) 57 dX0_writeCore_44 (by decide) (by omega) (fun hb3 => ?_) (fun hb3 => ?_)
        · refine g_aload_n (pc := 57) 2 dX0_writeCore_57 rfl rfl ?_
          refine g_get (pc := 58) dX0_writeCore_58 fk_X0_21 (lk_ne (Ne.symm n1) hc) rfl ?_
          refine g_iload_n (pc := 61) 0 dX0_writeCore_61 rfl rfl ?_
          refine g_lald (pc := 62) i dX0_writeCore_62 (lk_ne (Ne.symm n2) h3) (IXn (by omega) (by omega)) ?_
          refine g_last (pc := 63) i dX0_writeCore_63 (lk_eq hq) (IXn (by omega) (by omega)) ?_
          refine GP.weq (w.set q (aL K (vp_updL cur i (lf i)))) (by rw [List.set_set]) ?_
          refine n_iinc (pc := 64) (c := 1) [(3, .int (nI (i + 1))), (2, .int (nI mi)), (0, .ref C), (1, .ref q)] 0 dX0_writeCore_64 rfl (by decide) (by decide) rfl ?_
          refine g_goto (pc := 67) 27 dX0_writeCore_67 (by decide) ?_
          refine GP.lsub _ (by simp) (ih (i + 1) _ (by omega) (fun j hj => ?_))
          by_cases e : j = i
          · subst e
            rw [upL_s, if_pos (by omega)]
            rw [if_neg (by omega)]; exact hli
          · rw [upL_n e, hcur j hj]
            by_cases h9 : j < i
            · rw [if_pos h9, if_pos (show j < i + 1 by omega)]
            · rw [if_neg h9, if_neg (show ¬ j < i + 1 by omega)]
        · refine g_aload_n (pc := 47) 2 dX0_writeCore_47 rfl rfl ?_
          refine g_get (pc := 48) dX0_writeCore_48 fk_X0_21 (lk_ne (Ne.symm n1) hc) rfl ?_
          refine g_iload_n (pc := 51) 0 dX0_writeCore_51 rfl rfl ?_
          refine g_lald (pc := 52) i dX0_writeCore_52 (lk_ne (Ne.symm n2) h3) (IXn (by omega) (by omega)) ?_
          refine g_lneg (pc := 53) dX0_writeCore_53 ?_
          refine g_goto (pc := 54) 63 dX0_writeCore_54 (by decide) ?_
          refine g_last (pc := 63) i dX0_writeCore_63 (lk_eq hq) (IXn (by omega) (by omega)) ?_
          refine GP.weq (w.set q (aL K (vp_updL cur i (-(lf i))))) (by rw [List.set_set]) ?_
          refine n_iinc (pc := 64) (c := 1) [(3, .int (nI (i + 1))), (2, .int (nI mi)), (0, .ref C), (1, .ref q)] 0 dX0_writeCore_64 rfl (by decide) (by decide) rfl ?_
          refine g_goto (pc := 67) 27 dX0_writeCore_67 (by decide) ?_
          refine GP.lsub _ (by simp) (ih (i + 1) _ (by omega) (fun j hj => ?_))
          by_cases e : j = i
          · subst e
            rw [upL_s, if_pos (by omega)]
            rw [if_pos (by omega), L_neg (by omega), hli]
          · rw [upL_n e, hcur j hj]
            by_cases h9 : j < i
            · rw [if_pos h9, if_pos (show j < i + 1 by omega)]
            · rw [if_neg h9, if_neg (show ¬ j < i + 1 by omega)]
theorem sp_writeCore (w : Wd) {C T q K : Nat} {mk : Int64} {lf g : Nat → Int64} {F : Nat → Int} (hT : T ≤ 12) (hc : w[C]? = some (oC (C + 1) (C + 2) (C + 3) (C + 4) (C + 5) T mk)) (h3 : w[C + 3]? = some (aL 13 lf)) (hlf : ∀ j, j ≤ T → (lf j).toInt = F j) (hbd : ∀ j, j ≤ T → -1000000000 ≤ F j ∧ F j ≤ 1000000000) (hq : w[q]? = some (aL K g)) (n1 : C ≠ q) (n2 : C + 3 ≠ q) (hK : 12 < K) (hK2 : K < 1000) : EX0_writeCore [.ref C, .ref q] w (fun r w' => r = none ∧ ∃ g' : Nat → Int64, (∀ j, j < K → (g' j).toInt = if j ≤ T then (if F T < 0 then -F j else F j) else 0) ∧ w' = w.set q (aL K g')) := by
  refine EP.of (plainFor_of_name (by decide)) [(0, .ref C), (1, .ref q)] rfl (Nat.le_of_ble_eq_true rfl) (fun r wf h => by obtain ⟨rfl, -⟩ := h; trivial) ?_
  show BX0_writeCore w _ w 0 [(0, .ref C), (1, .ref q)] []
  have hlT := hlf T (Nat.le_refl _)
  have z0 : (0 : Int64).toInt = 0 := by decide
  refine g_aload_n (pc := 0) 1 dX0_writeCore_0 rfl rfl ?_
  refine g_lconst (pc := 1) (v := 0) dX0_writeCore_1 (by decide) ?_
  refine g_callS (pc := 2) [.ref q, .long 0] dX0_writeCore_2 cs_X0_83.1 cs_X0_83.2 rfl rfl (Nat.le_of_ble_eq_true rfl) (by decide) (by decide) (sp_fill1 _ q K g 0 hq (by omega)) ?_
  rintro _ w9 ⟨rfl, e9⟩
  refine GP.weq _ e9 ?_
  refine g_aload_n (pc := 5) 0 dX0_writeCore_5 rfl rfl ?_
  refine g_get (pc := 6) dX0_writeCore_6 fk_X0_21 (lk_ne (Ne.symm n1) hc) rfl ?_
  refine g_aload_n (pc := 9) 0 dX0_writeCore_9 rfl rfl ?_
  refine g_get (pc := 10) dX0_writeCore_10 fk_X0_30 (lk_ne (Ne.symm n1) hc) rfl ?_
  refine g_lald (pc := 13) T dX0_writeCore_13 (lk_ne (Ne.symm n2) h3) (IXn (by omega) (by omega)) ?_
  refine g_lconst (pc := 14) (v := 0) dX0_writeCore_14 (by decide) ?_
  refine g_lcmp_ge (pc := 15) 23 dX0_writeCore_15 dX0_writeCore_16 (by decide) (fun h1 => ?_) (fun h1 => ?_)
  · rw [Int64.le_iff_toInt_le, z0, hlT] at h1
    refine g_iconst (pc := 23) (v := nI 0) dX0_writeCore_23 (by decide) ?_
    refine g_istore_n (pc := 24) [(2, .int (nI 0)), (0, .ref C), (1, .ref q)] dX0_writeCore_24 rfl (by decide) rfl ?_
    refine g_iconst (pc := 25) (v := nI 0) dX0_writeCore_25 (by decide) ?_
    refine g_istore_n (pc := 26) [(3, .int (nI 0)), (2, .int (nI 0)), (0, .ref C), (1, .ref q)] dX0_writeCore_26 rfl (by decide) rfl ?_
    exact GP.lsub _ (by simp) (wc_loop hT hc h3 hlf hbd hq n1 n2 hK hK2 (mi := 0) (Or.inr ⟨rfl, by omega⟩) (T + 1) 0 _ (by omega) (fun j hj => by rw [if_neg (by omega)]; simp only [fillF]; rw [if_pos (by omega)]; decide))
  · rw [Int64.le_iff_toInt_le, z0, hlT] at h1
    refine g_iconst (pc := 19) (v := nI 1) dX0_writeCore_19 (by decide) ?_
    refine g_goto (pc := 20) 24 dX0_writeCore_20 (by decide) ?_
    refine g_istore_n (pc := 24) [(2, .int (nI 1)), (0, .ref C), (1, .ref q)] dX0_writeCore_24 rfl (by decide) rfl ?_
    refine g_iconst (pc := 25) (v := nI 0) dX0_writeCore_25 (by decide) ?_
    refine g_istore_n (pc := 26) [(3, .int (nI 0)), (2, .int (nI 1)), (0, .ref C), (1, .ref q)] dX0_writeCore_26 rfl (by decide) rfl ?_
    exact GP.lsub _ (by simp) (wc_loop hT hc h3 hlf hbd hq n1 n2 hK hK2 (mi := 1) (Or.inl ⟨rfl, by omega⟩) (T + 1) 0 _ (by omega) (fun j hj => by rw [if_neg (by omega)]; simp only [fillF]; rw [if_pos (by omega)]; decide))
