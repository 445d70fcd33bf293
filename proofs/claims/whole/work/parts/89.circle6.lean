/-! Circle: moebius -/
def mbG (n : Nat) : Nat → Nat → Nat → Int → Int
  | 0, _, _, s => s
  | f + 1, p, l, s => if n < p ∨ l ≤ 1 then s else if l % p = 0 then mbG n f (p + 1) (l / p) (if l / p % p = 0 then 0 else -s) else mbG n f (p + 1) l s
abbrev BX0_moebius (w0 : Wd) (Post : Option Value → Wd → Prop) (w : Wd) (pc : Nat) (ls : List (Nat × Value)) (st : List Value) : Prop := GP "moebius" RX0 cX0_moebius 4 (some .int) 0 0 none w0 Post w pc ls st
abbrev EX0_moebius (As : List Value) (w : Wd) (Post : Option Value → Wd → Prop) : Prop := EP yX0_moebius cX0_moebius 4 (some .int) 0 As w Post
theorem mb_loop {w0 w : Wd} {n : Nat} {V : Int} (hn : n ≤ 100) : ∀ (z p l : Nat) (s : Int32), n + 2 = p + z → 2 ≤ p → l ≤ n → -1 ≤ s.toInt → s.toInt ≤ 1 → mbG n z p l s.toInt = V → BX0_moebius w0 (fun r w' => ∃ v : Int32, r = some (.int v) ∧ v.toInt = V ∧ -1 ≤ v.toInt ∧ v.toInt ≤ 1 ∧ w' = w) w 6 [(3, .int (nI p)), (2, .int (nI l)), (1, .int s), (0, .int (nI n))] [] := by
  intro z
  induction z with
  | zero =>
    intro p l s hz hp hl h1 h2 hV
    refine g_iload_n (pc := 6) 0 dX0_moebius_6 rfl rfl ?_
    refine g_iload_n (pc := 7) 3 dX0_moebius_7 rfl rfl ?_
    refine n_icmp_gt (pc := 8) 45 dX0_moebius_8 (by decide) (by omega) (by omega) (fun hb => ?_) (fun hb => ?_)
    · refine g_iload_n (pc := 45) 2 dX0_moebius_45 rfl rfl ?_
      exact g_iret (pc := 46) dX0_moebius_46 ⟨s, rfl, hV, h1, h2, rfl⟩
    · exact absurd hb (by omega)
  | succ z ih =>
    intro p l s hz hp hl h1 h2 hV
    have hV2 : (if n < p ∨ l ≤ 1 then s.toInt else if l % p = 0 then mbG n z (p + 1) (l / p) (if l / p % p = 0 then 0 else -s.toInt) else mbG n z (p + 1) l s.toInt) = V := hV
    have hdl : l / p ≤ l := Nat.div_le_self l p
    have hm1 : l % p < p := Nat.mod_lt _ (by omega)
    have hm3 : l / p % p < p := Nat.mod_lt _ (by omega)
    refine g_iload_n (pc := 6) 0 dX0_moebius_6 rfl rfl ?_
    refine g_iload_n (pc := 7) 3 dX0_moebius_7 rfl rfl ?_
    refine n_icmp_gt (pc := 8) 45 dX0_moebius_8 (by decide) (by omega) (by omega) (fun hb => ?_) (fun hb => ?_)
    · refine g_iload_n (pc := 45) 2 dX0_moebius_45 rfl rfl ?_
      exact g_iret (pc := 46) dX0_moebius_46 ⟨s, rfl, by rw [← hV2, if_pos (Or.inl hb)], h1, h2, rfl⟩
    · refine g_iload_n (pc := 11) 1 dX0_moebius_11 rfl rfl ?_
      refine g_iconst (pc := 12) (v := nI 1) dX0_moebius_12 (by decide) ?_
      refine n_icmp_le (pc := 13) 45 dX0_moebius_13 (by decide) (by omega) (by omega) (fun hb2 => ?_) (fun hb2 => ?_)
      · refine g_iload_n (pc := 45) 2 dX0_moebius_45 rfl rfl ?_
        exact g_iret (pc := 46) dX0_moebius_46 ⟨s, rfl, by rw [← hV2, if_pos (Or.inr hb2)], h1, h2, rfl⟩
      · rw [if_neg (by omega)] at hV2
        refine g_iload_n (pc := 16) 1 dX0_moebius_16 rfl rfl ?_
        refine g_iload_n (pc := 17) 0 dX0_moebius_17 rfl rfl ?_
        refine n_irem (pc := 18) dX0_moebius_18 (by omega) (by omega) (by omega) ?_
        refine n_if_ne (pc := 19) 39 dX0_moebius_19 (by decide) (by omega) (fun hm => ?_) (fun hm => ?_)
        · rw [if_neg hm] at hV2
          refine n_iinc (pc := 39) (c := 1) [(3, .int (nI (p + 1))), (2, .int (nI l)), (1, .int s), (0, .int (nI n))] 0 dX0_moebius_39 rfl (by decide) (by decide) rfl ?_
          refine g_goto (pc := 42) 6 dX0_moebius_42 (by decide) ?_
          exact GP.lsub _ (by simp) (ih (p + 1) l s (by omega) (by omega) hl h1 h2 hV2)
        · rw [if_pos (by omega)] at hV2
          refine g_iload_n (pc := 22) 1 dX0_moebius_22 rfl rfl ?_
          refine g_iload_n (pc := 23) 0 dX0_moebius_23 rfl rfl ?_
          refine n_idiv (pc := 24) dX0_moebius_24 (by omega) (by omega) (by omega) ?_
          refine g_istore_n (pc := 25) [(2, .int (nI (l / p))), (3, .int (nI p)), (1, .int s), (0, .int (nI n))] dX0_moebius_25 rfl (by decide) rfl ?_
          refine g_iload_n (pc := 26) 0 dX0_moebius_26 rfl rfl ?_
          refine g_iload_n (pc := 27) 1 dX0_moebius_27 rfl rfl ?_
          refine n_irem (pc := 28) dX0_moebius_28 (by omega) (by omega) (by omega) ?_
          refine n_if_ne (pc := 29) 36 dX0_moebius_29 (by decide) (by omega) (fun hm2 => ?_) (fun hm2 => ?_)
          · rw [if_neg hm2] at hV2
            obtain ⟨s2, hs2⟩ : ∃ s2 : Int32, -s = s2 := ⟨_, rfl⟩
            have hs3 : s2.toInt = -s.toInt := by rw [← hs2, I_neg (by omega)]
            rw [← hs3] at hV2
            refine g_iload_n (pc := 36) 2 dX0_moebius_36 rfl rfl ?_
            refine g_ineg (pc := 37) dX0_moebius_37 ?_
            refine GP.ti s2 hs2 ?_
            refine g_istore_n (pc := 38) [(1, .int s2), (2, .int (nI (l / p))), (3, .int (nI p)), (0, .int (nI n))] dX0_moebius_38 rfl (by decide) rfl ?_
            refine n_iinc (pc := 39) (c := 1) [(3, .int (nI (p + 1))), (1, .int s2), (2, .int (nI (l / p))), (0, .int (nI n))] 2 dX0_moebius_39 rfl (by decide) (by decide) rfl ?_
            refine g_goto (pc := 42) 6 dX0_moebius_42 (by decide) ?_
            exact GP.lsub _ (by simp) (ih (p + 1) (l / p) s2 (by omega) (by omega) (by omega) (by omega) (by omega) hV2)
          · rw [if_pos (by omega)] at hV2
            refine g_iconst (pc := 32) (v := nI 0) dX0_moebius_32 (by decide) ?_
            refine g_goto (pc := 33) 38 dX0_moebius_33 (by decide) ?_
            refine g_istore_n (pc := 38) [(1, .int (nI 0)), (2, .int (nI (l / p))), (3, .int (nI p)), (0, .int (nI n))] dX0_moebius_38 rfl (by decide) rfl ?_
            refine n_iinc (pc := 39) (c := 1) [(3, .int (nI (p + 1))), (1, .int (nI 0)), (2, .int (nI (l / p))), (0, .int (nI n))] 2 dX0_moebius_39 rfl (by decide) (by decide) rfl ?_
            refine g_goto (pc := 42) 6 dX0_moebius_42 (by decide) ?_
            exact GP.lsub _ (by simp) (ih (p + 1) (l / p) (nI 0) (by omega) (by omega) (by omega) (by decide) (by decide) hV2)
theorem sp_moebius (w : Wd) {n : Nat} (hn : n ≤ 100) : EX0_moebius [.int (nI n)] w (fun r w' => ∃ v : Int32, r = some (.int v) ∧ v.toInt = mbG n n 2 n 1 ∧ -1 ≤ v.toInt ∧ v.toInt ≤ 1 ∧ w' = w) := by
  refine EP.of (plainFor_of_name (by decide)) [(0, .int (nI n))] rfl (Nat.le_of_ble_eq_true rfl) (fun r wf h => by obtain ⟨v, rfl, -⟩ := h; trivial) ?_
  show BX0_moebius w _ w 0 [(0, .int (nI n))] []
  refine g_iconst (pc := 0) (v := nI 1) dX0_moebius_0 (by decide) ?_
  refine g_istore_n (pc := 1) [(1, .int (nI 1)), (0, .int (nI n))] dX0_moebius_1 rfl (by decide) rfl ?_
  refine g_iload_n (pc := 2) 1 dX0_moebius_2 rfl rfl ?_
  refine g_istore_n (pc := 3) [(2, .int (nI n)), (1, .int (nI 1)), (0, .int (nI n))] dX0_moebius_3 rfl (by decide) rfl ?_
  refine g_iconst (pc := 4) (v := nI 2) dX0_moebius_4 (by decide) ?_
  refine g_istore_n (pc := 5) [(3, .int (nI 2)), (2, .int (nI n)), (1, .int (nI 1)), (0, .int (nI n))] dX0_moebius_5 rfl (by decide) rfl ?_
  exact GP.lsub _ (by simp) (mb_loop hn n 2 n (nI 1) (by omega) (by omega) (Nat.le_refl _) (by decide) (by decide) rfl)
