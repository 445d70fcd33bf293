/-! the reference: squares -/
def rwL (l : Nat → Int64) (k : Nat) : Nat → Int := fun t => if t < 13 then (l (13 * k + t)).toInt else 0
def sqc (n j i : Nat) : Nat := min i (min n (2 * j) + 1) - (2 * j - n)
def sqA (a : Nat → Int) (n j i : Nat) (s : Int64) : Prop := (∀ c, c < sqc n j i → inL (a (2 * j - n + c) * a (2 * j - (2 * j - n + c))) ∧ inL (grp a n j (c + 1))) ∧ s.toInt = grp a n j (sqc n j i)
theorem sqc_v {n j i : Nat} (hj : j ≤ n) (hi : i ≤ n) (h1 : i ≤ 2 * j) (h2 : 2 * j ≤ n + i) : sqc n j (i + 1) = sqc n j i + 1 ∧ 2 * j - n + sqc n j i = i ∧ sqc n j i < gcnt n j := by
  unfold sqc gcnt
  omega
theorem sqc_n {n j i : Nat} (hj : j ≤ n) (hi : i ≤ n) (h : ¬ (i ≤ 2 * j ∧ 2 * j ≤ n + i)) : sqc n j (i + 1) = sqc n j i := by
  unfold sqc
  omega
theorem sqc_e {n j : Nat} : sqc n j (n + 1) = gcnt n j := by
  unfold sqc gcnt
  omega
theorem sqc_0 {n j : Nat} : sqc n j 0 = 0 := by
  unfold sqc
  omega
theorem sqA_n {a : Nat → Int} {n j i : Nat} {s : Int64} (h : sqA a n j i s) (hj : j ≤ n) (hi : i ≤ n) (hv : ¬ (i ≤ 2 * j ∧ 2 * j ≤ n + i)) : sqA a n j (i + 1) s := by
  unfold sqA at *
  rw [sqc_n hj hi hv]
  exact h
theorem sqA_s {a : Nat → Int} {n j i : Nat} {s s' : Int64} (h : sqA a n j i s) (hj : j ≤ n) (hi : i ≤ n) (h1 : i ≤ 2 * j) (h2 : 2 * j ≤ n + i) (hp : inL (a i * a (2 * j - i))) (hs : s'.toInt = s.toInt + grt a n j i) (hl : inL (s.toInt + grt a n j i)) : sqA a n j (i + 1) s' := by
  obtain ⟨e1, e2, e3⟩ := sqc_v hj hi h1 h2
  unfold sqA at *
  rw [e1]
  have hg : grp a n j (sqc n j i + 1) = s.toInt + grt a n j i := by
    show grp a n j (sqc n j i) + grt a n j (2 * j - n + sqc n j i) = _
    rw [e2, h.2]
  refine ⟨fun c hc => ?_, by rw [hg, hs]⟩
  by_cases e : c = sqc n j i
  · rw [e, e2, hg]
    exact ⟨hp, hl⟩
  · exact h.1 c (by omega)
theorem sqA_p {a : Nat → Int} {n j i : Nat} (hj : j ≤ n) (hi : i ≤ n) (h1 : i ≤ 2 * j) (h2 : 2 * j ≤ n + i) (hp : ¬ inL (a i * a (2 * j - i))) : ¬ gfit a n j := fun g => by
  obtain ⟨e1, e2, e3⟩ := sqc_v hj hi h1 h2
  have := (g _ e3).1
  rw [e2] at this
  exact hp this
theorem sqA_q {a : Nat → Int} {n j i : Nat} {s : Int64} (h : sqA a n j i s) (hj : j ≤ n) (hi : i ≤ n) (h1 : i ≤ 2 * j) (h2 : 2 * j ≤ n + i) (hl : ¬ inL (s.toInt + grt a n j i)) : ¬ gfit a n j := fun g => by
  obtain ⟨e1, e2, e3⟩ := sqc_v hj hi h1 h2
  have h9 := (g _ e3).2
  have hg : grp a n j (sqc n j i + 1) = s.toInt + grt a n j i := by
    show grp a n j (sqc n j i) + grt a n j (2 * j - n + sqc n j i) = _
    rw [e2, h.2]
  rw [hg] at h9
  exact hl h9
theorem sqA_e {a : Nat → Int} {n j : Nat} {s : Int64} (h : sqA a n j (n + 1) s) : gfit a n j ∧ s.toInt = gco a n j := by
  unfold sqA at h
  rw [sqc_e] at h
  exact h
def sqB (R : Prop) (a : Nat → Int) (n j i b : Nat) (s : Int64) : Prop := (b = 0 ∧ R ∧ sqA a n j i s) ∨ (b = 1 ∧ ¬ sqd a n)
abbrev BX12_squares (w0 : Wd) (Post : Option Value → Wd → Prop) (w : Wd) (pc : Nat) (ls : List (Nat × Value)) (st : List Value) : Prop := GP "squares" RX12 cX12_squares 10 none 1 39 none w0 Post w pc ls st
abbrev EX12_squares (As : List Value) (w : Wd) (Post : Option Value → Wd → Prop) : Prop := EP yX12_squares cX12_squares 10 none 1 As w Post
theorem sq_in {w0 w : Wd} {Y : Nat} {th st nu dg dd be ib ta fa re ig : Int32} {l : Nat → Int64} {n k j : Nat} (hY : w[Y]? = some (oM Y th st nu dg dd (nI n) be ib ta fa re ig)) (a12 : w[Y + 12]? = some (aL 91 l)) (hn : n ≤ 12) (hk : k ≤ 5) (hj : j ≤ n) {R : Prop} {Q : Option Value → Wd → Prop} (K : ∀ (b : Nat) (s : Int64), ((b = 0 ∧ R ∧ gfit (rwL l k) n j ∧ s.toInt = gco (rwL l k) n j) ∨ (b = 1 ∧ ¬ sqd (rwL l k) n)) → BX12_squares w0 Q (w.set Y (oM Y th st nu dg dd (nI n) be (nI b) ta fa re ig)) 110 [(4, .long s), (3, .int (nI j)), (2, .int (nI n)), (1, .int (nI k)), (0, .ref Y)] []) : ∀ (z i b : Nat) (s : Int64), n + 1 = i + z → sqB R (rwL l k) n j i b s → BX12_squares w0 Q (w.set Y (oM Y th st nu dg dd (nI n) be (nI b) ta fa re ig)) 18 [(6, .int (nI i)), (4, .long s), (3, .int (nI j)), (2, .int (nI n)), (1, .int (nI k)), (0, .ref Y)] [] := by
  intro z
  induction z with
  | zero =>
    intro i b s hz hb
    refine g_iload (pc := 18) 0 dX12_squares_18 rfl ?_
    refine g_iload_n (pc := 20) 3 dX12_squares_20 rfl rfl ?_
    refine n_icmp_gt (pc := 21) 110 dX12_squares_21 (by decide) (by omega) (by omega) (fun hb9 => ?_) (fun hb9 => ?_)
    · have e9 : i = n + 1 := by omega
      subst e9
      refine GP.lsub _ (by simp) (K b s ?_)
      rcases hb with ⟨rfl, hR, hb⟩ | ⟨rfl, hb⟩
      · exact Or.inl ⟨rfl, hR, sqA_e hb⟩
      · exact Or.inr ⟨rfl, hb⟩
    · exact absurd hb9 (by omega)
  | succ z ih =>
    intro i b s hz hb
    refine g_iload (pc := 18) 0 dX12_squares_18 rfl ?_
    refine g_iload_n (pc := 20) 3 dX12_squares_20 rfl rfl ?_
    refine n_icmp_gt (pc := 21) 110 dX12_squares_21 (by decide) (by omega) (by omega) (fun hb9 => ?_) (fun hb9 => ?_)
    · exact absurd hb9 (by omega)
    · refine g_iconst (pc := 24) (v := nI 2) dX12_squares_24 (by decide) ?_
      refine g_iload_n (pc := 25) 2 dX12_squares_25 rfl rfl ?_
      refine n_imul (pc := 26) dX12_squares_26 ?_
      refine g_iload (pc := 27) 0 dX12_squares_27 rfl ?_
      refine g_isub (pc := 29) dX12_squares_29 ?_
      refine g_istore (pc := 30) [(7, .int ((nI (2 * j)) - (nI i))), (6, .int (nI i)), (4, .long s), (3, .int (nI j)), (2, .int (nI n)), (1, .int (nI k)), (0, .ref Y)] dX12_squares_30 (by decide) rfl ?_
      refine g_iload (pc := 32) 0 dX12_squares_32 rfl ?_
      refine g_i2l (pc := 34) dX12_squares_34 ?_
      refine g_lconst (pc := 35) (v := 0) dX12_squares_35 (by decide) ?_
      refine g_iload_n (pc := 36) 4 dX12_squares_36 rfl rfl ?_
      refine g_i2l (pc := 37) dX12_squares_37 ?_
      have hl9 : (nI (2 * j) - nI i).toInt = 2 * (j : Int) - i := by rw [I_sub (by rw [nI_toInt (by omega), nI_toInt (by omega)]; omega) (by rw [nI_toInt (by omega), nI_toInt (by omega)]; omega), nI_toInt (by omega), nI_toInt (by omega)]; omega
      refine g_callS (pc := 38) [.long (((nI (2 * j)) - (nI i)).toInt64), .long 0, .long ((nI n).toInt64)] dX12_squares_38 cs_X12_103.1 cs_X12_103.2 rfl rfl (Nat.le_of_ble_eq_true rfl) (by decide) (by decide) (mp_in _) ?_
      rintro _ w9 (⟨rfl, hv, e9⟩ | ⟨rfl, hv, e9⟩)
      · refine GP.weq _ e9 ?_
        rw [IL, IL, L00, hl9, nI_toInt (by omega)] at hv
        have hv1 : i ≤ 2 * j := by omega
        have hv2 : 2 * j ≤ n + i := by omega
        rw [nI_sub hv1]
        refine n_if_eq (pc := 41) 104 dX12_squares_41 (by decide) (by omega) (fun hd9 => ?_) (fun hd9 => ?_)
        · exact absurd hd9 (by decide)
        · refine g_aload_n (pc := 44) 6 dX12_squares_44 rfl rfl ?_
          refine g_aload_n (pc := 45) 6 dX12_squares_45 rfl rfl ?_
          refine g_get (pc := 46) dX12_squares_46 fk_X12_45 (lk_eq hY) rfl ?_
          refine g_bipush (pc := 49) (v := nI 13) dX12_squares_49 (by decide) ?_
          refine g_iload_n (pc := 51) 5 dX12_squares_51 rfl rfl ?_
          refine n_imul (pc := 52) dX12_squares_52 ?_
          refine g_iload (pc := 53) 1 dX12_squares_53 rfl ?_
          refine n_iadd (pc := 55) dX12_squares_55 ?_
          refine g_lald (pc := 56) ((13 * k) + i) dX12_squares_56 (lk_ne (show Y ≠ (Y + 12) by omega) a12) (IXn (by omega) (by omega)) ?_
          refine g_aload_n (pc := 57) 6 dX12_squares_57 rfl rfl ?_
          refine g_get (pc := 58) dX12_squares_58 fk_X12_45 (lk_eq hY) rfl ?_
          refine g_bipush (pc := 61) (v := nI 13) dX12_squares_61 (by decide) ?_
          refine g_iload_n (pc := 63) 5 dX12_squares_63 rfl rfl ?_
          refine n_imul (pc := 64) dX12_squares_64 ?_
          refine g_iload (pc := 65) 0 dX12_squares_65 rfl ?_
          refine n_iadd (pc := 67) dX12_squares_67 ?_
          refine g_lald (pc := 68) ((13 * k) + (2 * j - i)) dX12_squares_68 (lk_ne (show Y ≠ (Y + 12) by omega) a12) (IXn (by omega) (by omega)) ?_
          rcases hb with ⟨rfl, hR, hb⟩ | ⟨rfl, hb⟩
          · ·
              have hib : i ≤ n := by omega
              have e1 : (l (13 * k + i)).toInt = rwL l k i := (if_pos (by omega)).symm
              have e2 : (l (13 * k + (2 * j - i))).toInt = rwL l k (2 * j - i) := (if_pos (by omega)).symm
              refine g_callV (pc := 69) [.long (l ((13 * k) + i)), .long (l ((13 * k) + (2 * j - i)))] dX12_squares_69 cv_X12_186.1 cv_X12_186.2.1 cv_X12_186.2.2.1 cv_X12_186.2.2.2 (lk_eq hY) rfl rfl (Nat.le_of_ble_eq_true rfl) (by decide) (by decide) (mp_times0 _ (lk_eq hY)) ?_
              rintro _ w9 (⟨v, hp, hv9, rfl, e9⟩ | ⟨v, hp, rfl, e9⟩)
              · rw [List.set_set] at e9
                refine GP.weq _ e9 ?_
                rw [e1, e2] at hp hv9
                refine g_lstore (pc := 72) [(8, .long v), (7, .int (nI (2 * j - i))), (6, .int (nI i)), (4, .long s), (3, .int (nI j)), (2, .int (nI n)), (1, .int (nI k)), (0, .ref Y)] dX12_squares_72 (by decide) rfl ?_
                refine g_iload (pc := 74) 1 dX12_squares_74 rfl ?_
                refine g_iload_n (pc := 76) 5 dX12_squares_76 rfl rfl ?_
                refine n_iadd (pc := 77) dX12_squares_77 ?_
                refine g_iconst (pc := 78) (v := nI 2) dX12_squares_78 (by decide) ?_
                refine n_irem (pc := 79) dX12_squares_79 (by omega) (by omega) (by omega) ?_
                refine n_if_ne (pc := 80) 94 dX12_squares_80 (by decide) (by omega) (fun hm => ?_) (fun hm => ?_)
                · refine g_aload_n (pc := 94) 7 dX12_squares_94 rfl rfl ?_
                  refine g_lload (pc := 95) 3 dX12_squares_95 rfl ?_
                  refine g_lload (pc := 97) 0 dX12_squares_97 rfl ?_
                  refine g_callV (pc := 99) [.long s, .long v] dX12_squares_99 cv_X12_193.1 cv_X12_193.2.1 cv_X12_193.2.2.1 cv_X12_193.2.2.2 (lk_eq hY) rfl rfl (Nat.le_of_ble_eq_true rfl) (by decide) (by decide) (mp_minus0 _ (lk_eq hY)) ?_
                  rintro _ w9 (⟨u, hs, hu, rfl, e9⟩ | ⟨u, hs, rfl, e9⟩)
                  · rw [List.set_set] at e9
                    refine GP.weq _ e9 ?_
                    refine g_lstore (pc := 102) [(4, .long u), (8, .long v), (7, .int (nI (2 * j - i))), (6, .int (nI i)), (3, .int (nI j)), (2, .int (nI n)), (1, .int (nI k)), (0, .ref Y)] dX12_squares_102 (by decide) rfl ?_
                    refine n_iinc (pc := 104) (c := 1) [(6, .int (nI (i + 1))), (4, .long u), (8, .long v), (7, .int (nI (2 * j - i))), (3, .int (nI j)), (2, .int (nI n)), (1, .int (nI k)), (0, .ref Y)] 3 dX12_squares_104 rfl (by decide) (by decide) rfl ?_
                    refine g_goto (pc := 107) 18 dX12_squares_107 (by decide) ?_
                    have hg : grt (rwL l k) n j i = -(rwL l k i * rwL l k (2 * j - i)) := if_neg (by omega)
                    refine GP.lsub _ (by simp) (ih (i + 1) 0 u (by omega) (Or.inl ⟨rfl, hR, sqA_s hb hj hib hv1 hv2 hp ?_ ?_⟩))
                    · rw [hu, hv9, hg]; omega
                    · rw [hg, ← hv9]; rw [show s.toInt + -v.toInt = s.toInt - v.toInt by omega]; exact hs
                  · rw [List.set_set] at e9
                    refine GP.weq _ e9 ?_
                    refine g_lstore (pc := 102) [(4, .long u), (8, .long v), (7, .int (nI (2 * j - i))), (6, .int (nI i)), (3, .int (nI j)), (2, .int (nI n)), (1, .int (nI k)), (0, .ref Y)] dX12_squares_102 (by decide) rfl ?_
                    refine n_iinc (pc := 104) (c := 1) [(6, .int (nI (i + 1))), (4, .long u), (8, .long v), (7, .int (nI (2 * j - i))), (3, .int (nI j)), (2, .int (nI n)), (1, .int (nI k)), (0, .ref Y)] 3 dX12_squares_104 rfl (by decide) (by decide) rfl ?_
                    refine g_goto (pc := 107) 18 dX12_squares_107 (by decide) ?_
                    have hg : grt (rwL l k) n j i = -(rwL l k i * rwL l k (2 * j - i)) := if_neg (by omega)
                    refine GP.lsub _ (by simp) (ih (i + 1) 1 u (by omega) (Or.inr ⟨rfl, fun g9 => sqA_q hb hj hib hv1 hv2 ?_ (g9 j hj)⟩))
                    rw [hg, ← hv9]; rw [show s.toInt + -v.toInt = s.toInt - v.toInt by omega]; exact hs
                · refine g_aload_n (pc := 83) 7 dX12_squares_83 rfl rfl ?_
                  refine g_lload (pc := 84) 3 dX12_squares_84 rfl ?_
                  refine g_lload (pc := 86) 0 dX12_squares_86 rfl ?_
                  refine g_callV (pc := 88) [.long s, .long v] dX12_squares_88 cv_X12_190.1 cv_X12_190.2.1 cv_X12_190.2.2.1 cv_X12_190.2.2.2 (lk_eq hY) rfl rfl (Nat.le_of_ble_eq_true rfl) (by decide) (by decide) (mp_plus0 _ (lk_eq hY)) ?_
                  rintro _ w9 (⟨u, hs, hu, rfl, e9⟩ | ⟨u, hs, rfl, e9⟩)
                  · rw [List.set_set] at e9
                    refine GP.weq _ e9 ?_
                    refine g_goto (pc := 91) 102 dX12_squares_91 (by decide) ?_
                    refine g_lstore (pc := 102) [(4, .long u), (8, .long v), (7, .int (nI (2 * j - i))), (6, .int (nI i)), (3, .int (nI j)), (2, .int (nI n)), (1, .int (nI k)), (0, .ref Y)] dX12_squares_102 (by decide) rfl ?_
                    refine n_iinc (pc := 104) (c := 1) [(6, .int (nI (i + 1))), (4, .long u), (8, .long v), (7, .int (nI (2 * j - i))), (3, .int (nI j)), (2, .int (nI n)), (1, .int (nI k)), (0, .ref Y)] 3 dX12_squares_104 rfl (by decide) (by decide) rfl ?_
                    refine g_goto (pc := 107) 18 dX12_squares_107 (by decide) ?_
                    have hg : grt (rwL l k) n j i = rwL l k i * rwL l k (2 * j - i) := if_pos (by omega)
                    refine GP.lsub _ (by simp) (ih (i + 1) 0 u (by omega) (Or.inl ⟨rfl, hR, sqA_s hb hj hib hv1 hv2 hp ?_ ?_⟩))
                    · rw [hu, hv9, hg]
                    · rw [hg, ← hv9]; exact hs
                  · rw [List.set_set] at e9
                    refine GP.weq _ e9 ?_
                    refine g_goto (pc := 91) 102 dX12_squares_91 (by decide) ?_
                    refine g_lstore (pc := 102) [(4, .long u), (8, .long v), (7, .int (nI (2 * j - i))), (6, .int (nI i)), (3, .int (nI j)), (2, .int (nI n)), (1, .int (nI k)), (0, .ref Y)] dX12_squares_102 (by decide) rfl ?_
                    refine n_iinc (pc := 104) (c := 1) [(6, .int (nI (i + 1))), (4, .long u), (8, .long v), (7, .int (nI (2 * j - i))), (3, .int (nI j)), (2, .int (nI n)), (1, .int (nI k)), (0, .ref Y)] 3 dX12_squares_104 rfl (by decide) (by decide) rfl ?_
                    refine g_goto (pc := 107) 18 dX12_squares_107 (by decide) ?_
                    have hg : grt (rwL l k) n j i = rwL l k i * rwL l k (2 * j - i) := if_pos (by omega)
                    refine GP.lsub _ (by simp) (ih (i + 1) 1 u (by omega) (Or.inr ⟨rfl, fun g9 => sqA_q hb hj hib hv1 hv2 ?_ (g9 j hj)⟩))
                    rw [hg, ← hv9]; exact hs
              · rw [List.set_set] at e9
                refine GP.weq _ e9 ?_
                rw [e1, e2] at hp
                refine g_lstore (pc := 72) [(8, .long v), (7, .int (nI (2 * j - i))), (6, .int (nI i)), (4, .long s), (3, .int (nI j)), (2, .int (nI n)), (1, .int (nI k)), (0, .ref Y)] dX12_squares_72 (by decide) rfl ?_
                refine g_iload (pc := 74) 1 dX12_squares_74 rfl ?_
                refine g_iload_n (pc := 76) 5 dX12_squares_76 rfl rfl ?_
                refine n_iadd (pc := 77) dX12_squares_77 ?_
                refine g_iconst (pc := 78) (v := nI 2) dX12_squares_78 (by decide) ?_
                refine n_irem (pc := 79) dX12_squares_79 (by omega) (by omega) (by omega) ?_
                refine n_if_ne (pc := 80) 94 dX12_squares_80 (by decide) (by omega) (fun hm => ?_) (fun hm => ?_)
                · refine g_aload_n (pc := 94) 7 dX12_squares_94 rfl rfl ?_
                  refine g_lload (pc := 95) 3 dX12_squares_95 rfl ?_
                  refine g_lload (pc := 97) 0 dX12_squares_97 rfl ?_
                  refine g_callV (pc := 99) [.long s, .long v] dX12_squares_99 cv_X12_193.1 cv_X12_193.2.1 cv_X12_193.2.2.1 cv_X12_193.2.2.2 (lk_eq hY) rfl rfl (Nat.le_of_ble_eq_true rfl) (by decide) (by decide) (mp_minus1 _ (lk_eq hY)) ?_
                  rintro _ w9 ⟨u, rfl, e9⟩
                  rw [List.set_set] at e9
                  refine GP.weq _ e9 ?_
                  refine g_lstore (pc := 102) [(4, .long u), (8, .long v), (7, .int (nI (2 * j - i))), (6, .int (nI i)), (3, .int (nI j)), (2, .int (nI n)), (1, .int (nI k)), (0, .ref Y)] dX12_squares_102 (by decide) rfl ?_
                  refine n_iinc (pc := 104) (c := 1) [(6, .int (nI (i + 1))), (4, .long u), (8, .long v), (7, .int (nI (2 * j - i))), (3, .int (nI j)), (2, .int (nI n)), (1, .int (nI k)), (0, .ref Y)] 3 dX12_squares_104 rfl (by decide) (by decide) rfl ?_
                  refine g_goto (pc := 107) 18 dX12_squares_107 (by decide) ?_
                  exact GP.lsub _ (by simp) (ih (i + 1) 1 u (by omega) (Or.inr ⟨rfl, fun g9 => sqA_p hj hib hv1 hv2 hp (g9 j hj)⟩))
                · refine g_aload_n (pc := 83) 7 dX12_squares_83 rfl rfl ?_
                  refine g_lload (pc := 84) 3 dX12_squares_84 rfl ?_
                  refine g_lload (pc := 86) 0 dX12_squares_86 rfl ?_
                  refine g_callV (pc := 88) [.long s, .long v] dX12_squares_88 cv_X12_190.1 cv_X12_190.2.1 cv_X12_190.2.2.1 cv_X12_190.2.2.2 (lk_eq hY) rfl rfl (Nat.le_of_ble_eq_true rfl) (by decide) (by decide) (mp_plus1 _ (lk_eq hY)) ?_
                  rintro _ w9 ⟨u, rfl, e9⟩
                  rw [List.set_set] at e9
                  refine GP.weq _ e9 ?_
                  refine g_goto (pc := 91) 102 dX12_squares_91 (by decide) ?_
                  refine g_lstore (pc := 102) [(4, .long u), (8, .long v), (7, .int (nI (2 * j - i))), (6, .int (nI i)), (3, .int (nI j)), (2, .int (nI n)), (1, .int (nI k)), (0, .ref Y)] dX12_squares_102 (by decide) rfl ?_
                  refine n_iinc (pc := 104) (c := 1) [(6, .int (nI (i + 1))), (4, .long u), (8, .long v), (7, .int (nI (2 * j - i))), (3, .int (nI j)), (2, .int (nI n)), (1, .int (nI k)), (0, .ref Y)] 3 dX12_squares_104 rfl (by decide) (by decide) rfl ?_
                  refine g_goto (pc := 107) 18 dX12_squares_107 (by decide) ?_
                  exact GP.lsub _ (by simp) (ih (i + 1) 1 u (by omega) (Or.inr ⟨rfl, fun g9 => sqA_p hj hib hv1 hv2 hp (g9 j hj)⟩))
          · ·
              refine g_callV (pc := 69) [.long (l ((13 * k) + i)), .long (l ((13 * k) + (2 * j - i)))] dX12_squares_69 cv_X12_186.1 cv_X12_186.2.1 cv_X12_186.2.2.1 cv_X12_186.2.2.2 (lk_eq hY) rfl rfl (Nat.le_of_ble_eq_true rfl) (by decide) (by decide) (mp_times1 _ (lk_eq hY)) ?_
              rintro _ w9 ⟨v, rfl, e9⟩
              rw [List.set_set] at e9
              refine GP.weq _ e9 ?_
              refine g_lstore (pc := 72) [(8, .long v), (7, .int (nI (2 * j - i))), (6, .int (nI i)), (4, .long s), (3, .int (nI j)), (2, .int (nI n)), (1, .int (nI k)), (0, .ref Y)] dX12_squares_72 (by decide) rfl ?_
              refine g_iload (pc := 74) 1 dX12_squares_74 rfl ?_
              refine g_iload_n (pc := 76) 5 dX12_squares_76 rfl rfl ?_
              refine n_iadd (pc := 77) dX12_squares_77 ?_
              refine g_iconst (pc := 78) (v := nI 2) dX12_squares_78 (by decide) ?_
              refine n_irem (pc := 79) dX12_squares_79 (by omega) (by omega) (by omega) ?_
              refine n_if_ne (pc := 80) 94 dX12_squares_80 (by decide) (by omega) (fun hm => ?_) (fun hm => ?_)
              · refine g_aload_n (pc := 94) 7 dX12_squares_94 rfl rfl ?_
                refine g_lload (pc := 95) 3 dX12_squares_95 rfl ?_
                refine g_lload (pc := 97) 0 dX12_squares_97 rfl ?_
                refine g_callV (pc := 99) [.long s, .long v] dX12_squares_99 cv_X12_193.1 cv_X12_193.2.1 cv_X12_193.2.2.1 cv_X12_193.2.2.2 (lk_eq hY) rfl rfl (Nat.le_of_ble_eq_true rfl) (by decide) (by decide) (mp_minus1 _ (lk_eq hY)) ?_
                rintro _ w9 ⟨u, rfl, e9⟩
                rw [List.set_set] at e9
                refine GP.weq _ e9 ?_
                refine g_lstore (pc := 102) [(4, .long u), (8, .long v), (7, .int (nI (2 * j - i))), (6, .int (nI i)), (3, .int (nI j)), (2, .int (nI n)), (1, .int (nI k)), (0, .ref Y)] dX12_squares_102 (by decide) rfl ?_
                refine n_iinc (pc := 104) (c := 1) [(6, .int (nI (i + 1))), (4, .long u), (8, .long v), (7, .int (nI (2 * j - i))), (3, .int (nI j)), (2, .int (nI n)), (1, .int (nI k)), (0, .ref Y)] 3 dX12_squares_104 rfl (by decide) (by decide) rfl ?_
                refine g_goto (pc := 107) 18 dX12_squares_107 (by decide) ?_
                exact GP.lsub _ (by simp) (ih (i + 1) 1 u (by omega) (Or.inr ⟨rfl, hb⟩))
              · refine g_aload_n (pc := 83) 7 dX12_squares_83 rfl rfl ?_
                refine g_lload (pc := 84) 3 dX12_squares_84 rfl ?_
                refine g_lload (pc := 86) 0 dX12_squares_86 rfl ?_
                refine g_callV (pc := 88) [.long s, .long v] dX12_squares_88 cv_X12_190.1 cv_X12_190.2.1 cv_X12_190.2.2.1 cv_X12_190.2.2.2 (lk_eq hY) rfl rfl (Nat.le_of_ble_eq_true rfl) (by decide) (by decide) (mp_plus1 _ (lk_eq hY)) ?_
                rintro _ w9 ⟨u, rfl, e9⟩
                rw [List.set_set] at e9
                refine GP.weq _ e9 ?_
                refine g_goto (pc := 91) 102 dX12_squares_91 (by decide) ?_
                refine g_lstore (pc := 102) [(4, .long u), (8, .long v), (7, .int (nI (2 * j - i))), (6, .int (nI i)), (3, .int (nI j)), (2, .int (nI n)), (1, .int (nI k)), (0, .ref Y)] dX12_squares_102 (by decide) rfl ?_
                refine n_iinc (pc := 104) (c := 1) [(6, .int (nI (i + 1))), (4, .long u), (8, .long v), (7, .int (nI (2 * j - i))), (3, .int (nI j)), (2, .int (nI n)), (1, .int (nI k)), (0, .ref Y)] 3 dX12_squares_104 rfl (by decide) (by decide) rfl ?_
                refine g_goto (pc := 107) 18 dX12_squares_107 (by decide) ?_
                exact GP.lsub _ (by simp) (ih (i + 1) 1 u (by omega) (Or.inr ⟨rfl, hb⟩))
      · refine GP.weq _ e9 ?_
        rw [IL, IL, L00, hl9, nI_toInt (by omega)] at hv
        refine n_if_eq (pc := 41) 104 dX12_squares_41 (by decide) (by omega) (fun hd9 => ?_) (fun hd9 => ?_)
        · refine n_iinc (pc := 104) (c := 1) [(6, .int (nI (i + 1))), (7, .int ((nI (2 * j)) - (nI i))), (4, .long s), (3, .int (nI j)), (2, .int (nI n)), (1, .int (nI k)), (0, .ref Y)] 1 dX12_squares_104 rfl (by decide) (by decide) rfl ?_
          refine g_goto (pc := 107) 18 dX12_squares_107 (by decide) ?_
          refine GP.lsub _ (by simp) (ih (i + 1) b s (by omega) ?_)
          rcases hb with ⟨rfl, hR, hb⟩ | ⟨rfl, hb⟩
          · exact Or.inl ⟨rfl, hR, sqA_n hb hj (by omega) (by omega)⟩
          · exact Or.inr ⟨rfl, hb⟩
        · exact absurd rfl hd9
def lqO (l : Nat → Int64) (k n j b : Nat) (l' : Nat → Int64) : Prop := (∀ t, t < 13 * (k + 1) → l' t = l t) ∧ ((b = 0 ∧ (∀ q, q < j → gfit (rwL l k) n q ∧ (l' (13 * (k + 1) + q)).toInt = gco (rwL l k) n q) ∧ ∀ t, 13 * (k + 1) + j ≤ t → l' t = l t) ∨ (b = 1 ∧ ¬ sqd (rwL l k) n))
theorem rwL_cg {l l' : Nat → Int64} {k : Nat} (h : ∀ t, t < 13 * (k + 1) → l' t = l t) : rwL l' k = rwL l k := by
  funext t
  unfold rwL
  by_cases e : t < 13
  · rw [if_pos e, if_pos e, h _ (by omega)]
  · rw [if_neg e, if_neg e]
theorem lqO_s {l l' : Nat → Int64} {k n j b c : Nat} {s : Int64} (h : lqO l k n j b l') (hs : (c = 0 ∧ b = 0 ∧ gfit (rwL l k) n j ∧ s.toInt = gco (rwL l k) n j) ∨ (c = 1 ∧ ¬ sqd (rwL l k) n)) : lqO l k n (j + 1) c (vp_updL l' (13 * (k + 1) + j) s) := by
  refine ⟨fun t ht => by rw [upL_n (by omega)]; exact h.1 t ht, ?_⟩
  rcases hs with ⟨rfl, rfl, hg, hv⟩ | ⟨rfl, hg⟩
  · obtain ⟨-, h1, h2⟩ := h.2.resolve_right (fun g => by have := g.1; omega)
    refine Or.inl ⟨rfl, fun q hq => ?_, fun t ht => by rw [upL_n (by omega)]; exact h2 t (by omega)⟩
    by_cases e : q = j
    · rw [e, upL_s]
      exact ⟨hg, hv⟩
    · rw [upL_n (by omega)]
      exact h1 q (by omega)
  · exact Or.inr ⟨rfl, hg⟩
theorem sq_out {w0 w : Wd} {Y : Nat} {th st nu dg dd be ib ta fa re ig : Int32} {l : Nat → Int64} {n k : Nat} (hY : w[Y]? = some (oM Y th st nu dg dd (nI n) be ib ta fa re ig)) (a12 : w[Y + 12]? = some (aL 91 l)) (hn : n ≤ 12) (hk : k ≤ 5) : ∀ (z j b : Nat) (l' : Nat → Int64), n + 1 = j + z → lqO l k n j b l' → BX12_squares w0 (fun r w' => r = none ∧ ∃ (b : Nat) (l' : Nat → Int64), lqO l k n (n + 1) b l' ∧ w' = ((w.set (Y + 12) (aL 91 l')).set Y (oM Y th st nu dg dd (nI n) be (nI b) ta fa re ig))) ((w.set (Y + 12) (aL 91 l')).set Y (oM Y th st nu dg dd (nI n) be (nI b) ta fa re ig)) 7 [(3, .int (nI j)), (2, .int (nI n)), (1, .int (nI k)), (0, .ref Y)] [] := by
  intro z
  induction z with
  | zero =>
    intro j b l' hz hb
    refine g_iload_n (pc := 7) 0 dX12_squares_7 rfl rfl ?_
    refine g_iload_n (pc := 8) 1 dX12_squares_8 rfl rfl ?_
    refine n_icmp_gt (pc := 9) 131 dX12_squares_9 (by decide) (by omega) (by omega) (fun hb9 => ?_) (fun hb9 => ?_)
    · have e9 : j = n + 1 := by omega
      subst e9
      exact g_vret (pc := 131) dX12_squares_131 ⟨rfl, b, l', hb, rfl⟩
    · exact absurd hb9 (by omega)
  | succ z ih =>
    intro j b l' hz hb
    refine g_iload_n (pc := 7) 0 dX12_squares_7 rfl rfl ?_
    refine g_iload_n (pc := 8) 1 dX12_squares_8 rfl rfl ?_
    refine n_icmp_gt (pc := 9) 131 dX12_squares_9 (by decide) (by omega) (by omega) (fun hb9 => ?_) (fun hb9 => ?_)
    · exact absurd hb9 (by omega)
    · refine g_lconst (pc := 12) (v := 0) dX12_squares_12 (by decide) ?_
      refine g_lstore (pc := 13) [(4, .long 0), (3, .int (nI j)), (2, .int (nI n)), (1, .int (nI k)), (0, .ref Y)] dX12_squares_13 (by decide) rfl ?_
      refine g_iconst (pc := 15) (v := nI 0) dX12_squares_15 (by decide) ?_
      refine g_istore (pc := 16) [(6, .int (nI 0)), (4, .long 0), (3, .int (nI j)), (2, .int (nI n)), (1, .int (nI k)), (0, .ref Y)] dX12_squares_16 (by decide) rfl ?_
      have hY2 : (w.set (Y + 12) (aL 91 l'))[Y]? = some (oM Y th st nu dg dd (nI n) be ib ta fa re ig) := lk_ne (by omega) hY
      have a122 : (w.set (Y + 12) (aL 91 l'))[Y + 12]? = some (aL 91 l') := lk_eq a12
      have hrw := rwL_cg hb.1
      refine GP.lsub _ (by simp) (sq_in (R := b = 0) hY2 a122 hn hk (show j ≤ n by omega) (fun c s hs => ?_) (n + 1) 0 b 0 (by omega) ?_)
      rotate_left
      · rcases hb.2 with ⟨rfl, -, -⟩ | ⟨rfl, hb2⟩
        · exact Or.inl ⟨rfl, rfl, fun c hc => absurd hc (by rw [sqc_0]; omega), by rw [sqc_0]; rfl⟩
        · exact Or.inr ⟨rfl, by rw [hrw]; exact hb2⟩
      rw [hrw] at hs
      refine g_aload_n (pc := 110) 4 dX12_squares_110 rfl rfl ?_
      refine g_get (pc := 111) dX12_squares_111 fk_X12_45 (lk_eq (lk_ne (show (Y + 12) ≠ Y by omega) hY)) rfl ?_
      refine g_bipush (pc := 114) (v := nI 13) dX12_squares_114 (by decide) ?_
      refine g_iload_n (pc := 116) 3 dX12_squares_116 rfl rfl ?_
      refine g_iconst (pc := 117) (v := nI 1) dX12_squares_117 (by decide) ?_
      refine n_iadd (pc := 118) dX12_squares_118 ?_
      refine n_imul (pc := 119) dX12_squares_119 ?_
      refine g_iload_n (pc := 120) 1 dX12_squares_120 rfl rfl ?_
      refine n_iadd (pc := 121) dX12_squares_121 ?_
      refine g_lload (pc := 122) 0 dX12_squares_122 rfl ?_
      refine g_last (pc := 124) ((13 * (k + 1)) + j) dX12_squares_124 (lk_ne (show Y ≠ (Y + 12) by omega) (lk_eq a12)) (IXn (by omega) (by omega)) ?_
      refine GP.weq ((w.set (Y + 12) (aL 91 (vp_updL l' ((13 * (k + 1)) + j) s))).set Y (.inr (11, .int th :: .int st :: .ref (Y + 1) :: .ref (Y + 2) :: .ref (Y + 3) :: .ref (Y + 4) :: .int nu :: .ref (Y + 5) :: .ref (Y + 6) :: .ref (Y + 7) :: .int dg :: .ref (Y + 8) :: .int dd :: .ref (Y + 9) :: .ref (Y + 10) :: .ref (Y + 11) :: .ref (Y + 12) :: .int (nI n) :: .int be :: .int (nI c) :: .ref (Y + 13) :: .ref (Y + 14) :: .ref (Y + 15) :: .ref (Y + 16) :: .ref (Y + 17) :: .int ta :: .int fa :: .int re :: .int ig :: .ref (Y + 18) :: .ref (Y + 19) :: .ref (Y + 20) :: .ref (Y + 21) :: []))) (by rw [List.set_comm _ _ (show Y ≠ (Y + 12) by omega), List.set_set]) ?_
      refine n_iinc (pc := 125) (c := 1) [(3, .int (nI (j + 1))), (4, .long s), (2, .int (nI n)), (1, .int (nI k)), (0, .ref Y)] 1 dX12_squares_125 rfl (by decide) (by decide) rfl ?_
      refine g_goto (pc := 128) 7 dX12_squares_128 (by decide) ?_
      refine GP.lsub _ (by simp) (ih (j + 1) c _ (by omega) (lqO_s hb ?_))
      rcases hs with ⟨rfl, hs0, hs1, hs2⟩ | ⟨rfl, hs1⟩
      · exact Or.inl ⟨rfl, hs0, hs1, hs2⟩
      · exact Or.inr ⟨rfl, hs1⟩
theorem mp_squares (w : Wd) {Y : Nat} {th st nu dg dd be ta fa re ig : Int32} {l : Nat → Int64} {n k : Nat} (hY : w[Y]? = some (oM Y th st nu dg dd (nI n) be (nI 0) ta fa re ig)) (a12 : w[Y + 12]? = some (aL 91 l)) (hn : n ≤ 12) (hk : k ≤ 5) : EX12_squares [.ref Y, .int (nI k)] w (fun r w' => r = none ∧ ∃ (b : Nat) (l' : Nat → Int64), lqO l k n (n + 1) b l' ∧ w' = ((w.set (Y + 12) (aL 91 l')).set Y (oM Y th st nu dg dd (nI n) be (nI b) ta fa re ig))) := by
  refine EP.of (plainFor_of_name (by decide)) [(0, .ref Y), (1, .int (nI k))] rfl (Nat.le_of_ble_eq_true rfl) (fun r wf h => by obtain ⟨rfl, -⟩ := h; trivial) ?_
  show BX12_squares w _ w 0 [(0, .ref Y), (1, .int (nI k))] []
  refine g_aload_n (pc := 0) 0 dX12_squares_0 rfl rfl ?_
  refine g_get (pc := 1) dX12_squares_1 fk_X12_183 hY rfl ?_
  refine g_istore_n (pc := 4) [(2, .int (nI n)), (0, .ref Y), (1, .int (nI k))] dX12_squares_4 rfl (by decide) rfl ?_
  refine g_iconst (pc := 5) (v := nI 0) dX12_squares_5 (by decide) ?_
  refine g_istore_n (pc := 6) [(3, .int (nI 0)), (2, .int (nI n)), (0, .ref Y), (1, .int (nI k))] dX12_squares_6 rfl (by decide) rfl ?_
  refine GP.weq ((w.set (Y + 12) (aL 91 l)).set Y (oM Y th st nu dg dd (nI n) be (nI 0) ta fa re ig)) (by rw [set_same a12, set_same hY]) ?_
  exact GP.lsub _ (by simp) (sq_out hY a12 hn hk (n + 1) 0 0 l (by omega) ⟨fun _ _ => rfl, Or.inl ⟨rfl, fun q hq => absurd hq (Nat.not_lt_zero _), fun _ _ => rfl⟩⟩)
