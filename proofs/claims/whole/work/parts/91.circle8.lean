/-! Circle: writeCyclotomic -/
/-- times 1 less x^d, or divided by it, as far as x^12 -/
def cySt (wy : Int) (d : Nat) (f g : Nat → Int64) : Prop := (0 < wy → ∀ p, p < 13 → g p = if d ≤ p then f p - f (p - d) else f p) ∧ (wy < 0 → ∀ p, p < 13 → (p < d → g p = f p) ∧ (d ≤ p → g p = f p + g (p - d))) ∧ (wy = 0 → ∀ p, p < 13 → g p = f p)
def cyWy (n d : Nat) : Int := if n % d = 0 then mbG (n / d) (n / d) 2 (n / d) 1 else 0
def wcR (n : Nat) : Nat → Int → (Nat → Int64) → Prop
  | 0, dg, f => dg = 0 ∧ ∀ p, p < 13 → f p = if p = 0 then (if n = 1 then -1 else 1) else 0
  | d + 1, dg, f => ∃ dg' f', wcR n d dg' f' ∧ dg = dg' + cyWy n (d + 1) * (d + 1 : Nat) ∧ cySt (cyWy n (d + 1)) (d + 1) f' f
abbrev BX0_writeCyclotomic (w0 : Wd) (Post : Option Value → Wd → Prop) (w : Wd) (pc : Nat) (ls : List (Nat × Value)) (st : List Value) : Prop := GP "writeCyclotomic" RX0 cX0_writeCyclotomic 6 (some .int) 1 39 none w0 Post w pc ls st
abbrev EX0_writeCyclotomic (As : List Value) (w : Wd) (Post : Option Value → Wd → Prop) : Prop := EP yX0_writeCyclotomic cX0_writeCyclotomic 6 (some .int) 1 As w Post
theorem wc_up {w0 w : Wd} {Post : Option Value → Wd → Prop} {C tp n : Nat} {mk : Int64} {lf : Nat → Int64} (hC : w[C]? = some (oC (C + 1) (C + 2) (C + 3) (C + 4) (C + 5) tp mk)) (h3 : w[C + 3]? = some (aL 13 lf)) {d : Nat} {wy dg : Int32} {f : Nat → Int64} (hd : 1 ≤ d) (hwy : wy.toInt < 0) (hx : ∀ g, cySt wy.toInt d f g → BX0_writeCyclotomic w0 Post (w.set (C + 3) (aL 13 g)) 140 [(4, .int wy), (3, .int (nI d)), (2, .int dg), (0, .ref C), (1, .int (nI n))] []) : ∀ (z p : Nat) (cur : Nat → Int64), (13 = p + z ∨ (13 ≤ p ∧ z = 0)) → d ≤ p → (∀ q, q < 13 → (q < p → (q < d → cur q = f q) ∧ (d ≤ q → cur q = f q + cur (q - d))) ∧ (p ≤ q → cur q = f q)) → p < 100 → BX0_writeCyclotomic w0 Post (w.set (C + 3) (aL 13 cur)) 103 [(5, .int (nI p)), (4, .int wy), (3, .int (nI d)), (2, .int dg), (0, .ref C), (1, .int (nI n))] [] := by
  intro z
  induction z with
  | zero =>
    intro p cur hz hdp hI hp100
    have z0 : (0 : Int32).toInt = 0 := by decide
    refine g_iload (pc := 103) 1 dX0_writeCyclotomic_103 rfl ?_
    refine g_if_ge (pc := 105) 140 dX0_writeCyclotomic_105 (by decide) (fun h0 => ?_) (fun h0 => ?_)
    · rw [Int32.le_iff_toInt_le, z0] at h0
      exact absurd h0 (by omega)
    · refine g_iload (pc := 108) 0 dX0_writeCyclotomic_108 rfl ?_
      refine g_bipush (pc := 110) (v := nI 12) dX0_writeCyclotomic_110 (by decide) ?_
      refine n_icmp_gt (pc := 112) 140 dX0_writeCyclotomic_112 (by decide) (by omega) (by omega) (fun h1 => ?_) (fun h1 => ?_)
      · exact GP.lsub _ (by simp) (hx cur ⟨fun g => absurd g (by omega), fun _ q hq => ((hI q hq).1 (by omega)), fun g => absurd g (by omega)⟩)
      · exact absurd h1 (by omega)
  | succ z ih =>
    intro p cur hz hdp hI hp100
    have z0 : (0 : Int32).toInt = 0 := by decide
    refine g_iload (pc := 103) 1 dX0_writeCyclotomic_103 rfl ?_
    refine g_if_ge (pc := 105) 140 dX0_writeCyclotomic_105 (by decide) (fun h0 => ?_) (fun h0 => ?_)
    · rw [Int32.le_iff_toInt_le, z0] at h0
      exact absurd h0 (by omega)
    · refine g_iload (pc := 108) 0 dX0_writeCyclotomic_108 rfl ?_
      refine g_bipush (pc := 110) (v := nI 12) dX0_writeCyclotomic_110 (by decide) ?_
      refine n_icmp_gt (pc := 112) 140 dX0_writeCyclotomic_112 (by decide) (by omega) (by omega) (fun h1 => ?_) (fun h1 => ?_)
      · exact absurd h1 (by omega)
      · refine g_aload_n (pc := 115) 4 dX0_writeCyclotomic_115 rfl rfl ?_
        refine g_get (pc := 116) dX0_writeCyclotomic_116 fk_X0_21 (lk_ne (by omega) hC) rfl ?_
        refine g_iload (pc := 119) 0 dX0_writeCyclotomic_119 rfl ?_
        refine g_dup2 (pc := 121) dX0_writeCyclotomic_121 rfl rfl ?_
        refine g_lald (pc := 122) p dX0_writeCyclotomic_122 (lk_eq h3) (IXn (by omega) (by omega)) ?_
        refine g_aload_n (pc := 123) 4 dX0_writeCyclotomic_123 rfl rfl ?_
        refine g_get (pc := 124) dX0_writeCyclotomic_124 fk_X0_21 (lk_ne (by omega) hC) rfl ?_
        refine g_iload (pc := 127) 0 dX0_writeCyclotomic_127 rfl ?_
        refine g_iload_n (pc := 129) 2 dX0_writeCyclotomic_129 rfl rfl ?_
        refine n_isub (pc := 130) dX0_writeCyclotomic_130 (by omega) ?_
        refine g_lald (pc := 131) (p - d) dX0_writeCyclotomic_131 (lk_eq h3) (IXn (by omega) (by omega)) ?_
        refine g_ladd (pc := 132) dX0_writeCyclotomic_132 ?_
        refine g_last (pc := 133) p dX0_writeCyclotomic_133 (lk_eq h3) (IXn (by omega) (by omega)) ?_
        refine GP.weq (w.set (C + 3) (aL 13 (vp_updL cur p ((cur p) + (cur (p - d)))))) (by rw [List.set_set]) ?_
        refine n_iinc (pc := 134) (c := 1) [(5, .int (nI (p + 1))), (4, .int wy), (3, .int (nI d)), (2, .int dg), (0, .ref C), (1, .int (nI n))] 0 dX0_writeCyclotomic_134 rfl (by decide) (by decide) rfl ?_
        refine g_goto (pc := 137) 103 dX0_writeCyclotomic_137 (by decide) ?_
        refine GP.lsub _ (by simp) (ih (p + 1) _ (by omega) (by omega) (fun q hq => ⟨fun hqp => ⟨fun hqd => ?_, fun hqd => ?_⟩, fun hqp => ?_⟩) (by omega))
        · rw [upL_n (by omega)]
          exact ((hI q hq).1 (by omega)).1 hqd
        · by_cases e : q = p
          · rw [e, upL_s, upL_n (by omega), (hI p (by omega)).2 (Nat.le_refl _)]
          · rw [upL_n e, upL_n (by omega)]
            exact ((hI q hq).1 (by omega)).2 hqd
        · rw [upL_n (by omega)]
          exact (hI q hq).2 (by omega)
theorem wc_dn {w0 w : Wd} {Post : Option Value → Wd → Prop} {C tp n : Nat} {mk : Int64} {lf : Nat → Int64} (hC : w[C]? = some (oC (C + 1) (C + 2) (C + 3) (C + 4) (C + 5) tp mk)) (h3 : w[C + 3]? = some (aL 13 lf)) {d : Nat} {wy dg : Int32} {f : Nat → Int64} (hd : 1 ≤ d) (hd2 : d < 100) (hwy : 0 < wy.toInt) (hx : ∀ g, (∀ p, p < 13 → g p = if d ≤ p then f p - f (p - d) else f p) → BX0_writeCyclotomic w0 Post (w.set (C + 3) (aL 13 g)) 100 [(4, .int wy), (3, .int (nI d)), (2, .int dg), (0, .ref C), (1, .int (nI n))] []) : ∀ (c : Nat) (cur : Nat → Int64), c ≤ 12 → (d ≤ c + 1 ∨ c = 12) → (∀ q, q < 13 → cur q = if c < q ∧ d ≤ q then f q - f (q - d) else f q) → BX0_writeCyclotomic w0 Post (w.set (C + 3) (aL 13 cur)) 64 [(5, .int (nI c)), (4, .int wy), (3, .int (nI d)), (2, .int dg), (0, .ref C), (1, .int (nI n))] [] := by
  intro c
  induction c with
  | zero =>
    intro cur hc hcd hI
    have z0 : (0 : Int32).toInt = 0 := by decide
    refine g_iload (pc := 64) 1 dX0_writeCyclotomic_64 rfl ?_
    refine g_if_le (pc := 66) 100 dX0_writeCyclotomic_66 (by decide) (fun h0 => ?_) (fun h0 => ?_)
    · rw [Int32.le_iff_toInt_le, z0] at h0
      exact absurd h0 (by omega)
    · refine g_iload (pc := 69) 0 dX0_writeCyclotomic_69 rfl ?_
      refine g_iload_n (pc := 71) 2 dX0_writeCyclotomic_71 rfl rfl ?_
      refine n_icmp_lt (pc := 72) 100 dX0_writeCyclotomic_72 (by decide) (by omega) (by omega) (fun h1 => ?_) (fun h1 => ?_)
      · exact GP.lsub _ (by simp) (hx cur (fun q hq => by rw [hI q hq]; by_cases e : d ≤ q; · { rw [if_pos e, if_pos ⟨by omega, e⟩] }; · { rw [if_neg e, if_neg (fun g => e g.2)] }))
      · exact absurd h1 (by omega)
  | succ c ih =>
    intro cur hc hcd hI
    have z0 : (0 : Int32).toInt = 0 := by decide
    refine g_iload (pc := 64) 1 dX0_writeCyclotomic_64 rfl ?_
    refine g_if_le (pc := 66) 100 dX0_writeCyclotomic_66 (by decide) (fun h0 => ?_) (fun h0 => ?_)
    · rw [Int32.le_iff_toInt_le, z0] at h0
      exact absurd h0 (by omega)
    · refine g_iload (pc := 69) 0 dX0_writeCyclotomic_69 rfl ?_
      refine g_iload_n (pc := 71) 2 dX0_writeCyclotomic_71 rfl rfl ?_
      refine n_icmp_lt (pc := 72) 100 dX0_writeCyclotomic_72 (by decide) (by omega) (by omega) (fun h1 => ?_) (fun h1 => ?_)
      · exact GP.lsub _ (by simp) (hx cur (fun q hq => by rw [hI q hq]; by_cases e : d ≤ q; · { rw [if_pos e, if_pos ⟨by omega, e⟩] }; · { rw [if_neg e, if_neg (fun g => e g.2)] }))
      · refine g_aload_n (pc := 75) 4 dX0_writeCyclotomic_75 rfl rfl ?_
        refine g_get (pc := 76) dX0_writeCyclotomic_76 fk_X0_21 (lk_ne (by omega) hC) rfl ?_
        refine g_iload (pc := 79) 0 dX0_writeCyclotomic_79 rfl ?_
        refine g_dup2 (pc := 81) dX0_writeCyclotomic_81 rfl rfl ?_
        refine g_lald (pc := 82) (c + 1) dX0_writeCyclotomic_82 (lk_eq h3) (IXn (by omega) (by omega)) ?_
        refine g_aload_n (pc := 83) 4 dX0_writeCyclotomic_83 rfl rfl ?_
        refine g_get (pc := 84) dX0_writeCyclotomic_84 fk_X0_21 (lk_ne (by omega) hC) rfl ?_
        refine g_iload (pc := 87) 0 dX0_writeCyclotomic_87 rfl ?_
        refine g_iload_n (pc := 89) 2 dX0_writeCyclotomic_89 rfl rfl ?_
        refine n_isub (pc := 90) dX0_writeCyclotomic_90 (by omega) ?_
        refine g_lald (pc := 91) ((c + 1) - d) dX0_writeCyclotomic_91 (lk_eq h3) (IXn (by omega) (by omega)) ?_
        refine g_lsub (pc := 92) dX0_writeCyclotomic_92 ?_
        refine g_last (pc := 93) (c + 1) dX0_writeCyclotomic_93 (lk_eq h3) (IXn (by omega) (by omega)) ?_
        refine GP.weq (w.set (C + 3) (aL 13 (vp_updL cur (c + 1) ((cur (c + 1)) - (cur ((c + 1) - d)))))) (by rw [List.set_set]) ?_
        refine n_idec (pc := 94) (c := 1) [(5, .int (nI ((c + 1) - 1))), (4, .int wy), (3, .int (nI d)), (2, .int dg), (0, .ref C), (1, .int (nI n))] 0 dX0_writeCyclotomic_94 rfl (by decide) (by omega) (by decide) rfl ?_
        refine g_goto (pc := 97) 64 dX0_writeCyclotomic_97 (by decide) ?_
        refine GP.lsub _ (by simp) (ih _ (by omega) (by omega) (fun q hq => ?_))
        by_cases e : q = c + 1
        · rw [e, upL_s, hI (c + 1) (by omega), hI (c + 1 - d) (by omega), if_neg (fun g => by omega), if_neg (fun g => by omega), if_pos ⟨by omega, by omega⟩]
        · rw [upL_n e, hI q hq]
          by_cases e2 : c + 1 < q ∧ d ≤ q
          · rw [if_pos e2, if_pos ⟨by omega, e2.2⟩]
          · rw [if_neg e2, if_neg (fun g => by omega)]
