/-! the reference: turn -/
theorem trp_0 {F : Nat → Int} {n p : Nat} {g : Nat → Int64} {v : Int64} (h : ∀ j, j < 60 → (g j).toInt = trp 0 F n p j) (hp : p ≤ n) (hv : v.toInt = F p) : ∀ j, j < 60 → (vp_updL g (n - p) v j).toInt = trp 0 F n (p + 1) j := by
  intro j hj
  by_cases e : j = n - p
  · rw [e, upL_s, hv]
    show _ = if n - p ≤ n ∧ n - (n - p) < p + 1 then F (n - (n - p)) else 0
    rw [if_pos (by omega), show n - (n - p) = p by omega]
  · rw [upL_n e, h j hj]
    show (if j ≤ n ∧ n - j < p then F (n - j) else 0) = if j ≤ n ∧ n - j < p + 1 then F (n - j) else 0
    by_cases e2 : j ≤ n ∧ n - j < p
    · rw [if_pos e2, if_pos (by omega)]
    · rw [if_neg e2, if_neg (by omega)]
theorem trp_1 {F : Nat → Int} {n p : Nat} {g : Nat → Int64} {v : Int64} (h : ∀ j, j < 60 → (g j).toInt = trp 1 F n p j) (hp : p ≤ n) (hv : v.toInt = if p % 2 = 0 then F p else -F p) : ∀ j, j < 60 → (vp_updL g p v j).toInt = trp 1 F n (p + 1) j := by
  intro j hj
  by_cases e : j = p
  · rw [e, upL_s, hv]
    show _ = if p < p + 1 then (if p % 2 = 0 then F p else -F p) else 0
    rw [if_pos (show p < p + 1 by omega)]
  · rw [upL_n e, h j hj]
    show (if j < p then (if j % 2 = 0 then F j else -F j) else 0) = if j < p + 1 then (if j % 2 = 0 then F j else -F j) else 0
    by_cases e2 : j < p
    · rw [if_pos e2, if_pos (show j < p + 1 by omega)]
    · rw [if_neg e2, if_neg (show ¬ j < p + 1 by omega)]
theorem trp_2 {F : Nat → Int} {n p : Nat} {g : Nat → Int64} {v : Int64} (h : ∀ j, j < 60 → (g j).toInt = trp 2 F n p j) (hp : p ≤ n) (hv : v.toInt = F p) : ∀ j, j < 60 → (vp_updL g (2 * p) v j).toInt = trp 2 F n (p + 1) j := by
  intro j hj
  by_cases e : j = 2 * p
  · rw [e, upL_s, hv]
    show _ = if 2 * p % 2 = 0 ∧ 2 * p / 2 < p + 1 then F (2 * p / 2) else 0
    rw [if_pos (by omega), show 2 * p / 2 = p by omega]
  · rw [upL_n e, h j hj]
    show (if j % 2 = 0 ∧ j / 2 < p then F (j / 2) else 0) = if j % 2 = 0 ∧ j / 2 < p + 1 then F (j / 2) else 0
    by_cases e2 : j % 2 = 0 ∧ j / 2 < p
    · rw [if_pos e2, if_pos (by omega)]
    · rw [if_neg e2, if_neg (by omega)]
theorem trp_3 {F : Nat → Int} {n p : Nat} {g : Nat → Int64} {v : Int64} (h : ∀ j, j < 60 → (g j).toInt = trp 3 F n p j) (hp : p ≤ n) (hv : v.toInt = -F p) : ∀ j, j < 60 → (vp_updL g p v j).toInt = trp 3 F n (p + 1) j := by
  intro j hj
  by_cases e : j = p
  · rw [e, upL_s, hv]
    show _ = if p < p + 1 then -F p else 0
    rw [if_pos (show p < p + 1 by omega)]
  · rw [upL_n e, h j hj]
    show (if j < p then -F j else 0) = if j < p + 1 then -F j else 0
    by_cases e2 : j < p
    · rw [if_pos e2, if_pos (show j < p + 1 by omega)]
    · rw [if_neg e2, if_neg (show ¬ j < p + 1 by omega)]
theorem trp_4 {F : Nat → Int} {n p : Nat} {g : Nat → Int64} {v : Int64} (h : ∀ j, j < 60 → (g j).toInt = trp 4 F n p j) (hp : p ≤ n) (h0 : 0 < p) (hv : v.toInt = (p : Int) * F p) : ∀ j, j < 60 → (vp_updL g (p - 1) v j).toInt = trp 4 F n (p + 1) j := by
  intro j hj
  by_cases e : j = p - 1
  · rw [e, upL_s, hv]
    show _ = if p - 1 + 1 < p + 1 then ((p - 1 + 1 : Nat) : Int) * F (p - 1 + 1) else 0
    rw [show p - 1 + 1 = p by omega, if_pos (by omega)]
  · rw [upL_n e, h j hj]
    show (if j + 1 < p then ((j + 1 : Nat) : Int) * F (j + 1) else 0) = if j + 1 < p + 1 then ((j + 1 : Nat) : Int) * F (j + 1) else 0
    by_cases e2 : j + 1 < p
    · rw [if_pos e2, if_pos (by omega)]
    · rw [if_neg e2, if_neg (by omega)]
theorem trp_40 {F : Nat → Int} {n : Nat} {g : Nat → Int64} (h : ∀ j, j < 60 → (g j).toInt = trp 4 F n 0 j) : ∀ j, j < 60 → (g j).toInt = trp 4 F n (0 + 1) j := by
  intro j hj
  rw [h j hj]
  show (if j + 1 < 0 then ((j + 1 : Nat) : Int) * F (j + 1) else 0) = if j + 1 < 0 + 1 then ((j + 1 : Nat) : Int) * F (j + 1) else 0
  rw [if_neg (by omega), if_neg (by omega)]
theorem trp_z {F : Nat → Int} {n h j : Nat} (hh : h < 5) : trp h F n 0 j = 0 := by
  have : h = 0 ∨ h = 1 ∨ h = 2 ∨ h = 3 ∨ h = 4 := by omega
  rcases this with rfl | rfl | rfl | rfl | rfl
  · exact if_neg (by omega)
  · show (if j < 0 then (if j % 2 = 0 then F j else -F j) else 0) = 0
    exact if_neg (Nat.not_lt_zero _)
  · exact if_neg (by omega)
  · show (if j < 0 then -F j else 0) = 0
    exact if_neg (Nat.not_lt_zero _)
  · show (if j + 1 < 0 then ((j + 1 : Nat) : Int) * F (j + 1) else 0) = 0
    exact if_neg (Nat.not_lt_zero _)
theorem trp_hi {F : Nat → Int} {n h j : Nat} (hn : n ≤ 12) (hh : h < 5) (hj : 25 ≤ j) : trp h F n (n + 1) j = 0 := by
  have : h = 0 ∨ h = 1 ∨ h = 2 ∨ h = 3 ∨ h = 4 := by omega
  rcases this with rfl | rfl | rfl | rfl | rfl
  · exact if_neg (by omega)
  · exact if_neg (by omega)
  · exact if_neg (by omega)
  · exact if_neg (by omega)
  · exact if_neg (by omega)
abbrev BX12_turn (w0 : Wd) (Post : Option Value → Wd → Prop) (w : Wd) (pc : Nat) (ls : List (Nat × Value)) (st : List Value) : Prop := GP "turn" RX12 cX12_turn 7 (some .int) 3 117 none w0 Post w pc ls st
abbrev EX12_turn (As : List Value) (w : Wd) (Post : Option Value → Wd → Prop) : Prop := EP yX12_turn cX12_turn 7 (some .int) 3 As w Post
theorem tu_0 {w0 w : Wd} {Y : Nat} {th st nu dg dd ld be ib ta fa re ig : Int32} {g2 : Nat → Int32} {h7 : Nat → Int64} {V : SV} {i k : Nat} (hY : w[Y]? = some (oM Y th st nu dg dd ld be ib ta fa re ig)) (a2 : w[Y + 2]? = some (aI 0 626 g2)) (a7 : w[Y + 7]? = some (aL 60 h7)) (hV : rowR g2 V) (hi : i < 8) {Q : Option Value → Wd → Prop} (K : ∀ g : Nat → Int64, (∀ j, j < 60 → (g j).toInt = trp 0 (V.1 i).2 (V.1 i).1 ((V.1 i).1 + 1) j) → BX12_turn w0 Q (w.set (Y + 7) (aL 60 g)) 271 [(4, .int (nI ((V.1 i).1))), (3, .int (nI k)), (2, .int (nI i)), (1, .int (nI 0)), (0, .ref Y)] []) : ∀ (z p : Nat) (g : Nat → Int64), (V.1 i).1 + 1 = p + z → (∀ j, j < 60 → (g j).toInt = trp 0 (V.1 i).2 (V.1 i).1 p j) → BX12_turn w0 Q (w.set (Y + 7) (aL 60 g)) 123 [(5, .int (nI p)), (4, .int (nI ((V.1 i).1))), (3, .int (nI k)), (2, .int (nI i)), (1, .int (nI 0)), (0, .ref Y)] [] := by
  have hn := ok_12 hV hi
  intro z
  induction z with
  | zero =>
    intro p g hz hg
    refine g_iload (pc := 123) 0 dX12_turn_123 rfl ?_
    refine g_iload (pc := 125) 1 dX12_turn_125 rfl ?_
    refine n_icmp_gt (pc := 127) 271 dX12_turn_127 (by decide) (by omega) (by omega) (fun hb9 => ?_) (fun hb9 => ?_)
    · refine GP.lsub _ (by simp) (K g ?_)
      rw [show (V.1 i).1 + 1 = p by omega]
      exact hg
    · exact absurd hb9 (by omega)
  | succ z ih =>
    intro p g hz hg
    refine g_iload (pc := 123) 0 dX12_turn_123 rfl ?_
    refine g_iload (pc := 125) 1 dX12_turn_125 rfl ?_
    refine n_icmp_gt (pc := 127) 271 dX12_turn_127 (by decide) (by omega) (by omega) (fun hb9 => ?_) (fun hb9 => ?_)
    · exact absurd hb9 (by omega)
    · have hs := pl_sum hV hi (show p < 13 by omega)
      refine g_aload_n (pc := 130) 5 dX12_turn_130 rfl rfl ?_
      refine g_iload_n (pc := 131) 3 dX12_turn_131 rfl rfl ?_
      refine g_iload (pc := 132) 0 dX12_turn_132 rfl ?_
      refine g_callV (pc := 134) [.int (nI i), .int (nI p)] dX12_turn_134 cv_X12_122.1 cv_X12_122.2.1 cv_X12_122.2.2.1 cv_X12_122.2.2.2 (lk_ne (show (Y + 7) ≠ Y by omega) hY) rfl rfl (Nat.le_of_ble_eq_true rfl) (by decide) (by decide) (mp_at _ (lk_ne (show (Y + 7) ≠ Y by omega) hY) (lk_ne (show (Y + 7) ≠ (Y + 2) by omega) a2) hi (show p < 13 by omega)) ?_
      rintro _ w9 ⟨rfl, e9⟩
      refine GP.weq _ e9 ?_
      refine g_istore (pc := 137) [(6, .int (g2 (14 * i + 1 + p))), (5, .int (nI p)), (4, .int (nI ((V.1 i).1))), (3, .int (nI k)), (2, .int (nI i)), (1, .int (nI 0)), (0, .ref Y)] dX12_turn_137 (by decide) rfl ?_
      refine g_iload_n (pc := 139) 5 dX12_turn_139 rfl rfl ?_
      refine g_tabIn (pc := 140) (off := 32) 172 dX12_turn_140 (by decide) (by decide) (by decide) (by decide) ?_
      refine g_aload_n (pc := 172) 6 dX12_turn_172 rfl rfl ?_
      refine g_get (pc := 173) dX12_turn_173 fk_X12_29 (lk_ne (show (Y + 7) ≠ Y by omega) hY) rfl ?_
      refine g_iload (pc := 176) 2 dX12_turn_176 rfl ?_
      refine g_iload (pc := 178) 1 dX12_turn_178 rfl ?_
      refine n_isub (pc := 180) dX12_turn_180 (by omega) ?_
      refine g_iload (pc := 181) 0 dX12_turn_181 rfl ?_
      refine g_i2l (pc := 183) dX12_turn_183 ?_
      refine g_last (pc := 184) (((V.1 i).1) - p) dX12_turn_184 (lk_eq a7) (IXn (by omega) (by omega)) ?_
      refine GP.weq (w.set (Y + 7) (aL 60 (vp_updL g (((V.1 i).1) - p) ((g2 (14 * i + 1 + p)).toInt64)))) (by rw [List.set_set]) ?_
      refine g_goto (pc := 185) 265 dX12_turn_185 (by decide) ?_
      refine n_iinc (pc := 265) (c := 1) [(5, .int (nI (p + 1))), (6, .int (g2 (14 * i + 1 + p))), (4, .int (nI ((V.1 i).1))), (3, .int (nI k)), (2, .int (nI i)), (1, .int (nI 0)), (0, .ref Y)] 1 dX12_turn_265 rfl (by decide) (by decide) rfl ?_
      refine g_goto (pc := 268) 123 dX12_turn_268 (by decide) ?_
      exact GP.lsub _ (by simp) (ih (p + 1) _ (by omega) (trp_0 hg (by omega) (by rw [IL]; exact hs.1)))
theorem tu_1 {w0 w : Wd} {Y : Nat} {th st nu dg dd ld be ib ta fa re ig : Int32} {g2 : Nat → Int32} {h7 : Nat → Int64} {V : SV} {i k : Nat} (hY : w[Y]? = some (oM Y th st nu dg dd ld be ib ta fa re ig)) (a2 : w[Y + 2]? = some (aI 0 626 g2)) (a7 : w[Y + 7]? = some (aL 60 h7)) (hV : rowR g2 V) (hi : i < 8) {Q : Option Value → Wd → Prop} (K : ∀ g : Nat → Int64, (∀ j, j < 60 → (g j).toInt = trp 1 (V.1 i).2 (V.1 i).1 ((V.1 i).1 + 1) j) → BX12_turn w0 Q (w.set (Y + 7) (aL 60 g)) 271 [(4, .int (nI ((V.1 i).1))), (3, .int (nI k)), (2, .int (nI i)), (1, .int (nI 1)), (0, .ref Y)] []) : ∀ (z p : Nat) (g : Nat → Int64), (V.1 i).1 + 1 = p + z → (∀ j, j < 60 → (g j).toInt = trp 1 (V.1 i).2 (V.1 i).1 p j) → BX12_turn w0 Q (w.set (Y + 7) (aL 60 g)) 123 [(5, .int (nI p)), (4, .int (nI ((V.1 i).1))), (3, .int (nI k)), (2, .int (nI i)), (1, .int (nI 1)), (0, .ref Y)] [] := by
  have hn := ok_12 hV hi
  intro z
  induction z with
  | zero =>
    intro p g hz hg
    refine g_iload (pc := 123) 0 dX12_turn_123 rfl ?_
    refine g_iload (pc := 125) 1 dX12_turn_125 rfl ?_
    refine n_icmp_gt (pc := 127) 271 dX12_turn_127 (by decide) (by omega) (by omega) (fun hb9 => ?_) (fun hb9 => ?_)
    · refine GP.lsub _ (by simp) (K g ?_)
      rw [show (V.1 i).1 + 1 = p by omega]
      exact hg
    · exact absurd hb9 (by omega)
  | succ z ih =>
    intro p g hz hg
    refine g_iload (pc := 123) 0 dX12_turn_123 rfl ?_
    refine g_iload (pc := 125) 1 dX12_turn_125 rfl ?_
    refine n_icmp_gt (pc := 127) 271 dX12_turn_127 (by decide) (by omega) (by omega) (fun hb9 => ?_) (fun hb9 => ?_)
    · exact absurd hb9 (by omega)
    · have hs := pl_sum hV hi (show p < 13 by omega)
      refine g_aload_n (pc := 130) 5 dX12_turn_130 rfl rfl ?_
      refine g_iload_n (pc := 131) 3 dX12_turn_131 rfl rfl ?_
      refine g_iload (pc := 132) 0 dX12_turn_132 rfl ?_
      refine g_callV (pc := 134) [.int (nI i), .int (nI p)] dX12_turn_134 cv_X12_122.1 cv_X12_122.2.1 cv_X12_122.2.2.1 cv_X12_122.2.2.2 (lk_ne (show (Y + 7) ≠ Y by omega) hY) rfl rfl (Nat.le_of_ble_eq_true rfl) (by decide) (by decide) (mp_at _ (lk_ne (show (Y + 7) ≠ Y by omega) hY) (lk_ne (show (Y + 7) ≠ (Y + 2) by omega) a2) hi (show p < 13 by omega)) ?_
      rintro _ w9 ⟨rfl, e9⟩
      refine GP.weq _ e9 ?_
      refine g_istore (pc := 137) [(6, .int (g2 (14 * i + 1 + p))), (5, .int (nI p)), (4, .int (nI ((V.1 i).1))), (3, .int (nI k)), (2, .int (nI i)), (1, .int (nI 1)), (0, .ref Y)] dX12_turn_137 (by decide) rfl ?_
      refine g_iload_n (pc := 139) 5 dX12_turn_139 rfl rfl ?_
      refine g_tabIn (pc := 140) (off := 48) 188 dX12_turn_140 (by decide) (by decide) (by decide) (by decide) ?_
      refine g_aload_n (pc := 188) 6 dX12_turn_188 rfl rfl ?_
      refine g_get (pc := 189) dX12_turn_189 fk_X12_29 (lk_ne (show (Y + 7) ≠ Y by omega) hY) rfl ?_
      refine g_iload (pc := 192) 1 dX12_turn_192 rfl ?_
      refine g_iload (pc := 194) 1 dX12_turn_194 rfl ?_
      refine g_iconst (pc := 196) (v := nI 2) dX12_turn_196 (by decide) ?_
      refine n_irem (pc := 197) dX12_turn_197 (by omega) (by omega) (by omega) ?_
      refine n_if_ne (pc := 198) 207 dX12_turn_198 (by decide) (by omega) (fun hm => ?_) (fun hm => ?_)
      · refine g_iload (pc := 207) 0 dX12_turn_207 rfl ?_
        refine g_ineg (pc := 209) dX12_turn_209 ?_
        refine g_i2l (pc := 210) dX12_turn_210 ?_
        refine g_last (pc := 211) p dX12_turn_211 (lk_eq a7) (IXn (by omega) (by omega)) ?_
        refine GP.weq (w.set (Y + 7) (aL 60 (vp_updL g p ((-(g2 (14 * i + 1 + p))).toInt64)))) (by rw [List.set_set]) ?_
        refine g_goto (pc := 212) 265 dX12_turn_212 (by decide) ?_
        refine n_iinc (pc := 265) (c := 1) [(5, .int (nI (p + 1))), (6, .int (g2 (14 * i + 1 + p))), (4, .int (nI ((V.1 i).1))), (3, .int (nI k)), (2, .int (nI i)), (1, .int (nI 1)), (0, .ref Y)] 1 dX12_turn_265 rfl (by decide) (by decide) rfl ?_
        refine g_goto (pc := 268) 123 dX12_turn_268 (by decide) ?_
        exact GP.lsub _ (by simp) (ih (p + 1) _ (by omega) (trp_1 hg (by omega) (by rw [IL, I_neg (by omega), hs.1, if_neg (by omega)])))
      · refine g_iload (pc := 201) 0 dX12_turn_201 rfl ?_
        refine g_i2l (pc := 203) dX12_turn_203 ?_
        refine g_goto (pc := 204) 211 dX12_turn_204 (by decide) ?_
        refine g_last (pc := 211) p dX12_turn_211 (lk_eq a7) (IXn (by omega) (by omega)) ?_
        refine GP.weq (w.set (Y + 7) (aL 60 (vp_updL g p ((g2 (14 * i + 1 + p)).toInt64)))) (by rw [List.set_set]) ?_
        refine g_goto (pc := 212) 265 dX12_turn_212 (by decide) ?_
        refine n_iinc (pc := 265) (c := 1) [(5, .int (nI (p + 1))), (6, .int (g2 (14 * i + 1 + p))), (4, .int (nI ((V.1 i).1))), (3, .int (nI k)), (2, .int (nI i)), (1, .int (nI 1)), (0, .ref Y)] 1 dX12_turn_265 rfl (by decide) (by decide) rfl ?_
        refine g_goto (pc := 268) 123 dX12_turn_268 (by decide) ?_
        exact GP.lsub _ (by simp) (ih (p + 1) _ (by omega) (trp_1 hg (by omega) (by rw [IL, hs.1, if_pos (by omega)])))
theorem tu_2 {w0 w : Wd} {Y : Nat} {th st nu dg dd ld be ib ta fa re ig : Int32} {g2 : Nat → Int32} {h7 : Nat → Int64} {V : SV} {i k : Nat} (hY : w[Y]? = some (oM Y th st nu dg dd ld be ib ta fa re ig)) (a2 : w[Y + 2]? = some (aI 0 626 g2)) (a7 : w[Y + 7]? = some (aL 60 h7)) (hV : rowR g2 V) (hi : i < 8) {Q : Option Value → Wd → Prop} (K : ∀ g : Nat → Int64, (∀ j, j < 60 → (g j).toInt = trp 2 (V.1 i).2 (V.1 i).1 ((V.1 i).1 + 1) j) → BX12_turn w0 Q (w.set (Y + 7) (aL 60 g)) 271 [(4, .int (nI ((V.1 i).1))), (3, .int (nI k)), (2, .int (nI i)), (1, .int (nI 2)), (0, .ref Y)] []) : ∀ (z p : Nat) (g : Nat → Int64), (V.1 i).1 + 1 = p + z → (∀ j, j < 60 → (g j).toInt = trp 2 (V.1 i).2 (V.1 i).1 p j) → BX12_turn w0 Q (w.set (Y + 7) (aL 60 g)) 123 [(5, .int (nI p)), (4, .int (nI ((V.1 i).1))), (3, .int (nI k)), (2, .int (nI i)), (1, .int (nI 2)), (0, .ref Y)] [] := by
  have hn := ok_12 hV hi
  intro z
  induction z with
  | zero =>
    intro p g hz hg
    refine g_iload (pc := 123) 0 dX12_turn_123 rfl ?_
    refine g_iload (pc := 125) 1 dX12_turn_125 rfl ?_
    refine n_icmp_gt (pc := 127) 271 dX12_turn_127 (by decide) (by omega) (by omega) (fun hb9 => ?_) (fun hb9 => ?_)
    · refine GP.lsub _ (by simp) (K g ?_)
      rw [show (V.1 i).1 + 1 = p by omega]
      exact hg
    · exact absurd hb9 (by omega)
  | succ z ih =>
    intro p g hz hg
    refine g_iload (pc := 123) 0 dX12_turn_123 rfl ?_
    refine g_iload (pc := 125) 1 dX12_turn_125 rfl ?_
    refine n_icmp_gt (pc := 127) 271 dX12_turn_127 (by decide) (by omega) (by omega) (fun hb9 => ?_) (fun hb9 => ?_)
    · exact absurd hb9 (by omega)
    · have hs := pl_sum hV hi (show p < 13 by omega)
      refine g_aload_n (pc := 130) 5 dX12_turn_130 rfl rfl ?_
      refine g_iload_n (pc := 131) 3 dX12_turn_131 rfl rfl ?_
      refine g_iload (pc := 132) 0 dX12_turn_132 rfl ?_
      refine g_callV (pc := 134) [.int (nI i), .int (nI p)] dX12_turn_134 cv_X12_122.1 cv_X12_122.2.1 cv_X12_122.2.2.1 cv_X12_122.2.2.2 (lk_ne (show (Y + 7) ≠ Y by omega) hY) rfl rfl (Nat.le_of_ble_eq_true rfl) (by decide) (by decide) (mp_at _ (lk_ne (show (Y + 7) ≠ Y by omega) hY) (lk_ne (show (Y + 7) ≠ (Y + 2) by omega) a2) hi (show p < 13 by omega)) ?_
      rintro _ w9 ⟨rfl, e9⟩
      refine GP.weq _ e9 ?_
      refine g_istore (pc := 137) [(6, .int (g2 (14 * i + 1 + p))), (5, .int (nI p)), (4, .int (nI ((V.1 i).1))), (3, .int (nI k)), (2, .int (nI i)), (1, .int (nI 2)), (0, .ref Y)] dX12_turn_137 (by decide) rfl ?_
      refine g_iload_n (pc := 139) 5 dX12_turn_139 rfl rfl ?_
      refine g_tabIn (pc := 140) (off := 75) 215 dX12_turn_140 (by decide) (by decide) (by decide) (by decide) ?_
      refine g_aload_n (pc := 215) 6 dX12_turn_215 rfl rfl ?_
      refine g_get (pc := 216) dX12_turn_216 fk_X12_29 (lk_ne (show (Y + 7) ≠ Y by omega) hY) rfl ?_
      refine g_iconst (pc := 219) (v := nI 2) dX12_turn_219 (by decide) ?_
      refine g_iload (pc := 220) 1 dX12_turn_220 rfl ?_
      refine n_imul (pc := 222) dX12_turn_222 ?_
      refine g_iload (pc := 223) 0 dX12_turn_223 rfl ?_
      refine g_i2l (pc := 225) dX12_turn_225 ?_
      refine g_last (pc := 226) (2 * p) dX12_turn_226 (lk_eq a7) (IXn (by omega) (by omega)) ?_
      refine GP.weq (w.set (Y + 7) (aL 60 (vp_updL g (2 * p) ((g2 (14 * i + 1 + p)).toInt64)))) (by rw [List.set_set]) ?_
      refine g_goto (pc := 227) 265 dX12_turn_227 (by decide) ?_
      refine n_iinc (pc := 265) (c := 1) [(5, .int (nI (p + 1))), (6, .int (g2 (14 * i + 1 + p))), (4, .int (nI ((V.1 i).1))), (3, .int (nI k)), (2, .int (nI i)), (1, .int (nI 2)), (0, .ref Y)] 1 dX12_turn_265 rfl (by decide) (by decide) rfl ?_
      refine g_goto (pc := 268) 123 dX12_turn_268 (by decide) ?_
      exact GP.lsub _ (by simp) (ih (p + 1) _ (by omega) (trp_2 hg (by omega) (by rw [IL]; exact hs.1)))
theorem tu_3 {w0 w : Wd} {Y : Nat} {th st nu dg dd ld be ib ta fa re ig : Int32} {g2 : Nat → Int32} {h7 : Nat → Int64} {V : SV} {i k : Nat} (hY : w[Y]? = some (oM Y th st nu dg dd ld be ib ta fa re ig)) (a2 : w[Y + 2]? = some (aI 0 626 g2)) (a7 : w[Y + 7]? = some (aL 60 h7)) (hV : rowR g2 V) (hi : i < 8) {Q : Option Value → Wd → Prop} (K : ∀ g : Nat → Int64, (∀ j, j < 60 → (g j).toInt = trp 3 (V.1 i).2 (V.1 i).1 ((V.1 i).1 + 1) j) → BX12_turn w0 Q (w.set (Y + 7) (aL 60 g)) 271 [(4, .int (nI ((V.1 i).1))), (3, .int (nI k)), (2, .int (nI i)), (1, .int (nI 3)), (0, .ref Y)] []) : ∀ (z p : Nat) (g : Nat → Int64), (V.1 i).1 + 1 = p + z → (∀ j, j < 60 → (g j).toInt = trp 3 (V.1 i).2 (V.1 i).1 p j) → BX12_turn w0 Q (w.set (Y + 7) (aL 60 g)) 123 [(5, .int (nI p)), (4, .int (nI ((V.1 i).1))), (3, .int (nI k)), (2, .int (nI i)), (1, .int (nI 3)), (0, .ref Y)] [] := by
  have hn := ok_12 hV hi
  intro z
  induction z with
  | zero =>
    intro p g hz hg
    refine g_iload (pc := 123) 0 dX12_turn_123 rfl ?_
    refine g_iload (pc := 125) 1 dX12_turn_125 rfl ?_
    refine n_icmp_gt (pc := 127) 271 dX12_turn_127 (by decide) (by omega) (by omega) (fun hb9 => ?_) (fun hb9 => ?_)
    · refine GP.lsub _ (by simp) (K g ?_)
      rw [show (V.1 i).1 + 1 = p by omega]
      exact hg
    · exact absurd hb9 (by omega)
  | succ z ih =>
    intro p g hz hg
    refine g_iload (pc := 123) 0 dX12_turn_123 rfl ?_
    refine g_iload (pc := 125) 1 dX12_turn_125 rfl ?_
    refine n_icmp_gt (pc := 127) 271 dX12_turn_127 (by decide) (by omega) (by omega) (fun hb9 => ?_) (fun hb9 => ?_)
    · exact absurd hb9 (by omega)
    · have hs := pl_sum hV hi (show p < 13 by omega)
      refine g_aload_n (pc := 130) 5 dX12_turn_130 rfl rfl ?_
      refine g_iload_n (pc := 131) 3 dX12_turn_131 rfl rfl ?_
      refine g_iload (pc := 132) 0 dX12_turn_132 rfl ?_
      refine g_callV (pc := 134) [.int (nI i), .int (nI p)] dX12_turn_134 cv_X12_122.1 cv_X12_122.2.1 cv_X12_122.2.2.1 cv_X12_122.2.2.2 (lk_ne (show (Y + 7) ≠ Y by omega) hY) rfl rfl (Nat.le_of_ble_eq_true rfl) (by decide) (by decide) (mp_at _ (lk_ne (show (Y + 7) ≠ Y by omega) hY) (lk_ne (show (Y + 7) ≠ (Y + 2) by omega) a2) hi (show p < 13 by omega)) ?_
      rintro _ w9 ⟨rfl, e9⟩
      refine GP.weq _ e9 ?_
      refine g_istore (pc := 137) [(6, .int (g2 (14 * i + 1 + p))), (5, .int (nI p)), (4, .int (nI ((V.1 i).1))), (3, .int (nI k)), (2, .int (nI i)), (1, .int (nI 3)), (0, .ref Y)] dX12_turn_137 (by decide) rfl ?_
      refine g_iload_n (pc := 139) 5 dX12_turn_139 rfl rfl ?_
      refine g_tabIn (pc := 140) (off := 90) 230 dX12_turn_140 (by decide) (by decide) (by decide) (by decide) ?_
      refine g_aload_n (pc := 230) 6 dX12_turn_230 rfl rfl ?_
      refine g_get (pc := 231) dX12_turn_231 fk_X12_29 (lk_ne (show (Y + 7) ≠ Y by omega) hY) rfl ?_
      refine g_iload (pc := 234) 1 dX12_turn_234 rfl ?_
      refine g_iload (pc := 236) 0 dX12_turn_236 rfl ?_
      refine g_ineg (pc := 238) dX12_turn_238 ?_
      refine g_i2l (pc := 239) dX12_turn_239 ?_
      refine g_last (pc := 240) p dX12_turn_240 (lk_eq a7) (IXn (by omega) (by omega)) ?_
      refine GP.weq (w.set (Y + 7) (aL 60 (vp_updL g p ((-(g2 (14 * i + 1 + p))).toInt64)))) (by rw [List.set_set]) ?_
      refine g_goto (pc := 241) 265 dX12_turn_241 (by decide) ?_
      refine n_iinc (pc := 265) (c := 1) [(5, .int (nI (p + 1))), (6, .int (g2 (14 * i + 1 + p))), (4, .int (nI ((V.1 i).1))), (3, .int (nI k)), (2, .int (nI i)), (1, .int (nI 3)), (0, .ref Y)] 1 dX12_turn_265 rfl (by decide) (by decide) rfl ?_
      refine g_goto (pc := 268) 123 dX12_turn_268 (by decide) ?_
      exact GP.lsub _ (by simp) (ih (p + 1) _ (by omega) (trp_3 hg (by omega) (by rw [IL, I_neg (by omega), hs.1])))
theorem sm_lim {p v : Int} (h0 : 0 ≤ p) (h1 : p ≤ 12) (h2 : -9999 ≤ v) (h3 : v ≤ 9999) : p * v ≤ 200000 ∧ -200000 ≤ p * v := by
  have : p = 0 ∨ p = 1 ∨ p = 2 ∨ p = 3 ∨ p = 4 ∨ p = 5 ∨ p = 6 ∨ p = 7 ∨ p = 8 ∨ p = 9 ∨ p = 10 ∨ p = 11 ∨ p = 12 := by omega
  rcases this with rfl | rfl | rfl | rfl | rfl | rfl | rfl | rfl | rfl | rfl | rfl | rfl | rfl <;> omega
theorem tu_4 {w0 w : Wd} {Y : Nat} {th st nu dg dd ld be ib ta fa re ig : Int32} {g2 : Nat → Int32} {h7 : Nat → Int64} {V : SV} {i k : Nat} (hY : w[Y]? = some (oM Y th st nu dg dd ld be ib ta fa re ig)) (a2 : w[Y + 2]? = some (aI 0 626 g2)) (a7 : w[Y + 7]? = some (aL 60 h7)) (hV : rowR g2 V) (hi : i < 8) {Q : Option Value → Wd → Prop} (K : ∀ g : Nat → Int64, (∀ j, j < 60 → (g j).toInt = trp 4 (V.1 i).2 (V.1 i).1 ((V.1 i).1 + 1) j) → BX12_turn w0 Q (w.set (Y + 7) (aL 60 g)) 271 [(4, .int (nI ((V.1 i).1))), (3, .int (nI k)), (2, .int (nI i)), (1, .int (nI 4)), (0, .ref Y)] []) : ∀ (z p : Nat) (g : Nat → Int64), (V.1 i).1 + 1 = p + z → (∀ j, j < 60 → (g j).toInt = trp 4 (V.1 i).2 (V.1 i).1 p j) → BX12_turn w0 Q (w.set (Y + 7) (aL 60 g)) 123 [(5, .int (nI p)), (4, .int (nI ((V.1 i).1))), (3, .int (nI k)), (2, .int (nI i)), (1, .int (nI 4)), (0, .ref Y)] [] := by
  have hn := ok_12 hV hi
  intro z
  induction z with
  | zero =>
    intro p g hz hg
    refine g_iload (pc := 123) 0 dX12_turn_123 rfl ?_
    refine g_iload (pc := 125) 1 dX12_turn_125 rfl ?_
    refine n_icmp_gt (pc := 127) 271 dX12_turn_127 (by decide) (by omega) (by omega) (fun hb9 => ?_) (fun hb9 => ?_)
    · refine GP.lsub _ (by simp) (K g ?_)
      rw [show (V.1 i).1 + 1 = p by omega]
      exact hg
    · exact absurd hb9 (by omega)
  | succ z ih =>
    intro p g hz hg
    refine g_iload (pc := 123) 0 dX12_turn_123 rfl ?_
    refine g_iload (pc := 125) 1 dX12_turn_125 rfl ?_
    refine n_icmp_gt (pc := 127) 271 dX12_turn_127 (by decide) (by omega) (by omega) (fun hb9 => ?_) (fun hb9 => ?_)
    · exact absurd hb9 (by omega)
    · have hs := pl_sum hV hi (show p < 13 by omega)
      refine g_aload_n (pc := 130) 5 dX12_turn_130 rfl rfl ?_
      refine g_iload_n (pc := 131) 3 dX12_turn_131 rfl rfl ?_
      refine g_iload (pc := 132) 0 dX12_turn_132 rfl ?_
      refine g_callV (pc := 134) [.int (nI i), .int (nI p)] dX12_turn_134 cv_X12_122.1 cv_X12_122.2.1 cv_X12_122.2.2.1 cv_X12_122.2.2.2 (lk_ne (show (Y + 7) ≠ Y by omega) hY) rfl rfl (Nat.le_of_ble_eq_true rfl) (by decide) (by decide) (mp_at _ (lk_ne (show (Y + 7) ≠ Y by omega) hY) (lk_ne (show (Y + 7) ≠ (Y + 2) by omega) a2) hi (show p < 13 by omega)) ?_
      rintro _ w9 ⟨rfl, e9⟩
      refine GP.weq _ e9 ?_
      refine g_istore (pc := 137) [(6, .int (g2 (14 * i + 1 + p))), (5, .int (nI p)), (4, .int (nI ((V.1 i).1))), (3, .int (nI k)), (2, .int (nI i)), (1, .int (nI 4)), (0, .ref Y)] dX12_turn_137 (by decide) rfl ?_
      refine g_iload_n (pc := 139) 5 dX12_turn_139 rfl rfl ?_
      refine g_tabOut (pc := 140) 244 dX12_turn_140 (by decide) (by decide) ?_
      refine g_iload (pc := 244) 1 dX12_turn_244 rfl ?_
      refine n_if_le (pc := 246) 265 dX12_turn_246 (by decide) (by omega) (fun hm => ?_) (fun hm => ?_)
      · have e0 : p = 0 := by omega
        subst e0
        refine n_iinc (pc := 265) (c := 1) [(5, .int (nI (0 + 1))), (6, .int (g2 (14 * i + 1 + 0))), (4, .int (nI ((V.1 i).1))), (3, .int (nI k)), (2, .int (nI i)), (1, .int (nI 4)), (0, .ref Y)] 1 dX12_turn_265 rfl (by decide) (by decide) rfl ?_
        refine g_goto (pc := 268) 123 dX12_turn_268 (by decide) ?_
        exact GP.lsub _ (by simp) (ih (0 + 1) _ (by omega) (trp_40 hg))
      · have hpi : (nI p).toInt = p := nI_toInt (by omega)
        have hb1 : (p : Int) * (V.1 i).2 p ≤ 200000 ∧ -200000 ≤ (p : Int) * (V.1 i).2 p := sm_lim (by omega) (by omega) hs.2.1 hs.2.2
        refine g_aload_n (pc := 249) 6 dX12_turn_249 rfl rfl ?_
        refine g_get (pc := 250) dX12_turn_250 fk_X12_29 (lk_ne (show (Y + 7) ≠ Y by omega) hY) rfl ?_
        refine g_iload (pc := 253) 1 dX12_turn_253 rfl ?_
        refine g_iconst (pc := 255) (v := nI 1) dX12_turn_255 (by decide) ?_
        refine n_isub (pc := 256) dX12_turn_256 (by omega) ?_
        refine g_iload (pc := 257) 0 dX12_turn_257 rfl ?_
        refine g_i2l (pc := 259) dX12_turn_259 ?_
        refine g_iload (pc := 260) 1 dX12_turn_260 rfl ?_
        refine g_i2l (pc := 262) dX12_turn_262 ?_
        refine g_lmul (pc := 263) dX12_turn_263 ?_
        refine g_last (pc := 264) (p - 1) dX12_turn_264 (lk_eq a7) (IXn (by omega) (by omega)) ?_
        refine GP.weq (w.set (Y + 7) (aL 60 (vp_updL g (p - 1) (((g2 (14 * i + 1 + p)).toInt64) * ((nI p).toInt64))))) (by rw [List.set_set]) ?_
        refine n_iinc (pc := 265) (c := 1) [(5, .int (nI (p + 1))), (6, .int (g2 (14 * i + 1 + p))), (4, .int (nI ((V.1 i).1))), (3, .int (nI k)), (2, .int (nI i)), (1, .int (nI 4)), (0, .ref Y)] 1 dX12_turn_265 rfl (by decide) (by decide) rfl ?_
        refine g_goto (pc := 268) 123 dX12_turn_268 (by decide) ?_
        exact GP.lsub _ (by simp) (ih (p + 1) _ (by omega) (trp_4 hg (by omega) (by omega) (by rw [L_mul (by rw [IL, IL, hs.1, hpi, Int.mul_comm]; omega) (by rw [IL, IL, hs.1, hpi, Int.mul_comm]; omega), IL, IL, hs.1, hpi, Int.mul_comm])))
theorem tu_5 {w0 w : Wd} {Y : Nat} {th st nu dg dd ld ib ta fa re ig : Int32} {l h7 : Nat → Int64} {n k i T : Nat} (hY : w[Y]? = some (oM Y th st nu dg dd ld (nI T) ib ta fa re ig)) (a7 : w[Y + 7]? = some (aL 60 h7)) (a12 : w[Y + 12]? = some (aL 91 l)) (hn : n ≤ 12) (hT : 0 < T) (hT6 : T ≤ 6) {Q : Option Value → Wd → Prop} (K : ∀ g : Nat → Int64, (∀ j, j < 60 → g j = if j < n + 1 then l (13 + j) else 0) → BX12_turn w0 Q (w.set (Y + 7) (aL 60 g)) 109 [(4, .int (nI n)), (3, .int (nI k)), (2, .int (nI i)), (1, .int (nI 5)), (0, .ref Y)] []) : ∀ (z p : Nat) (g : Nat → Int64), n + 1 = p + z → (∀ j, j < 60 → g j = if j < p then l (13 + j) else 0) → BX12_turn w0 Q (w.set (Y + 7) (aL 60 g)) 72 [(5, .int (nI p)), (4, .int (nI n)), (3, .int (nI k)), (2, .int (nI i)), (1, .int (nI 5)), (0, .ref Y)] [] := by
  intro z
  induction z with
  | zero =>
    intro p g hz hg
    refine g_iload (pc := 72) 0 dX12_turn_72 rfl ?_
    refine g_iload (pc := 74) 1 dX12_turn_74 rfl ?_
    refine n_icmp_gt (pc := 76) 109 dX12_turn_76 (by decide) (by omega) (by omega) (fun hb9 => ?_) (fun hb9 => ?_)
    · refine GP.lsub _ (by simp) (K g ?_)
      rw [show n + 1 = p by omega]
      exact hg
    · exact absurd hb9 (by omega)
  | succ z ih =>
    intro p g hz hg
    refine g_iload (pc := 72) 0 dX12_turn_72 rfl ?_
    refine g_iload (pc := 74) 1 dX12_turn_74 rfl ?_
    refine n_icmp_gt (pc := 76) 109 dX12_turn_76 (by decide) (by omega) (by omega) (fun hb9 => ?_) (fun hb9 => ?_)
    · exact absurd hb9 (by omega)
    · refine g_aload_n (pc := 79) 5 dX12_turn_79 rfl rfl ?_
      refine g_get (pc := 80) dX12_turn_80 fk_X12_196 (lk_ne (show (Y + 7) ≠ Y by omega) hY) rfl ?_
      refine n_if_le (pc := 83) 109 dX12_turn_83 (by decide) (by omega) (fun hc9 => ?_) (fun hc9 => ?_)
      · exact absurd hc9 (by omega)
      · refine g_aload_n (pc := 86) 5 dX12_turn_86 rfl rfl ?_
        refine g_get (pc := 87) dX12_turn_87 fk_X12_29 (lk_ne (show (Y + 7) ≠ Y by omega) hY) rfl ?_
        refine g_iload (pc := 90) 0 dX12_turn_90 rfl ?_
        refine g_aload_n (pc := 92) 5 dX12_turn_92 rfl rfl ?_
        refine g_get (pc := 93) dX12_turn_93 fk_X12_45 (lk_ne (show (Y + 7) ≠ Y by omega) hY) rfl ?_
        refine g_bipush (pc := 96) (v := nI 13) dX12_turn_96 (by decide) ?_
        refine g_iload (pc := 98) 0 dX12_turn_98 rfl ?_
        refine n_iadd (pc := 100) dX12_turn_100 ?_
        refine g_lald (pc := 101) (13 + p) dX12_turn_101 (lk_ne (show (Y + 7) ≠ (Y + 12) by omega) a12) (IXn (by omega) (by omega)) ?_
        refine g_last (pc := 102) p dX12_turn_102 (lk_eq a7) (IXn (by omega) (by omega)) ?_
        refine GP.weq (w.set (Y + 7) (aL 60 (vp_updL g p (l (13 + p))))) (by rw [List.set_set]) ?_
        refine n_iinc (pc := 103) (c := 1) [(5, .int (nI (p + 1))), (4, .int (nI n)), (3, .int (nI k)), (2, .int (nI i)), (1, .int (nI 5)), (0, .ref Y)] 0 dX12_turn_103 rfl (by decide) (by decide) rfl ?_
        refine g_goto (pc := 106) 72 dX12_turn_106 (by decide) ?_
        refine GP.lsub _ (by simp) (ih (p + 1) _ (by omega) (fun j hj => ?_))
        by_cases e : j = p
        · rw [e, upL_s, if_pos (show p < p + 1 by omega)]
        · rw [upL_n e, hg j hj]
          by_cases e2 : j < p
          · rw [if_pos e2, if_pos (show j < p + 1 by omega)]
          · rw [if_neg e2, if_neg (show ¬ j < p + 1 by omega)]
theorem tu_h {F : Nat → Int} {n T j : Nat} {l g : Nat → Int64} (hl : lvM l F n T) (hT : 0 < T) (hn : n ≤ 12) (hg : ∀ j, j < 60 → g j = if j < n + 1 then l (13 + j) else 0) (hj : j < 60) : (g j).toInt = if j ≤ n then gco F n j else 0 := by
  rw [hg j hj]
  by_cases e : j ≤ n
  · rw [if_pos (by omega), if_pos e]
    have h9 := hl 1 hT j (by omega)
    rw [if_pos e, show 13 * 1 + j = 13 + j by omega] at h9
    exact h9
  · rw [if_neg (by omega), if_neg e]
    rfl
theorem mq_turn (w : Wd) {Y tl : Nat} {tb : Nat → Int32} {fa st : Int32} {rf : Nat → Nat} {sh : SV} {pn : Nat} {pk : Nat → Nat} {ps : Nat → SV} {im : Nat → Option SV} (hM : mdC w Y tl tb fa st rf sh pn pk ps im) {x y z : Int32} : EX12_turn [.ref Y, .int x, .int y, .int z] w (fun r w' => (¬ (0 ≤ x.toInt ∧ x.toInt ≤ 5) ∧ rfM (-1) 0 w Y tl tb fa rf sh pn pk ps im r w') ∨ (∃ h, x = nI h ∧ h < 6 ∧ ¬ (isPl y ∧ isPl z) ∧ rfM (-2) 1 w Y tl tb fa rf sh pn pk ps im r w') ∨ (∃ h i k, x = nI h ∧ h < 5 ∧ y = nI i ∧ i < 8 ∧ z = nI k ∧ k < 8 ∧ putM (trp h (sh.1 i).2 (sh.1 i).1 ((sh.1 i).1 + 1)) 4 k w Y tl tb fa rf sh pn pk ps im r w') ∨ (∃ i k, x = nI 5 ∧ y = nI i ∧ i < 8 ∧ z = nI k ∧ k < 8 ∧ ¬ sqd (sh.1 i).2 (sh.1 i).1 ∧ rfM (-5) 3 w Y tl tb fa rf sh pn pk ps im r w') ∨ (∃ i k, x = nI 5 ∧ y = nI i ∧ i < 8 ∧ z = nI k ∧ k < 8 ∧ sqd (sh.1 i).2 (sh.1 i).1 ∧ putM (fun t => if t ≤ (sh.1 i).1 then gco (sh.1 i).2 (sh.1 i).1 t else 0) 4 k w Y tl tb fa rf sh pn pk ps im r w')) := by
  refine EP.of (plainFor_of_name (by decide)) [(0, .ref Y), (1, .int x), (2, .int y), (3, .int z)] rfl (Nat.le_of_ble_eq_true rfl) (fun r wf h => by rcases h with ⟨-, rfl, -⟩ | ⟨h, -, -, -, rfl, -⟩ | ⟨h, i, k, -, -, -, -, -, -, h⟩ | ⟨i, k, -, -, -, -, -, -, rfl, -⟩ | ⟨i, k, -, -, -, -, -, -, h⟩; trivial; trivial; obtain ⟨v, rfl⟩ := putM_int h; trivial; trivial; obtain ⟨v, rfl⟩ := putM_int h; trivial) ?_
  show BX12_turn w _ w 0 [(0, .ref Y), (1, .int x), (2, .int y), (3, .int z)] []
  obtain ⟨⟨th, dg, dd, ld, be, ib, re, ig, hY⟩, ⟨⟨g1, a1, b1⟩, ⟨g2, a2, b2⟩, ⟨g3, g4, a3, a4, b3, b4⟩, ⟨g5, g6, a5, a6, b5⟩, ⟨g11, a11, b11⟩, ⟨g17, a17, b17⟩⟩, ⟨g7, g8, g9, g10, g12, g13, g14, g18, g19, g20, g21, a7, a8, a9, a10, a12, a13, a14, a18, a19, a20, a21⟩, ⟨g15, g16, a15, a16, b15⟩⟩ := id hM
  refine g_aload_n (pc := 0) 0 dX12_turn_0 rfl rfl ?_
  refine g_iconst (pc := 1) (v := nI 0) dX12_turn_1 (by decide) ?_
  refine g_put (pc := 2) (.int (nI 0) :: .int st :: .ref (Y + 1) :: .ref (Y + 2) :: .ref (Y + 3) :: .ref (Y + 4) :: .int (nI pn) :: .ref (Y + 5) :: .ref (Y + 6) :: .ref (Y + 7) :: .int dg :: .ref (Y + 8) :: .int dd :: .ref (Y + 9) :: .ref (Y + 10) :: .ref (Y + 11) :: .ref (Y + 12) :: .int ld :: .int be :: .int ib :: .ref (Y + 13) :: .ref (Y + 14) :: .ref (Y + 15) :: .ref (Y + 16) :: .ref (Y + 17) :: .int (nI tl) :: .int fa :: .int re :: .int ig :: .ref (Y + 18) :: .ref (Y + 19) :: .ref (Y + 20) :: .ref (Y + 21) :: []) dX12_turn_2 fk_X12_83 hY (Nat.le_of_ble_eq_true rfl) rfl rfl ?_
  refine g_iload_n (pc := 5) 1 dX12_turn_5 rfl rfl ?_
  refine g_i2l (pc := 6) dX12_turn_6 ?_
  refine g_lconst (pc := 7) (v := 0) dX12_turn_7 (by decide) ?_
  refine g_ldc2 (pc := 8) kc_X12_301 dX12_turn_8 ?_
  refine g_callS (pc := 11) [.long x.toInt64, .long 0, .long (5)] dX12_turn_11 cs_X12_103.1 cs_X12_103.2 rfl rfl (Nat.le_of_ble_eq_true rfl) (by decide) (by decide) (mp_in _) ?_
  rintro _ w9 (⟨rfl, hx, e9⟩ | ⟨rfl, hx, e9⟩)
  · refine GP.weq _ e9 ?_
    rw [IL, show (5 : Int64).toInt = 5 from by decide, L00] at hx
    obtain ⟨hw, rfl, hh6⟩ : ∃ h, x = nI h ∧ h < 6 := ⟨x.toInt.toNat, nI_toNat hx.1, by omega⟩
    refine n_if_ne (pc := 14) 23 dX12_turn_14 (by decide) (by omega) (fun hd9 => ?_) (fun hd9 => ?_)
    · refine g_iload_n (pc := 23) 2 dX12_turn_23 rfl rfl ?_
      refine g_callS (pc := 24) [.int y] dX12_turn_24 cs_X12_277.1 cs_X12_277.2 rfl rfl (Nat.le_of_ble_eq_true rfl) (by decide) (by decide) (mp_isStore _) ?_
      rintro _ w9 (⟨rfl, hpi, e9⟩ | ⟨rfl, hpi, e9⟩)
      · refine GP.weq _ e9 ?_
        obtain ⟨i, rfl, hi⟩ := pl_of hpi
        refine n_if_eq (pc := 27) 37 dX12_turn_27 (by decide) (by omega) (fun hd9 => ?_) (fun hd9 => ?_)
        · exact absurd hd9 (by decide)
        · refine g_iload_n (pc := 30) 3 dX12_turn_30 rfl rfl ?_
          refine g_callS (pc := 31) [.int z] dX12_turn_31 cs_X12_277.1 cs_X12_277.2 rfl rfl (Nat.le_of_ble_eq_true rfl) (by decide) (by decide) (mp_isStore _) ?_
          rintro _ w9 (⟨rfl, hpk, e9⟩ | ⟨rfl, hpk, e9⟩)
          · refine GP.weq _ e9 ?_
            obtain ⟨k, rfl, hk⟩ := pl_of hpk
            refine n_if_ne (pc := 34) 44 dX12_turn_34 (by decide) (by omega) (fun hd9 => ?_) (fun hd9 => ?_)
            · refine g_aload_n (pc := 44) 0 dX12_turn_44 rfl rfl ?_
              refine g_iload_n (pc := 45) 2 dX12_turn_45 rfl rfl ?_
              refine g_callV (pc := 46) [.int (nI i)] dX12_turn_46 cv_X12_119.1 cv_X12_119.2.1 cv_X12_119.2.2.1 cv_X12_119.2.2.2 (lk_eq hY) rfl rfl (Nat.le_of_ble_eq_true rfl) (by decide) (by decide) (mp_degreeOf _ (lk_eq hY) (lk_ne (show Y ≠ (Y + 2) by omega) a2) hi) ?_
              rintro _ w9 ⟨rfl, e9⟩
              refine GP.weq _ e9 ?_
              refine GP.ti (nI (sh.1 i).1) (row_dg b2 i hi) ?_
              have hn := ok_12 b2 hi
              refine g_istore (pc := 49) [(4, .int (nI ((sh.1 i).1))), (0, .ref Y), (1, .int (nI hw)), (2, .int (nI i)), (3, .int (nI k))] dX12_turn_49 (by decide) rfl ?_
              refine g_aload_n (pc := 51) 1 dX12_turn_51 rfl rfl ?_
              refine g_iload_n (pc := 52) 3 dX12_turn_52 rfl rfl ?_
              refine g_callV (pc := 53) [.int (nI i)] dX12_turn_53 cv_X12_295.1 cv_X12_295.2.1 cv_X12_295.2.2.1 cv_X12_295.2.2.2 (lk_eq hY) rfl rfl (Nat.le_of_ble_eq_true rfl) (by decide) (by decide) (mp_take _ (lk_eq hY) (lk_ne (show Y ≠ (Y + 2) by omega) a2) (lk_ne (show Y ≠ (Y + 7) by omega) a7) b2 hi) ?_
              rintro _ w9 ⟨rfl, h, hh, e9⟩
              refine GP.weq _ e9 ?_
              refine GP.weq ((w.set Y (.inr (11, .int (nI 0) :: .int st :: .ref (Y + 1) :: .ref (Y + 2) :: .ref (Y + 3) :: .ref (Y + 4) :: .int (nI pn) :: .ref (Y + 5) :: .ref (Y + 6) :: .ref (Y + 7) :: .int (nI ((sh.1 i).1)) :: .ref (Y + 8) :: .int dd :: .ref (Y + 9) :: .ref (Y + 10) :: .ref (Y + 11) :: .ref (Y + 12) :: .int ld :: .int be :: .int ib :: .ref (Y + 13) :: .ref (Y + 14) :: .ref (Y + 15) :: .ref (Y + 16) :: .ref (Y + 17) :: .int (nI tl) :: .int fa :: .int re :: .int ig :: .ref (Y + 18) :: .ref (Y + 19) :: .ref (Y + 20) :: .ref (Y + 21) :: []))).set (Y + 7) (aL 60 h)) (by rw [show (((w.set Y (.inr (11, .int (nI 0) :: .int st :: .ref (Y + 1) :: .ref (Y + 2) :: .ref (Y + 3) :: .ref (Y + 4) :: .int (nI pn) :: .ref (Y + 5) :: .ref (Y + 6) :: .ref (Y + 7) :: .int dg :: .ref (Y + 8) :: .int dd :: .ref (Y + 9) :: .ref (Y + 10) :: .ref (Y + 11) :: .ref (Y + 12) :: .int ld :: .int be :: .int ib :: .ref (Y + 13) :: .ref (Y + 14) :: .ref (Y + 15) :: .ref (Y + 16) :: .ref (Y + 17) :: .int (nI tl) :: .int fa :: .int re :: .int ig :: .ref (Y + 18) :: .ref (Y + 19) :: .ref (Y + 20) :: .ref (Y + 21) :: []))).set (Y + 7) (aL 60 h)).set Y (.inr (11, .int (nI 0) :: .int st :: .ref (Y + 1) :: .ref (Y + 2) :: .ref (Y + 3) :: .ref (Y + 4) :: .int (nI pn) :: .ref (Y + 5) :: .ref (Y + 6) :: .ref (Y + 7) :: .int (nI ((sh.1 i).1)) :: .ref (Y + 8) :: .int dd :: .ref (Y + 9) :: .ref (Y + 10) :: .ref (Y + 11) :: .ref (Y + 12) :: .int ld :: .int be :: .int ib :: .ref (Y + 13) :: .ref (Y + 14) :: .ref (Y + 15) :: .ref (Y + 16) :: .ref (Y + 17) :: .int (nI tl) :: .int fa :: .int re :: .int ig :: .ref (Y + 18) :: .ref (Y + 19) :: .ref (Y + 20) :: .ref (Y + 21) :: []))) = ((w.set Y (.inr (11, .int (nI 0) :: .int st :: .ref (Y + 1) :: .ref (Y + 2) :: .ref (Y + 3) :: .ref (Y + 4) :: .int (nI pn) :: .ref (Y + 5) :: .ref (Y + 6) :: .ref (Y + 7) :: .int (nI ((sh.1 i).1)) :: .ref (Y + 8) :: .int dd :: .ref (Y + 9) :: .ref (Y + 10) :: .ref (Y + 11) :: .ref (Y + 12) :: .int ld :: .int be :: .int ib :: .ref (Y + 13) :: .ref (Y + 14) :: .ref (Y + 15) :: .ref (Y + 16) :: .ref (Y + 17) :: .int (nI tl) :: .int fa :: .int re :: .int ig :: .ref (Y + 18) :: .ref (Y + 19) :: .ref (Y + 20) :: .ref (Y + 21) :: []))).set (Y + 7) (aL 60 h)) from by rw [List.set_comm _ _ (show (Y + 7) ≠ Y by omega), List.set_set]]) ?_
              refine g_iload_n (pc := 56) 2 dX12_turn_56 rfl rfl ?_
              refine g_iconst (pc := 57) (v := nI 5) dX12_turn_57 (by decide) ?_
              refine n_icmp_ne (pc := 58) 116 dX12_turn_58 (by decide) (by omega) (by omega) (fun h5 => ?_) (fun h5 => ?_)
              · refine g_aload_n (pc := 116) 1 dX12_turn_116 rfl rfl ?_
                refine g_callV (pc := 117) [] dX12_turn_117 cv_X12_116.1 cv_X12_116.2.1 cv_X12_116.2.2.1 cv_X12_116.2.2.2 (lk_ne (show (Y + 7) ≠ Y by omega) (lk_eq hY)) rfl rfl (Nat.le_of_ble_eq_true rfl) (by decide) (by decide) (mp_empty _ (lk_ne (show (Y + 7) ≠ Y by omega) (lk_eq hY)) (lk_eq (lk_ne (show Y ≠ (Y + 7) by omega) a7))) ?_
                rintro _ w9 ⟨rfl, e9⟩
                refine GP.weq _ e9 ?_
                refine GP.weq ((w.set Y (.inr (11, .int (nI 0) :: .int st :: .ref (Y + 1) :: .ref (Y + 2) :: .ref (Y + 3) :: .ref (Y + 4) :: .int (nI pn) :: .ref (Y + 5) :: .ref (Y + 6) :: .ref (Y + 7) :: .int (-1) :: .ref (Y + 8) :: .int dd :: .ref (Y + 9) :: .ref (Y + 10) :: .ref (Y + 11) :: .ref (Y + 12) :: .int ld :: .int be :: .int ib :: .ref (Y + 13) :: .ref (Y + 14) :: .ref (Y + 15) :: .ref (Y + 16) :: .ref (Y + 17) :: .int (nI tl) :: .int fa :: .int re :: .int ig :: .ref (Y + 18) :: .ref (Y + 19) :: .ref (Y + 20) :: .ref (Y + 21) :: []))).set (Y + 7) (aL 60 (zrF h 60))) (by rw [show (((w.set Y (.inr (11, .int (nI 0) :: .int st :: .ref (Y + 1) :: .ref (Y + 2) :: .ref (Y + 3) :: .ref (Y + 4) :: .int (nI pn) :: .ref (Y + 5) :: .ref (Y + 6) :: .ref (Y + 7) :: .int (nI ((sh.1 i).1)) :: .ref (Y + 8) :: .int dd :: .ref (Y + 9) :: .ref (Y + 10) :: .ref (Y + 11) :: .ref (Y + 12) :: .int ld :: .int be :: .int ib :: .ref (Y + 13) :: .ref (Y + 14) :: .ref (Y + 15) :: .ref (Y + 16) :: .ref (Y + 17) :: .int (nI tl) :: .int fa :: .int re :: .int ig :: .ref (Y + 18) :: .ref (Y + 19) :: .ref (Y + 20) :: .ref (Y + 21) :: []))).set (Y + 7) (aL 60 h)).set (Y + 7) (aL 60 (zrF h 60))) = ((w.set Y (.inr (11, .int (nI 0) :: .int st :: .ref (Y + 1) :: .ref (Y + 2) :: .ref (Y + 3) :: .ref (Y + 4) :: .int (nI pn) :: .ref (Y + 5) :: .ref (Y + 6) :: .ref (Y + 7) :: .int (nI ((sh.1 i).1)) :: .ref (Y + 8) :: .int dd :: .ref (Y + 9) :: .ref (Y + 10) :: .ref (Y + 11) :: .ref (Y + 12) :: .int ld :: .int be :: .int ib :: .ref (Y + 13) :: .ref (Y + 14) :: .ref (Y + 15) :: .ref (Y + 16) :: .ref (Y + 17) :: .int (nI tl) :: .int fa :: .int re :: .int ig :: .ref (Y + 18) :: .ref (Y + 19) :: .ref (Y + 20) :: .ref (Y + 21) :: []))).set (Y + 7) (aL 60 (zrF h 60))) from by rw [List.set_set], show (((w.set Y (.inr (11, .int (nI 0) :: .int st :: .ref (Y + 1) :: .ref (Y + 2) :: .ref (Y + 3) :: .ref (Y + 4) :: .int (nI pn) :: .ref (Y + 5) :: .ref (Y + 6) :: .ref (Y + 7) :: .int (nI ((sh.1 i).1)) :: .ref (Y + 8) :: .int dd :: .ref (Y + 9) :: .ref (Y + 10) :: .ref (Y + 11) :: .ref (Y + 12) :: .int ld :: .int be :: .int ib :: .ref (Y + 13) :: .ref (Y + 14) :: .ref (Y + 15) :: .ref (Y + 16) :: .ref (Y + 17) :: .int (nI tl) :: .int fa :: .int re :: .int ig :: .ref (Y + 18) :: .ref (Y + 19) :: .ref (Y + 20) :: .ref (Y + 21) :: []))).set (Y + 7) (aL 60 (zrF h 60))).set Y (.inr (11, .int (nI 0) :: .int st :: .ref (Y + 1) :: .ref (Y + 2) :: .ref (Y + 3) :: .ref (Y + 4) :: .int (nI pn) :: .ref (Y + 5) :: .ref (Y + 6) :: .ref (Y + 7) :: .int (-1) :: .ref (Y + 8) :: .int dd :: .ref (Y + 9) :: .ref (Y + 10) :: .ref (Y + 11) :: .ref (Y + 12) :: .int ld :: .int be :: .int ib :: .ref (Y + 13) :: .ref (Y + 14) :: .ref (Y + 15) :: .ref (Y + 16) :: .ref (Y + 17) :: .int (nI tl) :: .int fa :: .int re :: .int ig :: .ref (Y + 18) :: .ref (Y + 19) :: .ref (Y + 20) :: .ref (Y + 21) :: []))) = ((w.set Y (.inr (11, .int (nI 0) :: .int st :: .ref (Y + 1) :: .ref (Y + 2) :: .ref (Y + 3) :: .ref (Y + 4) :: .int (nI pn) :: .ref (Y + 5) :: .ref (Y + 6) :: .ref (Y + 7) :: .int (-1) :: .ref (Y + 8) :: .int dd :: .ref (Y + 9) :: .ref (Y + 10) :: .ref (Y + 11) :: .ref (Y + 12) :: .int ld :: .int be :: .int ib :: .ref (Y + 13) :: .ref (Y + 14) :: .ref (Y + 15) :: .ref (Y + 16) :: .ref (Y + 17) :: .int (nI tl) :: .int fa :: .int re :: .int ig :: .ref (Y + 18) :: .ref (Y + 19) :: .ref (Y + 20) :: .ref (Y + 21) :: []))).set (Y + 7) (aL 60 (zrF h 60))) from by rw [List.set_comm _ _ (show (Y + 7) ≠ Y by omega), List.set_set]]) ?_
                obtain ⟨w1, ew1⟩ : ∃ wy : Wd, wy = ((w.set Y (.inr (11, .int (nI 0) :: .int st :: .ref (Y + 1) :: .ref (Y + 2) :: .ref (Y + 3) :: .ref (Y + 4) :: .int (nI pn) :: .ref (Y + 5) :: .ref (Y + 6) :: .ref (Y + 7) :: .int (-1) :: .ref (Y + 8) :: .int dd :: .ref (Y + 9) :: .ref (Y + 10) :: .ref (Y + 11) :: .ref (Y + 12) :: .int ld :: .int be :: .int ib :: .ref (Y + 13) :: .ref (Y + 14) :: .ref (Y + 15) :: .ref (Y + 16) :: .ref (Y + 17) :: .int (nI tl) :: .int fa :: .int re :: .int ig :: .ref (Y + 18) :: .ref (Y + 19) :: .ref (Y + 20) :: .ref (Y + 21) :: []))).set (Y + 7) (aL 60 (zrF h 60))) := ⟨_, rfl⟩
                refine GP.weq w1 ew1.symm ?_
                have hM1 : mdC w1 Y tl tb fa st rf sh pn pk ps im := by rw [ew1]; exact ⟨⟨_, _, _, _, _, _, _, _, (lk_ne (show (Y + 7) ≠ Y by omega) (lk_eq hY))⟩, ⟨⟨_, (lk_ne (show (Y + 7) ≠ (Y + 1) by omega) (lk_ne (show Y ≠ (Y + 1) by omega) a1)), b1⟩, ⟨_, (lk_ne (show (Y + 7) ≠ (Y + 2) by omega) (lk_ne (show Y ≠ (Y + 2) by omega) a2)), b2⟩, ⟨_, _, (lk_ne (show (Y + 7) ≠ (Y + 3) by omega) (lk_ne (show Y ≠ (Y + 3) by omega) a3)), (lk_ne (show (Y + 7) ≠ (Y + 4) by omega) (lk_ne (show Y ≠ (Y + 4) by omega) a4)), b3, b4⟩, ⟨_, _, (lk_ne (show (Y + 7) ≠ (Y + 5) by omega) (lk_ne (show Y ≠ (Y + 5) by omega) a5)), (lk_ne (show (Y + 7) ≠ (Y + 6) by omega) (lk_ne (show Y ≠ (Y + 6) by omega) a6)), b5⟩, ⟨_, (lk_ne (show (Y + 7) ≠ (Y + 11) by omega) (lk_ne (show Y ≠ (Y + 11) by omega) a11)), b11⟩, ⟨_, (lk_ne (show (Y + 7) ≠ (Y + 17) by omega) (lk_ne (show Y ≠ (Y + 17) by omega) a17)), b17⟩⟩, ⟨_, _, _, _, _, _, _, _, _, _, _, (lk_eq (lk_ne (show Y ≠ (Y + 7) by omega) a7)), (lk_ne (show (Y + 7) ≠ (Y + 8) by omega) (lk_ne (show Y ≠ (Y + 8) by omega) a8)), (lk_ne (show (Y + 7) ≠ (Y + 9) by omega) (lk_ne (show Y ≠ (Y + 9) by omega) a9)), (lk_ne (show (Y + 7) ≠ (Y + 10) by omega) (lk_ne (show Y ≠ (Y + 10) by omega) a10)), (lk_ne (show (Y + 7) ≠ (Y + 12) by omega) (lk_ne (show Y ≠ (Y + 12) by omega) a12)), (lk_ne (show (Y + 7) ≠ (Y + 13) by omega) (lk_ne (show Y ≠ (Y + 13) by omega) a13)), (lk_ne (show (Y + 7) ≠ (Y + 14) by omega) (lk_ne (show Y ≠ (Y + 14) by omega) a14)), (lk_ne (show (Y + 7) ≠ (Y + 18) by omega) (lk_ne (show Y ≠ (Y + 18) by omega) a18)), (lk_ne (show (Y + 7) ≠ (Y + 19) by omega) (lk_ne (show Y ≠ (Y + 19) by omega) a19)), (lk_ne (show (Y + 7) ≠ (Y + 20) by omega) (lk_ne (show Y ≠ (Y + 20) by omega) a20)), (lk_ne (show (Y + 7) ≠ (Y + 21) by omega) (lk_ne (show Y ≠ (Y + 21) by omega) a21))⟩, ⟨_, _, (lk_ne (show (Y + 7) ≠ (Y + 15) by omega) (lk_ne (show Y ≠ (Y + 15) by omega) a15)), (lk_ne (show (Y + 7) ≠ (Y + 16) by omega) (lk_ne (show Y ≠ (Y + 16) by omega) a16)), b15⟩⟩
                have hF1 : FR (modS Y) w w1 := by rw [ew1]; exact (FR.st (c' := aL 60 (zrF h 60)) (FR.st (c' := .inr (11, .int (nI 0) :: .int st :: .ref (Y + 1) :: .ref (Y + 2) :: .ref (Y + 3) :: .ref (Y + 4) :: .int (nI pn) :: .ref (Y + 5) :: .ref (Y + 6) :: .ref (Y + 7) :: .int (-1) :: .ref (Y + 8) :: .int dd :: .ref (Y + 9) :: .ref (Y + 10) :: .ref (Y + 11) :: .ref (Y + 12) :: .int ld :: .int be :: .int ib :: .ref (Y + 13) :: .ref (Y + 14) :: .ref (Y + 15) :: .ref (Y + 16) :: .ref (Y + 17) :: .int (nI tl) :: .int fa :: .int re :: .int ig :: .ref (Y + 18) :: .ref (Y + 19) :: .ref (Y + 20) :: .ref (Y + 21) :: [])) FR.rf hY rfl (by unfold modS; omega)) (lk_ne (show Y ≠ (Y + 7) by omega) a7) rfl (by unfold modS; omega))
                have c71 : w1[Y + 7]? = some (aL 60 (zrF h 60)) := by rw [ew1]; exact (lk_eq (lk_ne (show Y ≠ (Y + 7) by omega) a7))
                have cY1 : w1[Y]? = some (.inr (11, .int (nI 0) :: .int st :: .ref (Y + 1) :: .ref (Y + 2) :: .ref (Y + 3) :: .ref (Y + 4) :: .int (nI pn) :: .ref (Y + 5) :: .ref (Y + 6) :: .ref (Y + 7) :: .int (-1) :: .ref (Y + 8) :: .int dd :: .ref (Y + 9) :: .ref (Y + 10) :: .ref (Y + 11) :: .ref (Y + 12) :: .int ld :: .int be :: .int ib :: .ref (Y + 13) :: .ref (Y + 14) :: .ref (Y + 15) :: .ref (Y + 16) :: .ref (Y + 17) :: .int (nI tl) :: .int fa :: .int re :: .int ig :: .ref (Y + 18) :: .ref (Y + 19) :: .ref (Y + 20) :: .ref (Y + 21) :: [])) := by rw [ew1]; exact (lk_ne (show (Y + 7) ≠ Y by omega) (lk_eq hY))
                obtain ⟨⟨th1, dg1, dd1, ld1, be1, ib1, re1, ig1, hY1⟩, ⟨⟨g11, a11, b11⟩, ⟨g21, a21, b21⟩, ⟨g31, g41, a31, a41, b31, b41⟩, ⟨g51, g61, a51, a61, b51⟩, ⟨g111, a111, b111⟩, ⟨g171, a171, b171⟩⟩, ⟨g71, g81, g91, g101, g121, g131, g141, g181, g191, g201, g211, a71, a81, a91, a101, a121, a131, a141, a181, a191, a201, a211⟩, ⟨g151, g161, a151, a161, b151⟩⟩ := id hM1
                refine g_iconst (pc := 120) (v := nI 0) dX12_turn_120 (by decide) ?_
                refine g_istore (pc := 121) [(5, .int (nI 0)), (4, .int (nI ((sh.1 i).1))), (0, .ref Y), (1, .int (nI hw)), (2, .int (nI i)), (3, .int (nI k))] dX12_turn_121 (by decide) rfl ?_
                have h012 : hw = 0 ∨ hw = 1 ∨ hw = 2 ∨ hw = 3 ∨ hw = 4 := by omega
                rcases h012 with rfl | rfl | rfl | rfl | rfl
                · ·
                    refine GP.weq (w1.set (Y + 7) (aL 60 (zrF h 60))) (set_same c71).symm ?_
                    refine GP.lsub _ (by simp) (tu_0 (k := k) cY1 a21 c71 b21 hi (fun gg hg => ?_) ((sh.1 i).1 + 1) 0 _ (Nat.zero_add _).symm (fun j hj => by rw [zrF_t hj, trp_z (by omega)]; rfl))
                    refine g_aload_n (pc := 271) 4 dX12_turn_271 rfl rfl ?_
                    refine g_iload_n (pc := 272) 1 dX12_turn_272 rfl rfl ?_
                    refine g_iconst (pc := 273) (v := nI 4) dX12_turn_273 (by decide) ?_
                    obtain ⟨wp, ewp⟩ : ∃ wy : Wd, wy = (w1.set (Y + 7) (aL 60 gg)) := ⟨_, rfl⟩
                    refine GP.weq wp ewp.symm ?_
                    have hMp : mdC wp Y tl tb fa st rf sh pn pk ps im := by rw [ewp]; exact ⟨⟨_, _, _, _, _, _, _, _, (lk_ne (show (Y + 7) ≠ Y by omega) cY1)⟩, ⟨⟨_, (lk_ne (show (Y + 7) ≠ (Y + 1) by omega) a11), b11⟩, ⟨_, (lk_ne (show (Y + 7) ≠ (Y + 2) by omega) a21), b21⟩, ⟨_, _, (lk_ne (show (Y + 7) ≠ (Y + 3) by omega) a31), (lk_ne (show (Y + 7) ≠ (Y + 4) by omega) a41), b31, b41⟩, ⟨_, _, (lk_ne (show (Y + 7) ≠ (Y + 5) by omega) a51), (lk_ne (show (Y + 7) ≠ (Y + 6) by omega) a61), b51⟩, ⟨_, (lk_ne (show (Y + 7) ≠ (Y + 11) by omega) a111), b111⟩, ⟨_, (lk_ne (show (Y + 7) ≠ (Y + 17) by omega) a171), b171⟩⟩, ⟨_, _, _, _, _, _, _, _, _, _, _, (lk_eq c71), (lk_ne (show (Y + 7) ≠ (Y + 8) by omega) a81), (lk_ne (show (Y + 7) ≠ (Y + 9) by omega) a91), (lk_ne (show (Y + 7) ≠ (Y + 10) by omega) a101), (lk_ne (show (Y + 7) ≠ (Y + 12) by omega) a121), (lk_ne (show (Y + 7) ≠ (Y + 13) by omega) a131), (lk_ne (show (Y + 7) ≠ (Y + 14) by omega) a141), (lk_ne (show (Y + 7) ≠ (Y + 18) by omega) a181), (lk_ne (show (Y + 7) ≠ (Y + 19) by omega) a191), (lk_ne (show (Y + 7) ≠ (Y + 20) by omega) a201), (lk_ne (show (Y + 7) ≠ (Y + 21) by omega) a211)⟩, ⟨_, _, (lk_ne (show (Y + 7) ≠ (Y + 15) by omega) a151), (lk_ne (show (Y + 7) ≠ (Y + 16) by omega) a161), b151⟩⟩
                    have hFp : FR (modS Y) w1 wp := by rw [ewp]; exact (FR.st (c' := aL 60 gg) FR.rf c71 rfl (by unfold modS; omega))
                    have c7p : wp[Y + 7]? = some (aL 60 gg) := by rw [ewp]; exact (lk_eq c71)
                    have cYp : wp[Y]? = some (.inr (11, .int (nI 0) :: .int st :: .ref (Y + 1) :: .ref (Y + 2) :: .ref (Y + 3) :: .ref (Y + 4) :: .int (nI pn) :: .ref (Y + 5) :: .ref (Y + 6) :: .ref (Y + 7) :: .int (-1) :: .ref (Y + 8) :: .int dd :: .ref (Y + 9) :: .ref (Y + 10) :: .ref (Y + 11) :: .ref (Y + 12) :: .int ld :: .int be :: .int ib :: .ref (Y + 13) :: .ref (Y + 14) :: .ref (Y + 15) :: .ref (Y + 16) :: .ref (Y + 17) :: .int (nI tl) :: .int fa :: .int re :: .int ig :: .ref (Y + 18) :: .ref (Y + 19) :: .ref (Y + 20) :: .ref (Y + 21) :: [])) := by rw [ewp]; exact (lk_ne (show (Y + 7) ≠ Y by omega) cY1)
                    refine g_callV (pc := 274) [.int (nI k), .int (nI 4)] dX12_turn_274 cv_X12_286.1 cv_X12_286.2.1 cv_X12_286.2.2.1 cv_X12_286.2.2.2 cYp rfl rfl (Nat.le_of_ble_eq_true rfl) (by decide) (by decide) (mq_put _ hMp (kd := 4) (k := k) (F := trp 0 (sh.1 i).2 (sh.1 i).1 ((sh.1 i).1 + 1)) c7p hg (fun j a _ => trp_hi hn (by omega) a) hk) ?_
                    rintro rz wq hR
                    obtain ⟨vz, rfl⟩ : ∃ vz, rz = some (.int vz) := putM_int hR
                    exact g_iret (pc := 277) dX12_turn_277 (Or.inr (Or.inr (Or.inl ⟨0, i, k, rfl, by omega, rfl, hi, rfl, hk, (putM.fr hR (hF1.tr hFp))⟩)))
                · ·
                    refine GP.weq (w1.set (Y + 7) (aL 60 (zrF h 60))) (set_same c71).symm ?_
                    refine GP.lsub _ (by simp) (tu_1 (k := k) cY1 a21 c71 b21 hi (fun gg hg => ?_) ((sh.1 i).1 + 1) 0 _ (Nat.zero_add _).symm (fun j hj => by rw [zrF_t hj, trp_z (by omega)]; rfl))
                    refine g_aload_n (pc := 271) 4 dX12_turn_271 rfl rfl ?_
                    refine g_iload_n (pc := 272) 1 dX12_turn_272 rfl rfl ?_
                    refine g_iconst (pc := 273) (v := nI 4) dX12_turn_273 (by decide) ?_
                    obtain ⟨wp, ewp⟩ : ∃ wy : Wd, wy = (w1.set (Y + 7) (aL 60 gg)) := ⟨_, rfl⟩
                    refine GP.weq wp ewp.symm ?_
                    have hMp : mdC wp Y tl tb fa st rf sh pn pk ps im := by rw [ewp]; exact ⟨⟨_, _, _, _, _, _, _, _, (lk_ne (show (Y + 7) ≠ Y by omega) cY1)⟩, ⟨⟨_, (lk_ne (show (Y + 7) ≠ (Y + 1) by omega) a11), b11⟩, ⟨_, (lk_ne (show (Y + 7) ≠ (Y + 2) by omega) a21), b21⟩, ⟨_, _, (lk_ne (show (Y + 7) ≠ (Y + 3) by omega) a31), (lk_ne (show (Y + 7) ≠ (Y + 4) by omega) a41), b31, b41⟩, ⟨_, _, (lk_ne (show (Y + 7) ≠ (Y + 5) by omega) a51), (lk_ne (show (Y + 7) ≠ (Y + 6) by omega) a61), b51⟩, ⟨_, (lk_ne (show (Y + 7) ≠ (Y + 11) by omega) a111), b111⟩, ⟨_, (lk_ne (show (Y + 7) ≠ (Y + 17) by omega) a171), b171⟩⟩, ⟨_, _, _, _, _, _, _, _, _, _, _, (lk_eq c71), (lk_ne (show (Y + 7) ≠ (Y + 8) by omega) a81), (lk_ne (show (Y + 7) ≠ (Y + 9) by omega) a91), (lk_ne (show (Y + 7) ≠ (Y + 10) by omega) a101), (lk_ne (show (Y + 7) ≠ (Y + 12) by omega) a121), (lk_ne (show (Y + 7) ≠ (Y + 13) by omega) a131), (lk_ne (show (Y + 7) ≠ (Y + 14) by omega) a141), (lk_ne (show (Y + 7) ≠ (Y + 18) by omega) a181), (lk_ne (show (Y + 7) ≠ (Y + 19) by omega) a191), (lk_ne (show (Y + 7) ≠ (Y + 20) by omega) a201), (lk_ne (show (Y + 7) ≠ (Y + 21) by omega) a211)⟩, ⟨_, _, (lk_ne (show (Y + 7) ≠ (Y + 15) by omega) a151), (lk_ne (show (Y + 7) ≠ (Y + 16) by omega) a161), b151⟩⟩
                    have hFp : FR (modS Y) w1 wp := by rw [ewp]; exact (FR.st (c' := aL 60 gg) FR.rf c71 rfl (by unfold modS; omega))
                    have c7p : wp[Y + 7]? = some (aL 60 gg) := by rw [ewp]; exact (lk_eq c71)
                    have cYp : wp[Y]? = some (.inr (11, .int (nI 0) :: .int st :: .ref (Y + 1) :: .ref (Y + 2) :: .ref (Y + 3) :: .ref (Y + 4) :: .int (nI pn) :: .ref (Y + 5) :: .ref (Y + 6) :: .ref (Y + 7) :: .int (-1) :: .ref (Y + 8) :: .int dd :: .ref (Y + 9) :: .ref (Y + 10) :: .ref (Y + 11) :: .ref (Y + 12) :: .int ld :: .int be :: .int ib :: .ref (Y + 13) :: .ref (Y + 14) :: .ref (Y + 15) :: .ref (Y + 16) :: .ref (Y + 17) :: .int (nI tl) :: .int fa :: .int re :: .int ig :: .ref (Y + 18) :: .ref (Y + 19) :: .ref (Y + 20) :: .ref (Y + 21) :: [])) := by rw [ewp]; exact (lk_ne (show (Y + 7) ≠ Y by omega) cY1)
                    refine g_callV (pc := 274) [.int (nI k), .int (nI 4)] dX12_turn_274 cv_X12_286.1 cv_X12_286.2.1 cv_X12_286.2.2.1 cv_X12_286.2.2.2 cYp rfl rfl (Nat.le_of_ble_eq_true rfl) (by decide) (by decide) (mq_put _ hMp (kd := 4) (k := k) (F := trp 1 (sh.1 i).2 (sh.1 i).1 ((sh.1 i).1 + 1)) c7p hg (fun j a _ => trp_hi hn (by omega) a) hk) ?_
                    rintro rz wq hR
                    obtain ⟨vz, rfl⟩ : ∃ vz, rz = some (.int vz) := putM_int hR
                    exact g_iret (pc := 277) dX12_turn_277 (Or.inr (Or.inr (Or.inl ⟨1, i, k, rfl, by omega, rfl, hi, rfl, hk, (putM.fr hR (hF1.tr hFp))⟩)))
                · ·
                    refine GP.weq (w1.set (Y + 7) (aL 60 (zrF h 60))) (set_same c71).symm ?_
                    refine GP.lsub _ (by simp) (tu_2 (k := k) cY1 a21 c71 b21 hi (fun gg hg => ?_) ((sh.1 i).1 + 1) 0 _ (Nat.zero_add _).symm (fun j hj => by rw [zrF_t hj, trp_z (by omega)]; rfl))
                    refine g_aload_n (pc := 271) 4 dX12_turn_271 rfl rfl ?_
                    refine g_iload_n (pc := 272) 1 dX12_turn_272 rfl rfl ?_
                    refine g_iconst (pc := 273) (v := nI 4) dX12_turn_273 (by decide) ?_
                    obtain ⟨wp, ewp⟩ : ∃ wy : Wd, wy = (w1.set (Y + 7) (aL 60 gg)) := ⟨_, rfl⟩
                    refine GP.weq wp ewp.symm ?_
                    have hMp : mdC wp Y tl tb fa st rf sh pn pk ps im := by rw [ewp]; exact ⟨⟨_, _, _, _, _, _, _, _, (lk_ne (show (Y + 7) ≠ Y by omega) cY1)⟩, ⟨⟨_, (lk_ne (show (Y + 7) ≠ (Y + 1) by omega) a11), b11⟩, ⟨_, (lk_ne (show (Y + 7) ≠ (Y + 2) by omega) a21), b21⟩, ⟨_, _, (lk_ne (show (Y + 7) ≠ (Y + 3) by omega) a31), (lk_ne (show (Y + 7) ≠ (Y + 4) by omega) a41), b31, b41⟩, ⟨_, _, (lk_ne (show (Y + 7) ≠ (Y + 5) by omega) a51), (lk_ne (show (Y + 7) ≠ (Y + 6) by omega) a61), b51⟩, ⟨_, (lk_ne (show (Y + 7) ≠ (Y + 11) by omega) a111), b111⟩, ⟨_, (lk_ne (show (Y + 7) ≠ (Y + 17) by omega) a171), b171⟩⟩, ⟨_, _, _, _, _, _, _, _, _, _, _, (lk_eq c71), (lk_ne (show (Y + 7) ≠ (Y + 8) by omega) a81), (lk_ne (show (Y + 7) ≠ (Y + 9) by omega) a91), (lk_ne (show (Y + 7) ≠ (Y + 10) by omega) a101), (lk_ne (show (Y + 7) ≠ (Y + 12) by omega) a121), (lk_ne (show (Y + 7) ≠ (Y + 13) by omega) a131), (lk_ne (show (Y + 7) ≠ (Y + 14) by omega) a141), (lk_ne (show (Y + 7) ≠ (Y + 18) by omega) a181), (lk_ne (show (Y + 7) ≠ (Y + 19) by omega) a191), (lk_ne (show (Y + 7) ≠ (Y + 20) by omega) a201), (lk_ne (show (Y + 7) ≠ (Y + 21) by omega) a211)⟩, ⟨_, _, (lk_ne (show (Y + 7) ≠ (Y + 15) by omega) a151), (lk_ne (show (Y + 7) ≠ (Y + 16) by omega) a161), b151⟩⟩
                    have hFp : FR (modS Y) w1 wp := by rw [ewp]; exact (FR.st (c' := aL 60 gg) FR.rf c71 rfl (by unfold modS; omega))
                    have c7p : wp[Y + 7]? = some (aL 60 gg) := by rw [ewp]; exact (lk_eq c71)
                    have cYp : wp[Y]? = some (.inr (11, .int (nI 0) :: .int st :: .ref (Y + 1) :: .ref (Y + 2) :: .ref (Y + 3) :: .ref (Y + 4) :: .int (nI pn) :: .ref (Y + 5) :: .ref (Y + 6) :: .ref (Y + 7) :: .int (-1) :: .ref (Y + 8) :: .int dd :: .ref (Y + 9) :: .ref (Y + 10) :: .ref (Y + 11) :: .ref (Y + 12) :: .int ld :: .int be :: .int ib :: .ref (Y + 13) :: .ref (Y + 14) :: .ref (Y + 15) :: .ref (Y + 16) :: .ref (Y + 17) :: .int (nI tl) :: .int fa :: .int re :: .int ig :: .ref (Y + 18) :: .ref (Y + 19) :: .ref (Y + 20) :: .ref (Y + 21) :: [])) := by rw [ewp]; exact (lk_ne (show (Y + 7) ≠ Y by omega) cY1)
                    refine g_callV (pc := 274) [.int (nI k), .int (nI 4)] dX12_turn_274 cv_X12_286.1 cv_X12_286.2.1 cv_X12_286.2.2.1 cv_X12_286.2.2.2 cYp rfl rfl (Nat.le_of_ble_eq_true rfl) (by decide) (by decide) (mq_put _ hMp (kd := 4) (k := k) (F := trp 2 (sh.1 i).2 (sh.1 i).1 ((sh.1 i).1 + 1)) c7p hg (fun j a _ => trp_hi hn (by omega) a) hk) ?_
                    rintro rz wq hR
                    obtain ⟨vz, rfl⟩ : ∃ vz, rz = some (.int vz) := putM_int hR
                    exact g_iret (pc := 277) dX12_turn_277 (Or.inr (Or.inr (Or.inl ⟨2, i, k, rfl, by omega, rfl, hi, rfl, hk, (putM.fr hR (hF1.tr hFp))⟩)))
                · ·
                    refine GP.weq (w1.set (Y + 7) (aL 60 (zrF h 60))) (set_same c71).symm ?_
                    refine GP.lsub _ (by simp) (tu_3 (k := k) cY1 a21 c71 b21 hi (fun gg hg => ?_) ((sh.1 i).1 + 1) 0 _ (Nat.zero_add _).symm (fun j hj => by rw [zrF_t hj, trp_z (by omega)]; rfl))
                    refine g_aload_n (pc := 271) 4 dX12_turn_271 rfl rfl ?_
                    refine g_iload_n (pc := 272) 1 dX12_turn_272 rfl rfl ?_
                    refine g_iconst (pc := 273) (v := nI 4) dX12_turn_273 (by decide) ?_
                    obtain ⟨wp, ewp⟩ : ∃ wy : Wd, wy = (w1.set (Y + 7) (aL 60 gg)) := ⟨_, rfl⟩
                    refine GP.weq wp ewp.symm ?_
                    have hMp : mdC wp Y tl tb fa st rf sh pn pk ps im := by rw [ewp]; exact ⟨⟨_, _, _, _, _, _, _, _, (lk_ne (show (Y + 7) ≠ Y by omega) cY1)⟩, ⟨⟨_, (lk_ne (show (Y + 7) ≠ (Y + 1) by omega) a11), b11⟩, ⟨_, (lk_ne (show (Y + 7) ≠ (Y + 2) by omega) a21), b21⟩, ⟨_, _, (lk_ne (show (Y + 7) ≠ (Y + 3) by omega) a31), (lk_ne (show (Y + 7) ≠ (Y + 4) by omega) a41), b31, b41⟩, ⟨_, _, (lk_ne (show (Y + 7) ≠ (Y + 5) by omega) a51), (lk_ne (show (Y + 7) ≠ (Y + 6) by omega) a61), b51⟩, ⟨_, (lk_ne (show (Y + 7) ≠ (Y + 11) by omega) a111), b111⟩, ⟨_, (lk_ne (show (Y + 7) ≠ (Y + 17) by omega) a171), b171⟩⟩, ⟨_, _, _, _, _, _, _, _, _, _, _, (lk_eq c71), (lk_ne (show (Y + 7) ≠ (Y + 8) by omega) a81), (lk_ne (show (Y + 7) ≠ (Y + 9) by omega) a91), (lk_ne (show (Y + 7) ≠ (Y + 10) by omega) a101), (lk_ne (show (Y + 7) ≠ (Y + 12) by omega) a121), (lk_ne (show (Y + 7) ≠ (Y + 13) by omega) a131), (lk_ne (show (Y + 7) ≠ (Y + 14) by omega) a141), (lk_ne (show (Y + 7) ≠ (Y + 18) by omega) a181), (lk_ne (show (Y + 7) ≠ (Y + 19) by omega) a191), (lk_ne (show (Y + 7) ≠ (Y + 20) by omega) a201), (lk_ne (show (Y + 7) ≠ (Y + 21) by omega) a211)⟩, ⟨_, _, (lk_ne (show (Y + 7) ≠ (Y + 15) by omega) a151), (lk_ne (show (Y + 7) ≠ (Y + 16) by omega) a161), b151⟩⟩
                    have hFp : FR (modS Y) w1 wp := by rw [ewp]; exact (FR.st (c' := aL 60 gg) FR.rf c71 rfl (by unfold modS; omega))
                    have c7p : wp[Y + 7]? = some (aL 60 gg) := by rw [ewp]; exact (lk_eq c71)
                    have cYp : wp[Y]? = some (.inr (11, .int (nI 0) :: .int st :: .ref (Y + 1) :: .ref (Y + 2) :: .ref (Y + 3) :: .ref (Y + 4) :: .int (nI pn) :: .ref (Y + 5) :: .ref (Y + 6) :: .ref (Y + 7) :: .int (-1) :: .ref (Y + 8) :: .int dd :: .ref (Y + 9) :: .ref (Y + 10) :: .ref (Y + 11) :: .ref (Y + 12) :: .int ld :: .int be :: .int ib :: .ref (Y + 13) :: .ref (Y + 14) :: .ref (Y + 15) :: .ref (Y + 16) :: .ref (Y + 17) :: .int (nI tl) :: .int fa :: .int re :: .int ig :: .ref (Y + 18) :: .ref (Y + 19) :: .ref (Y + 20) :: .ref (Y + 21) :: [])) := by rw [ewp]; exact (lk_ne (show (Y + 7) ≠ Y by omega) cY1)
                    refine g_callV (pc := 274) [.int (nI k), .int (nI 4)] dX12_turn_274 cv_X12_286.1 cv_X12_286.2.1 cv_X12_286.2.2.1 cv_X12_286.2.2.2 cYp rfl rfl (Nat.le_of_ble_eq_true rfl) (by decide) (by decide) (mq_put _ hMp (kd := 4) (k := k) (F := trp 3 (sh.1 i).2 (sh.1 i).1 ((sh.1 i).1 + 1)) c7p hg (fun j a _ => trp_hi hn (by omega) a) hk) ?_
                    rintro rz wq hR
                    obtain ⟨vz, rfl⟩ : ∃ vz, rz = some (.int vz) := putM_int hR
                    exact g_iret (pc := 277) dX12_turn_277 (Or.inr (Or.inr (Or.inl ⟨3, i, k, rfl, by omega, rfl, hi, rfl, hk, (putM.fr hR (hF1.tr hFp))⟩)))
                · ·
                    refine GP.weq (w1.set (Y + 7) (aL 60 (zrF h 60))) (set_same c71).symm ?_
                    refine GP.lsub _ (by simp) (tu_4 (k := k) cY1 a21 c71 b21 hi (fun gg hg => ?_) ((sh.1 i).1 + 1) 0 _ (Nat.zero_add _).symm (fun j hj => by rw [zrF_t hj, trp_z (by omega)]; rfl))
                    refine g_aload_n (pc := 271) 4 dX12_turn_271 rfl rfl ?_
                    refine g_iload_n (pc := 272) 1 dX12_turn_272 rfl rfl ?_
                    refine g_iconst (pc := 273) (v := nI 4) dX12_turn_273 (by decide) ?_
                    obtain ⟨wp, ewp⟩ : ∃ wy : Wd, wy = (w1.set (Y + 7) (aL 60 gg)) := ⟨_, rfl⟩
                    refine GP.weq wp ewp.symm ?_
                    have hMp : mdC wp Y tl tb fa st rf sh pn pk ps im := by rw [ewp]; exact ⟨⟨_, _, _, _, _, _, _, _, (lk_ne (show (Y + 7) ≠ Y by omega) cY1)⟩, ⟨⟨_, (lk_ne (show (Y + 7) ≠ (Y + 1) by omega) a11), b11⟩, ⟨_, (lk_ne (show (Y + 7) ≠ (Y + 2) by omega) a21), b21⟩, ⟨_, _, (lk_ne (show (Y + 7) ≠ (Y + 3) by omega) a31), (lk_ne (show (Y + 7) ≠ (Y + 4) by omega) a41), b31, b41⟩, ⟨_, _, (lk_ne (show (Y + 7) ≠ (Y + 5) by omega) a51), (lk_ne (show (Y + 7) ≠ (Y + 6) by omega) a61), b51⟩, ⟨_, (lk_ne (show (Y + 7) ≠ (Y + 11) by omega) a111), b111⟩, ⟨_, (lk_ne (show (Y + 7) ≠ (Y + 17) by omega) a171), b171⟩⟩, ⟨_, _, _, _, _, _, _, _, _, _, _, (lk_eq c71), (lk_ne (show (Y + 7) ≠ (Y + 8) by omega) a81), (lk_ne (show (Y + 7) ≠ (Y + 9) by omega) a91), (lk_ne (show (Y + 7) ≠ (Y + 10) by omega) a101), (lk_ne (show (Y + 7) ≠ (Y + 12) by omega) a121), (lk_ne (show (Y + 7) ≠ (Y + 13) by omega) a131), (lk_ne (show (Y + 7) ≠ (Y + 14) by omega) a141), (lk_ne (show (Y + 7) ≠ (Y + 18) by omega) a181), (lk_ne (show (Y + 7) ≠ (Y + 19) by omega) a191), (lk_ne (show (Y + 7) ≠ (Y + 20) by omega) a201), (lk_ne (show (Y + 7) ≠ (Y + 21) by omega) a211)⟩, ⟨_, _, (lk_ne (show (Y + 7) ≠ (Y + 15) by omega) a151), (lk_ne (show (Y + 7) ≠ (Y + 16) by omega) a161), b151⟩⟩
                    have hFp : FR (modS Y) w1 wp := by rw [ewp]; exact (FR.st (c' := aL 60 gg) FR.rf c71 rfl (by unfold modS; omega))
                    have c7p : wp[Y + 7]? = some (aL 60 gg) := by rw [ewp]; exact (lk_eq c71)
                    have cYp : wp[Y]? = some (.inr (11, .int (nI 0) :: .int st :: .ref (Y + 1) :: .ref (Y + 2) :: .ref (Y + 3) :: .ref (Y + 4) :: .int (nI pn) :: .ref (Y + 5) :: .ref (Y + 6) :: .ref (Y + 7) :: .int (-1) :: .ref (Y + 8) :: .int dd :: .ref (Y + 9) :: .ref (Y + 10) :: .ref (Y + 11) :: .ref (Y + 12) :: .int ld :: .int be :: .int ib :: .ref (Y + 13) :: .ref (Y + 14) :: .ref (Y + 15) :: .ref (Y + 16) :: .ref (Y + 17) :: .int (nI tl) :: .int fa :: .int re :: .int ig :: .ref (Y + 18) :: .ref (Y + 19) :: .ref (Y + 20) :: .ref (Y + 21) :: [])) := by rw [ewp]; exact (lk_ne (show (Y + 7) ≠ Y by omega) cY1)
                    refine g_callV (pc := 274) [.int (nI k), .int (nI 4)] dX12_turn_274 cv_X12_286.1 cv_X12_286.2.1 cv_X12_286.2.2.1 cv_X12_286.2.2.2 cYp rfl rfl (Nat.le_of_ble_eq_true rfl) (by decide) (by decide) (mq_put _ hMp (kd := 4) (k := k) (F := trp 4 (sh.1 i).2 (sh.1 i).1 ((sh.1 i).1 + 1)) c7p hg (fun j a _ => trp_hi hn (by omega) a) hk) ?_
                    rintro rz wq hR
                    obtain ⟨vz, rfl⟩ : ∃ vz, rz = some (.int vz) := putM_int hR
                    exact g_iret (pc := 277) dX12_turn_277 (Or.inr (Or.inr (Or.inl ⟨4, i, k, rfl, by omega, rfl, hi, rfl, hk, (putM.fr hR (hF1.tr hFp))⟩)))
              · subst h5
                refine g_aload_n (pc := 61) 1 dX12_turn_61 rfl rfl ?_
                refine g_callV (pc := 62) [] dX12_turn_62 cv_X12_303.1 cv_X12_303.2.1 cv_X12_303.2.2.1 cv_X12_303.2.2.2 (lk_ne (show (Y + 7) ≠ Y by omega) (lk_eq hY)) rfl rfl (Nat.le_of_ble_eq_true rfl) (by decide) (by decide) (mp_layLevels _ (F := (sh.1 i).2) (lk_ne (show (Y + 7) ≠ Y by omega) (lk_eq hY)) (lk_eq (lk_ne (show Y ≠ (Y + 7) by omega) a7)) (lk_ne (show (Y + 7) ≠ (Y + 12) by omega) (lk_ne (show Y ≠ (Y + 12) by omega) a12)) hn (fun j hj => hh j (by omega))) ?_
                rintro _ w9 ⟨rfl, T, b9, l, hTT, hll, e9⟩
                refine GP.weq _ e9 ?_
                refine GP.weq (((w.set Y (.inr (11, .int (nI 0) :: .int st :: .ref (Y + 1) :: .ref (Y + 2) :: .ref (Y + 3) :: .ref (Y + 4) :: .int (nI pn) :: .ref (Y + 5) :: .ref (Y + 6) :: .ref (Y + 7) :: .int (nI ((sh.1 i).1)) :: .ref (Y + 8) :: .int dd :: .ref (Y + 9) :: .ref (Y + 10) :: .ref (Y + 11) :: .ref (Y + 12) :: .int (nI ((sh.1 i).1)) :: .int (nI T) :: .int (nI b9) :: .ref (Y + 13) :: .ref (Y + 14) :: .ref (Y + 15) :: .ref (Y + 16) :: .ref (Y + 17) :: .int (nI tl) :: .int fa :: .int re :: .int ig :: .ref (Y + 18) :: .ref (Y + 19) :: .ref (Y + 20) :: .ref (Y + 21) :: []))).set (Y + 7) (aL 60 h)).set (Y + 12) (aL 91 l)) (by rw [show ((((w.set Y (.inr (11, .int (nI 0) :: .int st :: .ref (Y + 1) :: .ref (Y + 2) :: .ref (Y + 3) :: .ref (Y + 4) :: .int (nI pn) :: .ref (Y + 5) :: .ref (Y + 6) :: .ref (Y + 7) :: .int (nI ((sh.1 i).1)) :: .ref (Y + 8) :: .int dd :: .ref (Y + 9) :: .ref (Y + 10) :: .ref (Y + 11) :: .ref (Y + 12) :: .int ld :: .int be :: .int ib :: .ref (Y + 13) :: .ref (Y + 14) :: .ref (Y + 15) :: .ref (Y + 16) :: .ref (Y + 17) :: .int (nI tl) :: .int fa :: .int re :: .int ig :: .ref (Y + 18) :: .ref (Y + 19) :: .ref (Y + 20) :: .ref (Y + 21) :: []))).set (Y + 7) (aL 60 h)).set (Y + 12) (aL 91 l)).set Y (.inr (11, .int (nI 0) :: .int st :: .ref (Y + 1) :: .ref (Y + 2) :: .ref (Y + 3) :: .ref (Y + 4) :: .int (nI pn) :: .ref (Y + 5) :: .ref (Y + 6) :: .ref (Y + 7) :: .int (nI ((sh.1 i).1)) :: .ref (Y + 8) :: .int dd :: .ref (Y + 9) :: .ref (Y + 10) :: .ref (Y + 11) :: .ref (Y + 12) :: .int (nI ((sh.1 i).1)) :: .int (nI T) :: .int (nI b9) :: .ref (Y + 13) :: .ref (Y + 14) :: .ref (Y + 15) :: .ref (Y + 16) :: .ref (Y + 17) :: .int (nI tl) :: .int fa :: .int re :: .int ig :: .ref (Y + 18) :: .ref (Y + 19) :: .ref (Y + 20) :: .ref (Y + 21) :: []))) = (((w.set Y (.inr (11, .int (nI 0) :: .int st :: .ref (Y + 1) :: .ref (Y + 2) :: .ref (Y + 3) :: .ref (Y + 4) :: .int (nI pn) :: .ref (Y + 5) :: .ref (Y + 6) :: .ref (Y + 7) :: .int (nI ((sh.1 i).1)) :: .ref (Y + 8) :: .int dd :: .ref (Y + 9) :: .ref (Y + 10) :: .ref (Y + 11) :: .ref (Y + 12) :: .int (nI ((sh.1 i).1)) :: .int (nI T) :: .int (nI b9) :: .ref (Y + 13) :: .ref (Y + 14) :: .ref (Y + 15) :: .ref (Y + 16) :: .ref (Y + 17) :: .int (nI tl) :: .int fa :: .int re :: .int ig :: .ref (Y + 18) :: .ref (Y + 19) :: .ref (Y + 20) :: .ref (Y + 21) :: []))).set (Y + 7) (aL 60 h)).set (Y + 12) (aL 91 l)) from by rw [List.set_comm _ _ (show (Y + 12) ≠ Y by omega), List.set_comm _ _ (show (Y + 7) ≠ Y by omega), List.set_set]]) ?_
                refine g_aload_n (pc := 65) 1 dX12_turn_65 rfl rfl ?_
                have hT6 := hTT.1
                refine g_callV (pc := 66) [] dX12_turn_66 cv_X12_116.1 cv_X12_116.2.1 cv_X12_116.2.2.1 cv_X12_116.2.2.2 (lk_ne (show (Y + 12) ≠ Y by omega) (lk_ne (show (Y + 7) ≠ Y by omega) (lk_eq hY))) rfl rfl (Nat.le_of_ble_eq_true rfl) (by decide) (by decide) (mp_empty _ (lk_ne (show (Y + 12) ≠ Y by omega) (lk_ne (show (Y + 7) ≠ Y by omega) (lk_eq hY))) (lk_ne (show (Y + 12) ≠ (Y + 7) by omega) (lk_eq (lk_ne (show Y ≠ (Y + 7) by omega) a7)))) ?_
                rintro _ w9 ⟨rfl, e9⟩
                refine GP.weq _ e9 ?_
                refine GP.weq (((w.set Y (.inr (11, .int (nI 0) :: .int st :: .ref (Y + 1) :: .ref (Y + 2) :: .ref (Y + 3) :: .ref (Y + 4) :: .int (nI pn) :: .ref (Y + 5) :: .ref (Y + 6) :: .ref (Y + 7) :: .int (-1) :: .ref (Y + 8) :: .int dd :: .ref (Y + 9) :: .ref (Y + 10) :: .ref (Y + 11) :: .ref (Y + 12) :: .int (nI ((sh.1 i).1)) :: .int (nI T) :: .int (nI b9) :: .ref (Y + 13) :: .ref (Y + 14) :: .ref (Y + 15) :: .ref (Y + 16) :: .ref (Y + 17) :: .int (nI tl) :: .int fa :: .int re :: .int ig :: .ref (Y + 18) :: .ref (Y + 19) :: .ref (Y + 20) :: .ref (Y + 21) :: []))).set (Y + 7) (aL 60 (zrF h 60))).set (Y + 12) (aL 91 l)) (by rw [List.set_comm _ _ (show Y + 7 ≠ Y by omega), List.set_comm _ _ (show Y + 12 ≠ Y by omega), List.set_comm _ _ (show Y + 7 ≠ Y by omega), List.set_set, List.set_comm _ _ (show Y + 12 ≠ Y + 7 by omega), List.set_set]) ?_
                obtain ⟨w1, ew1⟩ : ∃ wy : Wd, wy = (((w.set Y (.inr (11, .int (nI 0) :: .int st :: .ref (Y + 1) :: .ref (Y + 2) :: .ref (Y + 3) :: .ref (Y + 4) :: .int (nI pn) :: .ref (Y + 5) :: .ref (Y + 6) :: .ref (Y + 7) :: .int (-1) :: .ref (Y + 8) :: .int dd :: .ref (Y + 9) :: .ref (Y + 10) :: .ref (Y + 11) :: .ref (Y + 12) :: .int (nI ((sh.1 i).1)) :: .int (nI T) :: .int (nI b9) :: .ref (Y + 13) :: .ref (Y + 14) :: .ref (Y + 15) :: .ref (Y + 16) :: .ref (Y + 17) :: .int (nI tl) :: .int fa :: .int re :: .int ig :: .ref (Y + 18) :: .ref (Y + 19) :: .ref (Y + 20) :: .ref (Y + 21) :: []))).set (Y + 7) (aL 60 (zrF h 60))).set (Y + 12) (aL 91 l)) := ⟨_, rfl⟩
                refine GP.weq w1 ew1.symm ?_
                have hM1 : mdC w1 Y tl tb fa st rf sh pn pk ps im := by rw [ew1]; exact ⟨⟨_, _, _, _, _, _, _, _, (lk_ne (show (Y + 12) ≠ Y by omega) (lk_ne (show (Y + 7) ≠ Y by omega) (lk_eq hY)))⟩, ⟨⟨_, (lk_ne (show (Y + 12) ≠ (Y + 1) by omega) (lk_ne (show (Y + 7) ≠ (Y + 1) by omega) (lk_ne (show Y ≠ (Y + 1) by omega) a1))), b1⟩, ⟨_, (lk_ne (show (Y + 12) ≠ (Y + 2) by omega) (lk_ne (show (Y + 7) ≠ (Y + 2) by omega) (lk_ne (show Y ≠ (Y + 2) by omega) a2))), b2⟩, ⟨_, _, (lk_ne (show (Y + 12) ≠ (Y + 3) by omega) (lk_ne (show (Y + 7) ≠ (Y + 3) by omega) (lk_ne (show Y ≠ (Y + 3) by omega) a3))), (lk_ne (show (Y + 12) ≠ (Y + 4) by omega) (lk_ne (show (Y + 7) ≠ (Y + 4) by omega) (lk_ne (show Y ≠ (Y + 4) by omega) a4))), b3, b4⟩, ⟨_, _, (lk_ne (show (Y + 12) ≠ (Y + 5) by omega) (lk_ne (show (Y + 7) ≠ (Y + 5) by omega) (lk_ne (show Y ≠ (Y + 5) by omega) a5))), (lk_ne (show (Y + 12) ≠ (Y + 6) by omega) (lk_ne (show (Y + 7) ≠ (Y + 6) by omega) (lk_ne (show Y ≠ (Y + 6) by omega) a6))), b5⟩, ⟨_, (lk_ne (show (Y + 12) ≠ (Y + 11) by omega) (lk_ne (show (Y + 7) ≠ (Y + 11) by omega) (lk_ne (show Y ≠ (Y + 11) by omega) a11))), b11⟩, ⟨_, (lk_ne (show (Y + 12) ≠ (Y + 17) by omega) (lk_ne (show (Y + 7) ≠ (Y + 17) by omega) (lk_ne (show Y ≠ (Y + 17) by omega) a17))), b17⟩⟩, ⟨_, _, _, _, _, _, _, _, _, _, _, (lk_ne (show (Y + 12) ≠ (Y + 7) by omega) (lk_eq (lk_ne (show Y ≠ (Y + 7) by omega) a7))), (lk_ne (show (Y + 12) ≠ (Y + 8) by omega) (lk_ne (show (Y + 7) ≠ (Y + 8) by omega) (lk_ne (show Y ≠ (Y + 8) by omega) a8))), (lk_ne (show (Y + 12) ≠ (Y + 9) by omega) (lk_ne (show (Y + 7) ≠ (Y + 9) by omega) (lk_ne (show Y ≠ (Y + 9) by omega) a9))), (lk_ne (show (Y + 12) ≠ (Y + 10) by omega) (lk_ne (show (Y + 7) ≠ (Y + 10) by omega) (lk_ne (show Y ≠ (Y + 10) by omega) a10))), (lk_eq (lk_ne (show (Y + 7) ≠ (Y + 12) by omega) (lk_ne (show Y ≠ (Y + 12) by omega) a12))), (lk_ne (show (Y + 12) ≠ (Y + 13) by omega) (lk_ne (show (Y + 7) ≠ (Y + 13) by omega) (lk_ne (show Y ≠ (Y + 13) by omega) a13))), (lk_ne (show (Y + 12) ≠ (Y + 14) by omega) (lk_ne (show (Y + 7) ≠ (Y + 14) by omega) (lk_ne (show Y ≠ (Y + 14) by omega) a14))), (lk_ne (show (Y + 12) ≠ (Y + 18) by omega) (lk_ne (show (Y + 7) ≠ (Y + 18) by omega) (lk_ne (show Y ≠ (Y + 18) by omega) a18))), (lk_ne (show (Y + 12) ≠ (Y + 19) by omega) (lk_ne (show (Y + 7) ≠ (Y + 19) by omega) (lk_ne (show Y ≠ (Y + 19) by omega) a19))), (lk_ne (show (Y + 12) ≠ (Y + 20) by omega) (lk_ne (show (Y + 7) ≠ (Y + 20) by omega) (lk_ne (show Y ≠ (Y + 20) by omega) a20))), (lk_ne (show (Y + 12) ≠ (Y + 21) by omega) (lk_ne (show (Y + 7) ≠ (Y + 21) by omega) (lk_ne (show Y ≠ (Y + 21) by omega) a21)))⟩, ⟨_, _, (lk_ne (show (Y + 12) ≠ (Y + 15) by omega) (lk_ne (show (Y + 7) ≠ (Y + 15) by omega) (lk_ne (show Y ≠ (Y + 15) by omega) a15))), (lk_ne (show (Y + 12) ≠ (Y + 16) by omega) (lk_ne (show (Y + 7) ≠ (Y + 16) by omega) (lk_ne (show Y ≠ (Y + 16) by omega) a16))), b15⟩⟩
                have hF1 : FR (modS Y) w w1 := by rw [ew1]; exact (FR.st (c' := aL 91 l) (FR.st (c' := aL 60 (zrF h 60)) (FR.st (c' := .inr (11, .int (nI 0) :: .int st :: .ref (Y + 1) :: .ref (Y + 2) :: .ref (Y + 3) :: .ref (Y + 4) :: .int (nI pn) :: .ref (Y + 5) :: .ref (Y + 6) :: .ref (Y + 7) :: .int (-1) :: .ref (Y + 8) :: .int dd :: .ref (Y + 9) :: .ref (Y + 10) :: .ref (Y + 11) :: .ref (Y + 12) :: .int (nI ((sh.1 i).1)) :: .int (nI T) :: .int (nI b9) :: .ref (Y + 13) :: .ref (Y + 14) :: .ref (Y + 15) :: .ref (Y + 16) :: .ref (Y + 17) :: .int (nI tl) :: .int fa :: .int re :: .int ig :: .ref (Y + 18) :: .ref (Y + 19) :: .ref (Y + 20) :: .ref (Y + 21) :: [])) FR.rf hY rfl (by unfold modS; omega)) (lk_ne (show Y ≠ (Y + 7) by omega) a7) rfl (by unfold modS; omega)) (lk_ne (show (Y + 7) ≠ (Y + 12) by omega) (lk_ne (show Y ≠ (Y + 12) by omega) a12)) rfl (by unfold modS; omega))
                have c71 : w1[Y + 7]? = some (aL 60 (zrF h 60)) := by rw [ew1]; exact (lk_ne (show (Y + 12) ≠ (Y + 7) by omega) (lk_eq (lk_ne (show Y ≠ (Y + 7) by omega) a7)))
                have c121 : w1[Y + 12]? = some (aL 91 l) := by rw [ew1]; exact (lk_eq (lk_ne (show (Y + 7) ≠ (Y + 12) by omega) (lk_ne (show Y ≠ (Y + 12) by omega) a12)))
                have cY1 : w1[Y]? = some (.inr (11, .int (nI 0) :: .int st :: .ref (Y + 1) :: .ref (Y + 2) :: .ref (Y + 3) :: .ref (Y + 4) :: .int (nI pn) :: .ref (Y + 5) :: .ref (Y + 6) :: .ref (Y + 7) :: .int (-1) :: .ref (Y + 8) :: .int dd :: .ref (Y + 9) :: .ref (Y + 10) :: .ref (Y + 11) :: .ref (Y + 12) :: .int (nI ((sh.1 i).1)) :: .int (nI T) :: .int (nI b9) :: .ref (Y + 13) :: .ref (Y + 14) :: .ref (Y + 15) :: .ref (Y + 16) :: .ref (Y + 17) :: .int (nI tl) :: .int fa :: .int re :: .int ig :: .ref (Y + 18) :: .ref (Y + 19) :: .ref (Y + 20) :: .ref (Y + 21) :: [])) := by rw [ew1]; exact (lk_ne (show (Y + 12) ≠ Y by omega) (lk_ne (show (Y + 7) ≠ Y by omega) (lk_eq hY)))
                obtain ⟨⟨th1, dg1, dd1, ld1, be1, ib1, re1, ig1, hY1⟩, ⟨⟨g11, a11, b11⟩, ⟨g21, a21, b21⟩, ⟨g31, g41, a31, a41, b31, b41⟩, ⟨g51, g61, a51, a61, b51⟩, ⟨g111, a111, b111⟩, ⟨g171, a171, b171⟩⟩, ⟨g71, g81, g91, g101, g121, g131, g141, g181, g191, g201, g211, a71, a81, a91, a101, a121, a131, a141, a181, a191, a201, a211⟩, ⟨g151, g161, a151, a161, b151⟩⟩ := id hM1
                refine g_iconst (pc := 69) (v := nI 0) dX12_turn_69 (by decide) ?_
                refine g_istore (pc := 70) [(5, .int (nI 0)), (4, .int (nI ((sh.1 i).1))), (0, .ref Y), (1, .int (nI 5)), (2, .int (nI i)), (3, .int (nI k))] dX12_turn_70 (by decide) rfl ?_
                by_cases hT0 : 0 < T
                · ·
                    refine GP.weq (w1.set (Y + 7) (aL 60 (zrF h 60))) (set_same c71).symm ?_
                    have hq : sqd (sh.1 i).2 (sh.1 i).1 := hTT.2.1 0 hT0
                    refine GP.lsub _ (by simp) (tu_5 (k := k) (i := i) cY1 c71 c121 hn hT0 hT6 (fun gg hg => ?_) ((sh.1 i).1 + 1) 0 _ (Nat.zero_add _).symm (fun j hj => by rw [zrF_t hj, if_neg (Nat.not_lt_zero _)]))
                    refine g_aload_n (pc := 109) 4 dX12_turn_109 rfl rfl ?_
                    refine g_iload_n (pc := 110) 1 dX12_turn_110 rfl rfl ?_
                    refine g_iconst (pc := 111) (v := nI 4) dX12_turn_111 (by decide) ?_
                    obtain ⟨wp, ewp⟩ : ∃ wy : Wd, wy = (w1.set (Y + 7) (aL 60 gg)) := ⟨_, rfl⟩
                    refine GP.weq wp ewp.symm ?_
                    have hMp : mdC wp Y tl tb fa st rf sh pn pk ps im := by rw [ewp]; exact ⟨⟨_, _, _, _, _, _, _, _, (lk_ne (show (Y + 7) ≠ Y by omega) cY1)⟩, ⟨⟨_, (lk_ne (show (Y + 7) ≠ (Y + 1) by omega) a11), b11⟩, ⟨_, (lk_ne (show (Y + 7) ≠ (Y + 2) by omega) a21), b21⟩, ⟨_, _, (lk_ne (show (Y + 7) ≠ (Y + 3) by omega) a31), (lk_ne (show (Y + 7) ≠ (Y + 4) by omega) a41), b31, b41⟩, ⟨_, _, (lk_ne (show (Y + 7) ≠ (Y + 5) by omega) a51), (lk_ne (show (Y + 7) ≠ (Y + 6) by omega) a61), b51⟩, ⟨_, (lk_ne (show (Y + 7) ≠ (Y + 11) by omega) a111), b111⟩, ⟨_, (lk_ne (show (Y + 7) ≠ (Y + 17) by omega) a171), b171⟩⟩, ⟨_, _, _, _, _, _, _, _, _, _, _, (lk_eq c71), (lk_ne (show (Y + 7) ≠ (Y + 8) by omega) a81), (lk_ne (show (Y + 7) ≠ (Y + 9) by omega) a91), (lk_ne (show (Y + 7) ≠ (Y + 10) by omega) a101), (lk_ne (show (Y + 7) ≠ (Y + 12) by omega) c121), (lk_ne (show (Y + 7) ≠ (Y + 13) by omega) a131), (lk_ne (show (Y + 7) ≠ (Y + 14) by omega) a141), (lk_ne (show (Y + 7) ≠ (Y + 18) by omega) a181), (lk_ne (show (Y + 7) ≠ (Y + 19) by omega) a191), (lk_ne (show (Y + 7) ≠ (Y + 20) by omega) a201), (lk_ne (show (Y + 7) ≠ (Y + 21) by omega) a211)⟩, ⟨_, _, (lk_ne (show (Y + 7) ≠ (Y + 15) by omega) a151), (lk_ne (show (Y + 7) ≠ (Y + 16) by omega) a161), b151⟩⟩
                    have hFp : FR (modS Y) w1 wp := by rw [ewp]; exact (FR.st (c' := aL 60 gg) FR.rf c71 rfl (by unfold modS; omega))
                    have c7p : wp[Y + 7]? = some (aL 60 gg) := by rw [ewp]; exact (lk_eq c71)
                    have cYp : wp[Y]? = some (.inr (11, .int (nI 0) :: .int st :: .ref (Y + 1) :: .ref (Y + 2) :: .ref (Y + 3) :: .ref (Y + 4) :: .int (nI pn) :: .ref (Y + 5) :: .ref (Y + 6) :: .ref (Y + 7) :: .int (-1) :: .ref (Y + 8) :: .int dd :: .ref (Y + 9) :: .ref (Y + 10) :: .ref (Y + 11) :: .ref (Y + 12) :: .int (nI ((sh.1 i).1)) :: .int (nI T) :: .int (nI b9) :: .ref (Y + 13) :: .ref (Y + 14) :: .ref (Y + 15) :: .ref (Y + 16) :: .ref (Y + 17) :: .int (nI tl) :: .int fa :: .int re :: .int ig :: .ref (Y + 18) :: .ref (Y + 19) :: .ref (Y + 20) :: .ref (Y + 21) :: [])) := by rw [ewp]; exact (lk_ne (show (Y + 7) ≠ Y by omega) cY1)
                    refine g_callV (pc := 112) [.int (nI k), .int (nI 4)] dX12_turn_112 cv_X12_286.1 cv_X12_286.2.1 cv_X12_286.2.2.1 cv_X12_286.2.2.2 cYp rfl rfl (Nat.le_of_ble_eq_true rfl) (by decide) (by decide) (mq_put _ hMp (kd := 4) (k := k) (F := fun t => if t ≤ (sh.1 i).1 then gco (sh.1 i).2 (sh.1 i).1 t else 0) c7p (fun j hj => tu_h hll hT0 hn hg hj) (fun j a _ => if_neg (by omega)) hk) ?_
                    rintro rz wq hR
                    obtain ⟨vz, rfl⟩ : ∃ vz, rz = some (.int vz) := putM_int hR
                    exact g_iret (pc := 115) dX12_turn_115 (Or.inr (Or.inr (Or.inr (Or.inr ⟨i, k, rfl, rfl, hi, rfl, hk, hq, (putM.fr hR (hF1.tr hFp))⟩))))
                · ·
                    have e0 : T = 0 := by omega
                    subst e0
                    have hq : ¬ sqd (sh.1 i).2 (sh.1 i).1 := hTT.2.2 (by omega)
                    refine g_iload (pc := 72) 0 dX12_turn_72 rfl ?_
                    refine g_iload (pc := 74) 1 dX12_turn_74 rfl ?_
                    refine n_icmp_gt (pc := 76) 109 dX12_turn_76 (by decide) (by omega) (by omega) (fun h9 => ?_) (fun h9 => ?_)
                    · exact absurd h9 (by omega)
                    · refine g_aload_n (pc := 79) 2 dX12_turn_79 rfl rfl ?_
                      refine g_get (pc := 80) dX12_turn_80 fk_X12_196 cY1 rfl ?_
                      refine n_if_le (pc := 83) 109 dX12_turn_83 (by decide) (by omega) (fun h8 => ?_) (fun h8 => ?_)
                      · refine g_aload_n (pc := 109) 2 dX12_turn_109 rfl rfl ?_
                        refine g_iload_n (pc := 110) 5 dX12_turn_110 rfl rfl ?_
                        refine g_iconst (pc := 111) (v := nI 4) dX12_turn_111 (by decide) ?_
                        refine g_callV (pc := 112) [.int (nI k), .int (nI 4)] dX12_turn_112 cv_X12_286.1 cv_X12_286.2.1 cv_X12_286.2.2.1 cv_X12_286.2.2.2 cY1 rfl rfl (Nat.le_of_ble_eq_true rfl) (by decide) (by decide) (mq_put _ hM1 (kd := 4) (k := k) (F := fun _ => 0) c71 (fun j hj => by rw [zrF_t hj]; rfl) (fun _ _ _ => rfl) hk) ?_
                        rintro rz wq ⟨c, hc, hR⟩
                        have hnf : ¬ fitI (fun _ => 0) c := fun g => (hc.2.2.resolve_left (by have := g.1; omega)) rfl
                        obtain ⟨rfl, hRR⟩ := (hR.resolve_right (fun g => hnf g.1)).2
                        exact g_iret (pc := 115) dX12_turn_115 (Or.inr (Or.inr (Or.inr (Or.inl ⟨i, k, rfl, rfl, hi, rfl, hk, hq, rfl, hRR.1, hF1.tr hRR.2⟩))))
                      · exact absurd h8 (by omega)
            · exact absurd hd9 (by decide)
          · refine GP.weq _ e9 ?_
            refine n_if_ne (pc := 34) 44 dX12_turn_34 (by decide) (by omega) (fun hd9 => ?_) (fun hd9 => ?_)
            · exact absurd rfl hd9
            · refine g_aload_n (pc := 37) 0 dX12_turn_37 rfl rfl ?_
              refine g_bipush (pc := 38) (v := -2) dX12_turn_38 (by decide) ?_
              obtain ⟨wr, ewr⟩ : ∃ wy : Wd, wy = (w.set Y (.inr (11, .int (nI 0) :: .int st :: .ref (Y + 1) :: .ref (Y + 2) :: .ref (Y + 3) :: .ref (Y + 4) :: .int (nI pn) :: .ref (Y + 5) :: .ref (Y + 6) :: .ref (Y + 7) :: .int dg :: .ref (Y + 8) :: .int dd :: .ref (Y + 9) :: .ref (Y + 10) :: .ref (Y + 11) :: .ref (Y + 12) :: .int ld :: .int be :: .int ib :: .ref (Y + 13) :: .ref (Y + 14) :: .ref (Y + 15) :: .ref (Y + 16) :: .ref (Y + 17) :: .int (nI tl) :: .int fa :: .int re :: .int ig :: .ref (Y + 18) :: .ref (Y + 19) :: .ref (Y + 20) :: .ref (Y + 21) :: []))) := ⟨_, rfl⟩
              refine GP.weq wr ewr.symm ?_
              have hMr : mdC wr Y tl tb fa st rf sh pn pk ps im := by rw [ewr]; exact ⟨⟨_, _, _, _, _, _, _, _, (lk_eq hY)⟩, ⟨⟨_, (lk_ne (show Y ≠ (Y + 1) by omega) a1), b1⟩, ⟨_, (lk_ne (show Y ≠ (Y + 2) by omega) a2), b2⟩, ⟨_, _, (lk_ne (show Y ≠ (Y + 3) by omega) a3), (lk_ne (show Y ≠ (Y + 4) by omega) a4), b3, b4⟩, ⟨_, _, (lk_ne (show Y ≠ (Y + 5) by omega) a5), (lk_ne (show Y ≠ (Y + 6) by omega) a6), b5⟩, ⟨_, (lk_ne (show Y ≠ (Y + 11) by omega) a11), b11⟩, ⟨_, (lk_ne (show Y ≠ (Y + 17) by omega) a17), b17⟩⟩, ⟨_, _, _, _, _, _, _, _, _, _, _, (lk_ne (show Y ≠ (Y + 7) by omega) a7), (lk_ne (show Y ≠ (Y + 8) by omega) a8), (lk_ne (show Y ≠ (Y + 9) by omega) a9), (lk_ne (show Y ≠ (Y + 10) by omega) a10), (lk_ne (show Y ≠ (Y + 12) by omega) a12), (lk_ne (show Y ≠ (Y + 13) by omega) a13), (lk_ne (show Y ≠ (Y + 14) by omega) a14), (lk_ne (show Y ≠ (Y + 18) by omega) a18), (lk_ne (show Y ≠ (Y + 19) by omega) a19), (lk_ne (show Y ≠ (Y + 20) by omega) a20), (lk_ne (show Y ≠ (Y + 21) by omega) a21)⟩, ⟨_, _, (lk_ne (show Y ≠ (Y + 15) by omega) a15), (lk_ne (show Y ≠ (Y + 16) by omega) a16), b15⟩⟩
              have hFr : FR (modS Y) w wr := by rw [ewr]; exact (FR.st (c' := .inr (11, .int (nI 0) :: .int st :: .ref (Y + 1) :: .ref (Y + 2) :: .ref (Y + 3) :: .ref (Y + 4) :: .int (nI pn) :: .ref (Y + 5) :: .ref (Y + 6) :: .ref (Y + 7) :: .int dg :: .ref (Y + 8) :: .int dd :: .ref (Y + 9) :: .ref (Y + 10) :: .ref (Y + 11) :: .ref (Y + 12) :: .int ld :: .int be :: .int ib :: .ref (Y + 13) :: .ref (Y + 14) :: .ref (Y + 15) :: .ref (Y + 16) :: .ref (Y + 17) :: .int (nI tl) :: .int fa :: .int re :: .int ig :: .ref (Y + 18) :: .ref (Y + 19) :: .ref (Y + 20) :: .ref (Y + 21) :: [])) FR.rf hY rfl (by unfold modS; omega))
              refine g_callV (pc := 40) [.int (-2)] dX12_turn_40 cv_X12_96.1 cv_X12_96.2.1 cv_X12_96.2.2.1 cv_X12_96.2.2.2 (by rw [ewr]; exact (lk_eq hY)) rfl rfl (Nat.le_of_ble_eq_true rfl) (by decide) (by decide) (mq_refuse2 _ hMr) ?_
              rintro _ wq ⟨rfl, hR⟩
              exact g_iret (pc := 43) dX12_turn_43 (Or.inr (Or.inl ⟨hw, rfl, hh6, fun g => hpk g.2, ⟨rfl, hR.1, hFr.tr hR.2⟩⟩))
      · refine GP.weq _ e9 ?_
        refine n_if_eq (pc := 27) 37 dX12_turn_27 (by decide) (by omega) (fun hd9 => ?_) (fun hd9 => ?_)
        · refine g_aload_n (pc := 37) 0 dX12_turn_37 rfl rfl ?_
          refine g_bipush (pc := 38) (v := -2) dX12_turn_38 (by decide) ?_
          obtain ⟨wr, ewr⟩ : ∃ wy : Wd, wy = (w.set Y (.inr (11, .int (nI 0) :: .int st :: .ref (Y + 1) :: .ref (Y + 2) :: .ref (Y + 3) :: .ref (Y + 4) :: .int (nI pn) :: .ref (Y + 5) :: .ref (Y + 6) :: .ref (Y + 7) :: .int dg :: .ref (Y + 8) :: .int dd :: .ref (Y + 9) :: .ref (Y + 10) :: .ref (Y + 11) :: .ref (Y + 12) :: .int ld :: .int be :: .int ib :: .ref (Y + 13) :: .ref (Y + 14) :: .ref (Y + 15) :: .ref (Y + 16) :: .ref (Y + 17) :: .int (nI tl) :: .int fa :: .int re :: .int ig :: .ref (Y + 18) :: .ref (Y + 19) :: .ref (Y + 20) :: .ref (Y + 21) :: []))) := ⟨_, rfl⟩
          refine GP.weq wr ewr.symm ?_
          have hMr : mdC wr Y tl tb fa st rf sh pn pk ps im := by rw [ewr]; exact ⟨⟨_, _, _, _, _, _, _, _, (lk_eq hY)⟩, ⟨⟨_, (lk_ne (show Y ≠ (Y + 1) by omega) a1), b1⟩, ⟨_, (lk_ne (show Y ≠ (Y + 2) by omega) a2), b2⟩, ⟨_, _, (lk_ne (show Y ≠ (Y + 3) by omega) a3), (lk_ne (show Y ≠ (Y + 4) by omega) a4), b3, b4⟩, ⟨_, _, (lk_ne (show Y ≠ (Y + 5) by omega) a5), (lk_ne (show Y ≠ (Y + 6) by omega) a6), b5⟩, ⟨_, (lk_ne (show Y ≠ (Y + 11) by omega) a11), b11⟩, ⟨_, (lk_ne (show Y ≠ (Y + 17) by omega) a17), b17⟩⟩, ⟨_, _, _, _, _, _, _, _, _, _, _, (lk_ne (show Y ≠ (Y + 7) by omega) a7), (lk_ne (show Y ≠ (Y + 8) by omega) a8), (lk_ne (show Y ≠ (Y + 9) by omega) a9), (lk_ne (show Y ≠ (Y + 10) by omega) a10), (lk_ne (show Y ≠ (Y + 12) by omega) a12), (lk_ne (show Y ≠ (Y + 13) by omega) a13), (lk_ne (show Y ≠ (Y + 14) by omega) a14), (lk_ne (show Y ≠ (Y + 18) by omega) a18), (lk_ne (show Y ≠ (Y + 19) by omega) a19), (lk_ne (show Y ≠ (Y + 20) by omega) a20), (lk_ne (show Y ≠ (Y + 21) by omega) a21)⟩, ⟨_, _, (lk_ne (show Y ≠ (Y + 15) by omega) a15), (lk_ne (show Y ≠ (Y + 16) by omega) a16), b15⟩⟩
          have hFr : FR (modS Y) w wr := by rw [ewr]; exact (FR.st (c' := .inr (11, .int (nI 0) :: .int st :: .ref (Y + 1) :: .ref (Y + 2) :: .ref (Y + 3) :: .ref (Y + 4) :: .int (nI pn) :: .ref (Y + 5) :: .ref (Y + 6) :: .ref (Y + 7) :: .int dg :: .ref (Y + 8) :: .int dd :: .ref (Y + 9) :: .ref (Y + 10) :: .ref (Y + 11) :: .ref (Y + 12) :: .int ld :: .int be :: .int ib :: .ref (Y + 13) :: .ref (Y + 14) :: .ref (Y + 15) :: .ref (Y + 16) :: .ref (Y + 17) :: .int (nI tl) :: .int fa :: .int re :: .int ig :: .ref (Y + 18) :: .ref (Y + 19) :: .ref (Y + 20) :: .ref (Y + 21) :: [])) FR.rf hY rfl (by unfold modS; omega))
          refine g_callV (pc := 40) [.int (-2)] dX12_turn_40 cv_X12_96.1 cv_X12_96.2.1 cv_X12_96.2.2.1 cv_X12_96.2.2.2 (by rw [ewr]; exact (lk_eq hY)) rfl rfl (Nat.le_of_ble_eq_true rfl) (by decide) (by decide) (mq_refuse2 _ hMr) ?_
          rintro _ wq ⟨rfl, hR⟩
          exact g_iret (pc := 43) dX12_turn_43 (Or.inr (Or.inl ⟨hw, rfl, hh6, fun g => hpi g.1, ⟨rfl, hR.1, hFr.tr hR.2⟩⟩))
        · exact absurd rfl hd9
    · exact absurd hd9 (by decide)
  · refine GP.weq _ e9 ?_
    rw [IL, show (5 : Int64).toInt = 5 from by decide, L00] at hx
    refine n_if_ne (pc := 14) 23 dX12_turn_14 (by decide) (by omega) (fun hd9 => ?_) (fun hd9 => ?_)
    · exact absurd rfl hd9
    · refine g_aload_n (pc := 17) 0 dX12_turn_17 rfl rfl ?_
      refine g_iconst (pc := 18) (v := -1) dX12_turn_18 (by decide) ?_
      obtain ⟨wr, ewr⟩ : ∃ wy : Wd, wy = (w.set Y (.inr (11, .int (nI 0) :: .int st :: .ref (Y + 1) :: .ref (Y + 2) :: .ref (Y + 3) :: .ref (Y + 4) :: .int (nI pn) :: .ref (Y + 5) :: .ref (Y + 6) :: .ref (Y + 7) :: .int dg :: .ref (Y + 8) :: .int dd :: .ref (Y + 9) :: .ref (Y + 10) :: .ref (Y + 11) :: .ref (Y + 12) :: .int ld :: .int be :: .int ib :: .ref (Y + 13) :: .ref (Y + 14) :: .ref (Y + 15) :: .ref (Y + 16) :: .ref (Y + 17) :: .int (nI tl) :: .int fa :: .int re :: .int ig :: .ref (Y + 18) :: .ref (Y + 19) :: .ref (Y + 20) :: .ref (Y + 21) :: []))) := ⟨_, rfl⟩
      refine GP.weq wr ewr.symm ?_
      have hMr : mdC wr Y tl tb fa st rf sh pn pk ps im := by rw [ewr]; exact ⟨⟨_, _, _, _, _, _, _, _, (lk_eq hY)⟩, ⟨⟨_, (lk_ne (show Y ≠ (Y + 1) by omega) a1), b1⟩, ⟨_, (lk_ne (show Y ≠ (Y + 2) by omega) a2), b2⟩, ⟨_, _, (lk_ne (show Y ≠ (Y + 3) by omega) a3), (lk_ne (show Y ≠ (Y + 4) by omega) a4), b3, b4⟩, ⟨_, _, (lk_ne (show Y ≠ (Y + 5) by omega) a5), (lk_ne (show Y ≠ (Y + 6) by omega) a6), b5⟩, ⟨_, (lk_ne (show Y ≠ (Y + 11) by omega) a11), b11⟩, ⟨_, (lk_ne (show Y ≠ (Y + 17) by omega) a17), b17⟩⟩, ⟨_, _, _, _, _, _, _, _, _, _, _, (lk_ne (show Y ≠ (Y + 7) by omega) a7), (lk_ne (show Y ≠ (Y + 8) by omega) a8), (lk_ne (show Y ≠ (Y + 9) by omega) a9), (lk_ne (show Y ≠ (Y + 10) by omega) a10), (lk_ne (show Y ≠ (Y + 12) by omega) a12), (lk_ne (show Y ≠ (Y + 13) by omega) a13), (lk_ne (show Y ≠ (Y + 14) by omega) a14), (lk_ne (show Y ≠ (Y + 18) by omega) a18), (lk_ne (show Y ≠ (Y + 19) by omega) a19), (lk_ne (show Y ≠ (Y + 20) by omega) a20), (lk_ne (show Y ≠ (Y + 21) by omega) a21)⟩, ⟨_, _, (lk_ne (show Y ≠ (Y + 15) by omega) a15), (lk_ne (show Y ≠ (Y + 16) by omega) a16), b15⟩⟩
      have hFr : FR (modS Y) w wr := by rw [ewr]; exact (FR.st (c' := .inr (11, .int (nI 0) :: .int st :: .ref (Y + 1) :: .ref (Y + 2) :: .ref (Y + 3) :: .ref (Y + 4) :: .int (nI pn) :: .ref (Y + 5) :: .ref (Y + 6) :: .ref (Y + 7) :: .int dg :: .ref (Y + 8) :: .int dd :: .ref (Y + 9) :: .ref (Y + 10) :: .ref (Y + 11) :: .ref (Y + 12) :: .int ld :: .int be :: .int ib :: .ref (Y + 13) :: .ref (Y + 14) :: .ref (Y + 15) :: .ref (Y + 16) :: .ref (Y + 17) :: .int (nI tl) :: .int fa :: .int re :: .int ig :: .ref (Y + 18) :: .ref (Y + 19) :: .ref (Y + 20) :: .ref (Y + 21) :: [])) FR.rf hY rfl (by unfold modS; omega))
      refine g_callV (pc := 19) [.int (-1)] dX12_turn_19 cv_X12_96.1 cv_X12_96.2.1 cv_X12_96.2.2.1 cv_X12_96.2.2.2 (by rw [ewr]; exact (lk_eq hY)) rfl rfl (Nat.le_of_ble_eq_true rfl) (by decide) (by decide) (mq_refuse1 _ hMr) ?_
      rintro _ wq ⟨rfl, hR⟩
      exact g_iret (pc := 22) dX12_turn_22 (Or.inl ⟨hx, ⟨rfl, hR.1, hFr.tr hR.2⟩⟩)
