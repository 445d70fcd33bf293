/-! the reference: least -/
def lsQ (Lo Hi : Nat → Nat) (q i : Nat) : Prop := bitS q i ∧ ∀ j, j < 8 → j ≠ i → bitS q j → Hi i < Lo j
def lsR (Lo Hi : Nat → Nat) (q i : Nat) (v : Int32) : Prop := (v = -1 ∧ ∀ u, u < i → ¬ lsQ Lo Hi q u) ∨ ∃ p, v = nI p ∧ p < i ∧ lsQ Lo Hi q p ∧ ∀ u, p < u → u < i → ¬ lsQ Lo Hi q u
def lsM (sh : SV) (q i : Nat) (Lo Hi : Nat → Nat) (lo9 hi9 : Nat → Int32) : Prop := ∀ j, j < i → bitS q j → loB sh j (Lo j) ∧ hiB sh j (Hi j) ∧ lo9 j = nI (Lo j) ∧ hi9 j = nI (Hi j) ∧ Lo j ≤ 129987000 ∧ Hi j ≤ 129987000
def leM (sh : SV) (q : Nat) (v : Int32) : Prop := ∃ Lo Hi, (∀ j, j < 8 → bitS q j → loB sh j (Lo j) ∧ hiB sh j (Hi j)) ∧ lsR Lo Hi q 8 v
theorem lsR_y {Lo Hi : Nat → Nat} {q i : Nat} {v : Int32} (h : lsR Lo Hi q i v) (hq : lsQ Lo Hi q i) : lsR Lo Hi q (i + 1) (nI i) := Or.inr ⟨i, rfl, by omega, hq, fun u a b => absurd a (by omega)⟩
theorem lsR_n {Lo Hi : Nat → Nat} {q i : Nat} {v : Int32} (h : lsR Lo Hi q i v) (hq : ¬ lsQ Lo Hi q i) : lsR Lo Hi q (i + 1) v := by
  have U : ∀ u, u < i + 1 → u < i ∨ u = i := fun u hu => by omega
  rcases h with ⟨h1, h2⟩ | ⟨p, h1, h2, h3, h4⟩
  · refine Or.inl ⟨h1, fun u hu => ?_⟩
    rcases U u hu with g | g
    · exact h2 u g
    · rw [g]; exact hq
  · refine Or.inr ⟨p, h1, by omega, h3, fun u a hu => ?_⟩
    rcases U u hu with g | g
    · exact h4 u a g
    · rw [g]; exact hq
theorem lsM_n {sh : SV} {q i : Nat} {Lo Hi : Nat → Nat} {lo9 hi9 : Nat → Int32} (h : lsM sh q i Lo Hi lo9 hi9) (hb : ¬ bitS q i) : lsM sh q (i + 1) Lo Hi lo9 hi9 := fun j hj hjb => by
  rcases Nat.lt_or_ge j i with g | g
  · exact h j g hjb
  · rw [show j = i by omega] at hjb
    exact absurd hjb hb
theorem lsM_y {sh : SV} {q i tl th : Nat} {Lo Hi : Nat → Nat} {lo9 hi9 : Nat → Int32} (h : lsM sh q i Lo Hi lo9 hi9) (h1 : loB sh i tl) (h2 : hiB sh i th) (h3 : tl ≤ 129987000) (h4 : th ≤ 129987000) : lsM sh q (i + 1) (setO Lo i tl) (setO Hi i th) (upd lo9 i (nI tl)) (upd hi9 i (nI th)) := fun j hj hjb => by
  by_cases e : j = i
  · rw [e, setO_s, setO_s, upd_s, upd_s]
    exact ⟨h1, h2, rfl, rfl, h3, h4⟩
  · rw [setO_n e, setO_n e, upd_n e, upd_n e]
    exact h j (by omega) hjb
abbrev BX12_least (w0 : Wd) (Post : Option Value → Wd → Prop) (w : Wd) (pc : Nat) (ls : List (Nat × Value)) (st : List Value) : Prop := GP "least" RX12 cX12_least 6 (some .int) 6 234 none w0 Post w pc ls st
abbrev EX12_least (As : List Value) (w : Wd) (Post : Option Value → Wd → Prop) : Prop := EP yX12_least cX12_least 6 (some .int) 6 As w Post
theorem le_in0 {w0 w : Wd} {Y tl : Nat} {tb : Nat → Int32} {fa st : Int32} {rf : Nat → Nat} {sh : SV} {pn : Nat} {pk : Nat → Nat} {ps : Nat → SV} {im : Nat → Option SV} {q : Nat} (hq : q < 256) {Lo Hi : Nat → Nat} {lo9 hi9 : Nat → Int32} {w1 : Wd} (hM1 : mdC w1 Y tl tb fa st rf sh pn pk ps im) (hF1 : FR (modS Y) w w1) (c20 : w1[Y + 20]? = some (aI 0 8 lo9)) (c21 : w1[Y + 21]? = some (aI 0 8 hi9)) (hI : lsM sh q 8 Lo Hi lo9 hi9) {i : Nat} {its : Int32} (hi : i < 8) (hno : ¬ lsQ Lo Hi q i) (K0 : ¬ lsQ Lo Hi q i → BX12_least w0 (fun r w' => ∃ v, r = some (.int v) ∧ leM sh q v ∧ mdC w' Y tl tb fa st rf sh pn pk ps im ∧ FR (modS Y) w w') w1 156 [(4, .int (nI 0)), (3, .int (nI i)), (2, .int its), (1, .int (nI q)), (0, .ref Y)] []) : ∀ (z j : Nat), 8 = j + z → BX12_least w0 (fun r w' => ∃ v, r = some (.int v) ∧ leM sh q v ∧ mdC w' Y tl tb fa st rf sh pn pk ps im ∧ FR (modS Y) w w') w1 100 [(5, .int (nI j)), (4, .int (nI 0)), (3, .int (nI i)), (2, .int its), (1, .int (nI q)), (0, .ref Y)] [] := by
  intro z
  induction z with
  | zero =>
    intro j hz
    refine g_iload (pc := 100) 0 dX12_least_100 rfl ?_
    refine g_bipush (pc := 102) (v := nI 8) dX12_least_102 (by decide) ?_
    refine n_icmp_ge (pc := 104) 156 dX12_least_104 (by decide) (by omega) (by omega) (fun hb9 => ?_) (fun hb9 => ?_)
    · exact GP.lsub _ (by simp) (K0 hno)
    · exact absurd hb9 (by omega)
  | succ z ih =>
    intro j hz
    obtain ⟨th9, dg9, dd9, ld9, be9, ib9, re9, ig9, cY⟩ := id hM1.1
    refine g_iload (pc := 100) 0 dX12_least_100 rfl ?_
    refine g_bipush (pc := 102) (v := nI 8) dX12_least_102 (by decide) ?_
    refine n_icmp_ge (pc := 104) 156 dX12_least_104 (by decide) (by omega) (by omega) (fun hb9 => ?_) (fun hb9 => ?_)
    · exact absurd hb9 (by omega)
    · refine g_iload (pc := 107) 1 dX12_least_107 rfl ?_
      refine n_if_eq (pc := 109) 147 dX12_least_109 (by decide) (by omega) (fun hs9 => ?_) (fun hs9 => ?_)
      · refine g_iconst (pc := 147) (v := nI 0) dX12_least_147 (by decide) ?_
        refine g_istore (pc := 148) [(4, .int (nI 0)), (5, .int (nI j)), (3, .int (nI i)), (2, .int its), (1, .int (nI q)), (0, .ref Y)] dX12_least_148 (by decide) rfl ?_
        refine n_iinc (pc := 150) (c := 1) [(5, .int (nI (j + 1))), (4, .int (nI 0)), (3, .int (nI i)), (2, .int its), (1, .int (nI q)), (0, .ref Y)] 1 dX12_least_150 rfl (by decide) (by decide) rfl ?_
        refine g_goto (pc := 153) 100 dX12_least_153 (by decide) ?_
        exact GP.lsub _ (by simp) (ih (j + 1) (by omega))
      · exact absurd rfl hs9
theorem le_in1 {w0 w : Wd} {Y tl : Nat} {tb : Nat → Int32} {fa st : Int32} {rf : Nat → Nat} {sh : SV} {pn : Nat} {pk : Nat → Nat} {ps : Nat → SV} {im : Nat → Option SV} {q : Nat} (hq : q < 256) {Lo Hi : Nat → Nat} {lo9 hi9 : Nat → Int32} {w1 : Wd} (hM1 : mdC w1 Y tl tb fa st rf sh pn pk ps im) (hF1 : FR (modS Y) w w1) (c20 : w1[Y + 20]? = some (aI 0 8 lo9)) (c21 : w1[Y + 21]? = some (aI 0 8 hi9)) (hI : lsM sh q 8 Lo Hi lo9 hi9) {i : Nat} {its : Int32} (hi : i < 8) (hbi : bitS q i) (K0 : ¬ lsQ Lo Hi q i → BX12_least w0 (fun r w' => ∃ v, r = some (.int v) ∧ leM sh q v ∧ mdC w' Y tl tb fa st rf sh pn pk ps im ∧ FR (modS Y) w w') w1 156 [(4, .int (nI 0)), (3, .int (nI i)), (2, .int its), (1, .int (nI q)), (0, .ref Y)] []) (K1 : lsQ Lo Hi q i → BX12_least w0 (fun r w' => ∃ v, r = some (.int v) ∧ leM sh q v ∧ mdC w' Y tl tb fa st rf sh pn pk ps im ∧ FR (modS Y) w w') w1 156 [(4, .int (nI 1)), (3, .int (nI i)), (2, .int its), (1, .int (nI q)), (0, .ref Y)] []) : ∀ (z j : Nat), 8 = j + z → (∀ u, u < j → u ≠ i → bitS q u → Hi i < Lo u) → BX12_least w0 (fun r w' => ∃ v, r = some (.int v) ∧ leM sh q v ∧ mdC w' Y tl tb fa st rf sh pn pk ps im ∧ FR (modS Y) w w') w1 100 [(5, .int (nI j)), (4, .int (nI 1)), (3, .int (nI i)), (2, .int its), (1, .int (nI q)), (0, .ref Y)] [] := by
  intro z
  induction z with
  | zero =>
    intro j hz hj
    refine g_iload (pc := 100) 0 dX12_least_100 rfl ?_
    refine g_bipush (pc := 102) (v := nI 8) dX12_least_102 (by decide) ?_
    refine n_icmp_ge (pc := 104) 156 dX12_least_104 (by decide) (by omega) (by omega) (fun hb9 => ?_) (fun hb9 => ?_)
    · exact GP.lsub _ (by simp) (K1 ⟨hbi, fun u hu => hj u (by omega)⟩)
    · exact absurd hb9 (by omega)
  | succ z ih =>
    intro j hz hj
    obtain ⟨th9, dg9, dd9, ld9, be9, ib9, re9, ig9, cY⟩ := id hM1.1
    refine g_iload (pc := 100) 0 dX12_least_100 rfl ?_
    refine g_bipush (pc := 102) (v := nI 8) dX12_least_102 (by decide) ?_
    refine n_icmp_ge (pc := 104) 156 dX12_least_104 (by decide) (by omega) (by omega) (fun hb9 => ?_) (fun hb9 => ?_)
    · exact absurd hb9 (by omega)
    · refine g_iload (pc := 107) 1 dX12_least_107 rfl ?_
      refine n_if_eq (pc := 109) 147 dX12_least_109 (by decide) (by omega) (fun hs9 => ?_) (fun hs9 => ?_)
      · exact absurd hs9 (by decide)
      · refine g_iload (pc := 112) 0 dX12_least_112 rfl ?_
        refine g_iload_n (pc := 114) 2 dX12_least_114 rfl rfl ?_
        refine n_icmp_eq (pc := 115) 143 dX12_least_115 (by decide) (by omega) (by omega) (fun hji => ?_) (fun hji => ?_)
        · refine g_iconst (pc := 143) (v := nI 1) dX12_least_143 (by decide) ?_
          refine g_goto (pc := 144) 148 dX12_least_144 (by decide) ?_
          refine g_istore (pc := 148) [(4, .int (nI 1)), (5, .int (nI j)), (3, .int (nI i)), (2, .int its), (1, .int (nI q)), (0, .ref Y)] dX12_least_148 (by decide) rfl ?_
          refine n_iinc (pc := 150) (c := 1) [(5, .int (nI (j + 1))), (4, .int (nI 1)), (3, .int (nI i)), (2, .int its), (1, .int (nI q)), (0, .ref Y)] 1 dX12_least_150 rfl (by decide) (by decide) rfl ?_
          refine g_goto (pc := 153) 100 dX12_least_153 (by decide) ?_
          refine GP.lsub _ (by simp) (ih (j + 1) (by omega) (fun u hu hui hub => ?_))
          rcases Nat.lt_or_ge u j with g | g
          · exact hj u g hui hub
          · have e9 : u = j := by omega
            exact absurd (e9.trans hji) hui
        · refine g_iload_n (pc := 118) 4 dX12_least_118 rfl rfl ?_
          refine g_iload (pc := 119) 0 dX12_least_119 rfl ?_
          refine g_ishr (pc := 121) dX12_least_121 ?_
          refine g_iconst (pc := 122) (v := nI 1) dX12_least_122 (by decide) ?_
          refine g_iand (pc := 123) dX12_least_123 ?_
          refine GP.ti (nI (q / 2 ^ j % 2)) (bit_n hq (by omega)) ?_
          refine n_if_eq (pc := 124) 143 dX12_least_124 (by decide) (by omega) (fun hbit => ?_) (fun hbit => ?_)
          · refine g_iconst (pc := 143) (v := nI 1) dX12_least_143 (by decide) ?_
            refine g_goto (pc := 144) 148 dX12_least_144 (by decide) ?_
            refine g_istore (pc := 148) [(4, .int (nI 1)), (5, .int (nI j)), (3, .int (nI i)), (2, .int its), (1, .int (nI q)), (0, .ref Y)] dX12_least_148 (by decide) rfl ?_
            refine n_iinc (pc := 150) (c := 1) [(5, .int (nI (j + 1))), (4, .int (nI 1)), (3, .int (nI i)), (2, .int its), (1, .int (nI q)), (0, .ref Y)] 1 dX12_least_150 rfl (by decide) (by decide) rfl ?_
            refine g_goto (pc := 153) 100 dX12_least_153 (by decide) ?_
            refine GP.lsub _ (by simp) (ih (j + 1) (by omega) (fun u hu hui hub => ?_))
            rcases Nat.lt_or_ge u j with g | g
            · exact hj u g hui hub
            · have e9 : u = j := by omega
              rw [e9] at hub
              exact absurd (show q / 2 ^ j % 2 = 1 from hub) (by omega)
          · have hbj : bitS q j := by show q / 2 ^ j % 2 = 1; omega
            obtain ⟨-, -, -, hg1, -, hg2⟩ := hI i hi hbi
            obtain ⟨-, -, hg3, -, hg4, -⟩ := hI j (by omega) hbj
            refine g_aload_n (pc := 127) 5 dX12_least_127 rfl rfl ?_
            refine g_get (pc := 128) dX12_least_128 fk_X12_77 cY rfl ?_
            refine g_iload_n (pc := 131) 2 dX12_least_131 rfl rfl ?_
            refine g_iald (pc := 132) i dX12_least_132 c21 (IXn (by omega) (by omega)) ?_
            refine GP.ti (nI (Hi i)) hg1 ?_
            refine g_aload_n (pc := 133) 5 dX12_least_133 rfl rfl ?_
            refine g_get (pc := 134) dX12_least_134 fk_X12_74 cY rfl ?_
            refine g_iload (pc := 137) 0 dX12_least_137 rfl ?_
            refine g_iald (pc := 139) j dX12_least_139 c20 (IXn (by omega) (by omega)) ?_
            refine GP.ti (nI (Lo j)) hg3 ?_
            refine n_icmp_ge (pc := 140) 147 dX12_least_140 (by decide) (by omega) (by omega) (fun hlt => ?_) (fun hlt => ?_)
            · refine g_iconst (pc := 147) (v := nI 0) dX12_least_147 (by decide) ?_
              refine g_istore (pc := 148) [(4, .int (nI 0)), (5, .int (nI j)), (3, .int (nI i)), (2, .int its), (1, .int (nI q)), (0, .ref Y)] dX12_least_148 (by decide) rfl ?_
              refine n_iinc (pc := 150) (c := 1) [(5, .int (nI (j + 1))), (4, .int (nI 0)), (3, .int (nI i)), (2, .int its), (1, .int (nI q)), (0, .ref Y)] 1 dX12_least_150 rfl (by decide) (by decide) rfl ?_
              refine g_goto (pc := 153) 100 dX12_least_153 (by decide) ?_
              exact GP.lsub _ (by simp) (le_in0 hq hM1 hF1 c20 c21 hI hi (fun g => absurd (g.2 j (by omega) hji hbj) (by omega)) K0 z (j + 1) (by omega))
            · refine g_iconst (pc := 143) (v := nI 1) dX12_least_143 (by decide) ?_
              refine g_goto (pc := 144) 148 dX12_least_144 (by decide) ?_
              refine g_istore (pc := 148) [(4, .int (nI 1)), (5, .int (nI j)), (3, .int (nI i)), (2, .int its), (1, .int (nI q)), (0, .ref Y)] dX12_least_148 (by decide) rfl ?_
              refine n_iinc (pc := 150) (c := 1) [(5, .int (nI (j + 1))), (4, .int (nI 1)), (3, .int (nI i)), (2, .int its), (1, .int (nI q)), (0, .ref Y)] 1 dX12_least_150 rfl (by decide) (by decide) rfl ?_
              refine g_goto (pc := 153) 100 dX12_least_153 (by decide) ?_
              refine GP.lsub _ (by simp) (ih (j + 1) (by omega) (fun u hu hui hub => ?_))
              rcases Nat.lt_or_ge u j with g | g
              · exact hj u g hui hub
              · have e9 : u = j := by omega
                rw [e9]
                omega
theorem le_out {w0 w : Wd} {Y tl : Nat} {tb : Nat → Int32} {fa st : Int32} {rf : Nat → Nat} {sh : SV} {pn : Nat} {pk : Nat → Nat} {ps : Nat → SV} {im : Nat → Option SV} {q : Nat} (hq : q < 256) {Lo Hi : Nat → Nat} {lo9 hi9 : Nat → Int32} {w1 : Wd} (hM1 : mdC w1 Y tl tb fa st rf sh pn pk ps im) (hF1 : FR (modS Y) w w1) (c20 : w1[Y + 20]? = some (aI 0 8 lo9)) (c21 : w1[Y + 21]? = some (aI 0 8 hi9)) (hI : lsM sh q 8 Lo Hi lo9 hi9) : ∀ (z i : Nat) (its : Int32), 8 = i + z → lsR Lo Hi q i its → BX12_least w0 (fun r w' => ∃ v, r = some (.int v) ∧ leM sh q v ∧ mdC w' Y tl tb fa st rf sh pn pk ps im ∧ FR (modS Y) w w') w1 75 [(3, .int (nI i)), (2, .int its), (1, .int (nI q)), (0, .ref Y)] [] := by
  intro z
  induction z with
  | zero =>
    intro i its hz hR
    refine g_iload_n (pc := 75) 0 dX12_least_75 rfl rfl ?_
    refine g_bipush (pc := 76) (v := nI 8) dX12_least_76 (by decide) ?_
    refine n_icmp_ge (pc := 78) 173 dX12_least_78 (by decide) (by omega) (by omega) (fun hb9 => ?_) (fun hb9 => ?_)
    · have e9 : i = 8 := by omega
      rw [e9] at hR
      refine g_iload_n (pc := 173) 1 dX12_least_173 rfl rfl ?_
      exact g_iret (pc := 174) dX12_least_174 ⟨its, rfl, ⟨Lo, Hi, fun j hj hb => ⟨(hI j hj hb).1, (hI j hj hb).2.1⟩, hR⟩, hM1, hF1⟩
    · exact absurd hb9 (by omega)
  | succ z ih =>
    intro i its hz hR
    refine g_iload_n (pc := 75) 0 dX12_least_75 rfl rfl ?_
    refine g_bipush (pc := 76) (v := nI 8) dX12_least_76 (by decide) ?_
    refine n_icmp_ge (pc := 78) 173 dX12_least_78 (by decide) (by omega) (by omega) (fun hb9 => ?_) (fun hb9 => ?_)
    · exact absurd hb9 (by omega)
    · have K0 : ¬ lsQ Lo Hi q i → BX12_least w0 (fun r w' => ∃ v, r = some (.int v) ∧ leM sh q v ∧ mdC w' Y tl tb fa st rf sh pn pk ps im ∧ FR (modS Y) w w') w1 156 [(4, .int (nI 0)), (3, .int (nI i)), (2, .int its), (1, .int (nI q)), (0, .ref Y)] [] := by
        intro hno
        refine g_iload (pc := 156) 0 dX12_least_156 rfl ?_
        refine n_if_eq (pc := 158) 165 dX12_least_158 (by decide) (by omega) (fun h0 => ?_) (fun h0 => ?_)
        · refine g_iload_n (pc := 165) 2 dX12_least_165 rfl rfl ?_
          refine g_istore_n (pc := 166) [(2, .int its), (4, .int (nI 0)), (3, .int (nI i)), (1, .int (nI q)), (0, .ref Y)] dX12_least_166 rfl (by decide) rfl ?_
          refine n_iinc (pc := 167) (c := 1) [(3, .int (nI (i + 1))), (2, .int its), (4, .int (nI 0)), (1, .int (nI q)), (0, .ref Y)] 2 dX12_least_167 rfl (by decide) (by decide) rfl ?_
          refine g_goto (pc := 170) 75 dX12_least_170 (by decide) ?_
          exact GP.lsub _ (by simp) (ih (i + 1) its (by omega) (lsR_n hR hno))
        · exact absurd rfl h0
      have K1 : lsQ Lo Hi q i → BX12_least w0 (fun r w' => ∃ v, r = some (.int v) ∧ leM sh q v ∧ mdC w' Y tl tb fa st rf sh pn pk ps im ∧ FR (modS Y) w w') w1 156 [(4, .int (nI 1)), (3, .int (nI i)), (2, .int its), (1, .int (nI q)), (0, .ref Y)] [] := by
        intro hyes
        refine g_iload (pc := 156) 0 dX12_least_156 rfl ?_
        refine n_if_eq (pc := 158) 165 dX12_least_158 (by decide) (by omega) (fun h0 => ?_) (fun h0 => ?_)
        · exact absurd h0 (by decide)
        · refine g_iload_n (pc := 161) 1 dX12_least_161 rfl rfl ?_
          refine g_goto (pc := 162) 166 dX12_least_162 (by decide) ?_
          refine g_istore_n (pc := 166) [(2, .int (nI i)), (4, .int (nI 1)), (3, .int (nI i)), (1, .int (nI q)), (0, .ref Y)] dX12_least_166 rfl (by decide) rfl ?_
          refine n_iinc (pc := 167) (c := 1) [(3, .int (nI (i + 1))), (2, .int (nI i)), (4, .int (nI 1)), (1, .int (nI q)), (0, .ref Y)] 2 dX12_least_167 rfl (by decide) (by decide) rfl ?_
          refine g_goto (pc := 170) 75 dX12_least_170 (by decide) ?_
          exact GP.lsub _ (by simp) (ih (i + 1) (nI i) (by omega) (lsR_y hR hyes))
      refine g_iload_n (pc := 81) 2 dX12_least_81 rfl rfl ?_
      refine g_iload_n (pc := 82) 0 dX12_least_82 rfl rfl ?_
      refine g_ishr (pc := 83) dX12_least_83 ?_
      refine g_iconst (pc := 84) (v := nI 1) dX12_least_84 (by decide) ?_
      refine g_iand (pc := 85) dX12_least_85 ?_
      refine GP.ti (nI (q / 2 ^ i % 2)) (bit_n hq (by omega)) ?_
      refine g_iconst (pc := 86) (v := nI 1) dX12_least_86 (by decide) ?_
      refine n_icmp_ne (pc := 87) 94 dX12_least_87 (by decide) (by omega) (by omega) (fun hbit => ?_) (fun hbit => ?_)
      · refine g_iconst (pc := 94) (v := nI 0) dX12_least_94 (by decide) ?_
        refine g_istore (pc := 95) [(4, .int (nI 0)), (3, .int (nI i)), (2, .int its), (1, .int (nI q)), (0, .ref Y)] dX12_least_95 (by decide) rfl ?_
        refine g_iconst (pc := 97) (v := nI 0) dX12_least_97 (by decide) ?_
        refine g_istore (pc := 98) [(5, .int (nI 0)), (4, .int (nI 0)), (3, .int (nI i)), (2, .int its), (1, .int (nI q)), (0, .ref Y)] dX12_least_98 (by decide) rfl ?_
        exact GP.lsub _ (by simp) (le_in0 hq hM1 hF1 c20 c21 hI (by omega) (fun g => hbit g.1) K0 8 0 (by omega))
      · refine g_iconst (pc := 90) (v := nI 1) dX12_least_90 (by decide) ?_
        refine g_goto (pc := 91) 95 dX12_least_91 (by decide) ?_
        refine g_istore (pc := 95) [(4, .int (nI 1)), (3, .int (nI i)), (2, .int its), (1, .int (nI q)), (0, .ref Y)] dX12_least_95 (by decide) rfl ?_
        refine g_iconst (pc := 97) (v := nI 0) dX12_least_97 (by decide) ?_
        refine g_istore (pc := 98) [(5, .int (nI 0)), (4, .int (nI 1)), (3, .int (nI i)), (2, .int its), (1, .int (nI q)), (0, .ref Y)] dX12_least_98 (by decide) rfl ?_
        exact GP.lsub _ (by simp) (le_in1 hq hM1 hF1 c20 c21 hI (by omega) hbit K0 K1 8 0 (by omega) (fun u hu => absurd hu (by omega)))
theorem le_fst {w0 w : Wd} {Y tl : Nat} {tb : Nat → Int32} {fa st : Int32} {rf : Nat → Nat} {sh : SV} {pn : Nat} {pk : Nat → Nat} {ps : Nat → SV} {im : Nat → Option SV} {q : Nat} (hq : q < 256) : ∀ (z i : Nat) (w1 : Wd) (Lo Hi : Nat → Nat) (lo9 hi9 : Nat → Int32), 8 = i + z → mdC w1 Y tl tb fa st rf sh pn pk ps im → FR (modS Y) w w1 → w1[Y + 20]? = some (aI 0 8 lo9) → w1[Y + 21]? = some (aI 0 8 hi9) → lsM sh q i Lo Hi lo9 hi9 → BX12_least w0 (fun r w' => ∃ v, r = some (.int v) ∧ leM sh q v ∧ mdC w' Y tl tb fa st rf sh pn pk ps im ∧ FR (modS Y) w w') w1 21 [(2, .int (nI i)), (1, .int (nI q)), (0, .ref Y)] [] := by
  intro z
  induction z with
  | zero =>
    intro i w1 Lo Hi lo9 hi9 hz hM1 hF1 c20 c21 hI
    refine g_iload_n (pc := 21) 0 dX12_least_21 rfl rfl ?_
    refine g_bipush (pc := 22) (v := nI 8) dX12_least_22 (by decide) ?_
    refine n_icmp_ge (pc := 24) 71 dX12_least_24 (by decide) (by omega) (by omega) (fun hb9 => ?_) (fun hb9 => ?_)
    · have e9 : i = 8 := by omega
      rw [e9] at hI
      refine g_iconst (pc := 71) (v := -1) dX12_least_71 (by decide) ?_
      refine g_istore_n (pc := 72) [(2, .int (-1)), (1, .int (nI q)), (0, .ref Y)] dX12_least_72 rfl (by decide) rfl ?_
      refine g_iconst (pc := 73) (v := nI 0) dX12_least_73 (by decide) ?_
      refine g_istore_n (pc := 74) [(3, .int (nI 0)), (2, .int (-1)), (1, .int (nI q)), (0, .ref Y)] dX12_least_74 rfl (by decide) rfl ?_
      exact GP.lsub _ (by simp) (le_out hq hM1 hF1 c20 c21 hI 8 0 (-1) (by omega) (Or.inl ⟨rfl, fun u hu => absurd hu (by omega)⟩))
    · exact absurd hb9 (by omega)
  | succ z ih =>
    intro i w1 Lo Hi lo9 hi9 hz hM1 hF1 c20 c21 hI
    obtain ⟨th9, dg9, dd9, ld9, be9, ib9, re9, ig9, cY⟩ := id hM1.1
    refine g_iload_n (pc := 21) 0 dX12_least_21 rfl rfl ?_
    refine g_bipush (pc := 22) (v := nI 8) dX12_least_22 (by decide) ?_
    refine n_icmp_ge (pc := 24) 71 dX12_least_24 (by decide) (by omega) (by omega) (fun hb9 => ?_) (fun hb9 => ?_)
    · exact absurd hb9 (by omega)
    · refine g_iload_n (pc := 27) 1 dX12_least_27 rfl rfl ?_
      refine g_iload_n (pc := 28) 0 dX12_least_28 rfl rfl ?_
      refine g_ishr (pc := 29) dX12_least_29 ?_
      refine g_iconst (pc := 30) (v := nI 1) dX12_least_30 (by decide) ?_
      refine g_iand (pc := 31) dX12_least_31 ?_
      refine GP.ti (nI (q / 2 ^ i % 2)) (bit_n hq (by omega)) ?_
      refine g_iconst (pc := 32) (v := nI 1) dX12_least_32 (by decide) ?_
      refine n_icmp_ne (pc := 33) 65 dX12_least_33 (by decide) (by omega) (by omega) (fun hbit => ?_) (fun hbit => ?_)
      · refine n_iinc (pc := 65) (c := 1) [(2, .int (nI (i + 1))), (1, .int (nI q)), (0, .ref Y)] 0 dX12_least_65 rfl (by decide) (by decide) rfl ?_
        refine g_goto (pc := 68) 21 dX12_least_68 (by decide) ?_
        exact GP.lsub _ (by simp) (ih (i + 1) w1 Lo Hi lo9 hi9 (by omega) hM1 hF1 c20 c21 (lsM_n hI hbit))
      · refine g_aload_n (pc := 36) 2 dX12_least_36 rfl rfl ?_
        refine g_iload_n (pc := 37) 0 dX12_least_37 rfl rfl ?_
        refine g_callV (pc := 38) [.int (nI i)] dX12_least_38 cv_X12_349.1 cv_X12_349.2.1 cv_X12_349.2.2.1 cv_X12_349.2.2.2 cY rfl rfl (Nat.le_of_ble_eq_true rfl) (by decide) (by decide) (mq_layBounds _ hM1 (i := i) (by omega)) ?_
        rintro _ w2 ⟨rfl, T, bo, htp, hbo, ⟨kl, tl8, kh, th8, i1, i2, i3, i4, i5, i6, i7, i8⟩, hM2, hF2, k20, k21⟩
        obtain ⟨th7, dg7, dd7, ld7, be7, ib7, re7, ig7, cY2⟩ := id hM2.1
        refine g_aload_n (pc := 41) 2 dX12_least_41 rfl rfl ?_
        refine g_get (pc := 42) dX12_least_42 fk_X12_74 cY2 rfl ?_
        refine g_iload_n (pc := 45) 0 dX12_least_45 rfl rfl ?_
        refine g_aload_n (pc := 46) 2 dX12_least_46 rfl rfl ?_
        refine g_get (pc := 47) dX12_least_47 fk_X12_71 cY2 rfl ?_
        refine g_iconst (pc := 50) (v := nI 0) dX12_least_50 (by decide) ?_
        refine g_iald (pc := 51) 0 dX12_least_51 hbo (IXn (by omega) (by omega)) ?_
        refine GP.ti (nI tl8) i3 ?_
        refine g_iast (pc := 52) i dX12_least_52 (k20 _ c20) (IXn (by omega) (by omega)) ?_
        refine g_aload_n (pc := 53) 2 dX12_least_53 rfl rfl ?_
        refine g_get (pc := 54) dX12_least_54 fk_X12_77 (lk_ne (show (Y + 20) ≠ Y by omega) cY2) rfl ?_
        refine g_iload_n (pc := 57) 0 dX12_least_57 rfl rfl ?_
        refine g_aload_n (pc := 58) 2 dX12_least_58 rfl rfl ?_
        refine g_get (pc := 59) dX12_least_59 fk_X12_71 (lk_ne (show (Y + 20) ≠ Y by omega) cY2) rfl ?_
        refine g_iconst (pc := 62) (v := nI 1) dX12_least_62 (by decide) ?_
        refine g_iald (pc := 63) 1 dX12_least_63 (lk_ne (show (Y + 20) ≠ (Y + 19) by omega) hbo) (IXn (by omega) (by omega)) ?_
        refine GP.ti (nI th8) i4 ?_
        refine g_iast (pc := 64) i dX12_least_64 (lk_ne (show (Y + 20) ≠ (Y + 21) by omega) (k21 _ c21)) (IXn (by omega) (by omega)) ?_
        refine n_iinc (pc := 65) (c := 1) [(2, .int (nI (i + 1))), (1, .int (nI q)), (0, .ref Y)] 0 dX12_least_65 rfl (by decide) (by decide) rfl ?_
        refine g_goto (pc := 68) 21 dX12_least_68 (by decide) ?_
        have hRb : FR (bdS Y) w2 ((w2.set (Y + 20) (aI 0 8 (upd lo9 i (nI tl8)))).set (Y + 21) (aI 0 8 (upd hi9 i (nI th8)))) := (FR.st (c' := aI 0 8 (upd hi9 i (nI th8))) (FR.st (c' := aI 0 8 (upd lo9 i (nI tl8))) FR.rf (k20 _ c20) rfl (by unfold bdS; omega)) (lk_ne (show (Y + 20) ≠ (Y + 21) by omega) (k21 _ c21)) rfl (by unfold bdS; omega))
        obtain ⟨hM4, hF4⟩ := hM2.bd hRb (lk_ne (show (Y + 21) ≠ (Y + 19) by omega) (lk_ne (show (Y + 20) ≠ (Y + 19) by omega) hbo)) (lk_ne (show (Y + 21) ≠ (Y + 20) by omega) (lk_eq (k20 _ c20))) (lk_eq (lk_ne (show (Y + 20) ≠ (Y + 21) by omega) (k21 _ c21)))
        exact GP.lsub _ (by simp) (ih (i + 1) _ _ _ _ _ (by omega) hM4 (hF1.tr (hF2.tr hF4)) (lk_ne (show (Y + 21) ≠ (Y + 20) by omega) (lk_eq (k20 _ c20))) (lk_eq (lk_ne (show (Y + 20) ≠ (Y + 21) by omega) (k21 _ c21))) (lsM_y hI ⟨T, kl, htp, i1⟩ ⟨T, kh, htp, i2⟩ i7 i8))
theorem L255 : (255 : Int64).toInt = 255 := by decide
theorem q8_of {x : Int32} (h : 1 ≤ x.toInt ∧ x.toInt ≤ 255) : ∃ q, x = nI q ∧ 0 < q ∧ q < 256 := ⟨x.toInt.toNat, nI_toNat (by omega), by omega, by omega⟩
theorem mq_least (w : Wd) {Y tl : Nat} {tb : Nat → Int32} {fa st : Int32} {rf : Nat → Nat} {sh : SV} {pn : Nat} {pk : Nat → Nat} {ps : Nat → SV} {im : Nat → Option SV} (hM : mdC w Y tl tb fa st rf sh pn pk ps im) {x : Int32} : EX12_least [.ref Y, .int x] w (fun r w' => (¬ (1 ≤ x.toInt ∧ x.toInt ≤ 255) ∧ r = some (.int (-1)) ∧ mdC w' Y tl tb fa st rf sh pn pk ps im ∧ FR (modS Y) w w') ∨ (∃ q v, x = nI q ∧ 0 < q ∧ q < 256 ∧ r = some (.int v) ∧ leM sh q v ∧ mdC w' Y tl tb fa st rf sh pn pk ps im ∧ FR (modS Y) w w')) := by
  refine EP.of (plainFor_of_name (by decide)) [(0, .ref Y), (1, .int x)] rfl (Nat.le_of_ble_eq_true rfl) (fun r wf h => by rcases h with ⟨-, rfl, -⟩ | ⟨q, v, -, -, -, rfl, -⟩ <;> trivial) ?_
  show BX12_least w _ w 0 [(0, .ref Y), (1, .int x)] []
  obtain ⟨⟨th, dg, dd, ld, be, ib, re, ig, hY⟩, ⟨⟨g1, a1, b1⟩, ⟨g2, a2, b2⟩, ⟨g3, g4, a3, a4, b3, b4⟩, ⟨g5, g6, a5, a6, b5⟩, ⟨g11, a11, b11⟩, ⟨g17, a17, b17⟩⟩, ⟨g7, g8, g9, g10, g12, g13, g14, g18, g19, g20, g21, a7, a8, a9, a10, a12, a13, a14, a18, a19, a20, a21⟩, ⟨g15, g16, a15, a16, b15⟩⟩ := id hM
  refine g_aload_n (pc := 0) 0 dX12_least_0 rfl rfl ?_
  refine g_iconst (pc := 1) (v := nI 0) dX12_least_1 (by decide) ?_
  refine g_put (pc := 2) (.int (nI 0) :: .int st :: .ref (Y + 1) :: .ref (Y + 2) :: .ref (Y + 3) :: .ref (Y + 4) :: .int (nI pn) :: .ref (Y + 5) :: .ref (Y + 6) :: .ref (Y + 7) :: .int dg :: .ref (Y + 8) :: .int dd :: .ref (Y + 9) :: .ref (Y + 10) :: .ref (Y + 11) :: .ref (Y + 12) :: .int ld :: .int be :: .int ib :: .ref (Y + 13) :: .ref (Y + 14) :: .ref (Y + 15) :: .ref (Y + 16) :: .ref (Y + 17) :: .int (nI tl) :: .int fa :: .int re :: .int ig :: .ref (Y + 18) :: .ref (Y + 19) :: .ref (Y + 20) :: .ref (Y + 21) :: []) dX12_least_2 fk_X12_83 hY (Nat.le_of_ble_eq_true rfl) rfl rfl ?_
  refine g_iload_n (pc := 5) 1 dX12_least_5 rfl rfl ?_
  refine g_i2l (pc := 6) dX12_least_6 ?_
  refine g_lconst (pc := 7) (v := 1) dX12_least_7 (by decide) ?_
  refine g_ldc2 (pc := 8) kc_X12_365 dX12_least_8 ?_
  refine g_callS (pc := 11) [.long x.toInt64, .long 1, .long (255)] dX12_least_11 cs_X12_103.1 cs_X12_103.2 rfl rfl (Nat.le_of_ble_eq_true rfl) (by decide) (by decide) (mp_in _) ?_
  rintro _ w9 (⟨rfl, hz, e9⟩ | ⟨rfl, hz, e9⟩)
  · refine GP.weq _ e9 ?_
    rw [IL, L255, L1] at hz
    obtain ⟨q, rfl, hq0, hq⟩ := q8_of hz
    refine n_if_ne (pc := 14) 19 dX12_least_14 (by decide) (by omega) (fun hd9 => ?_) (fun hd9 => ?_)
    · refine g_iconst (pc := 19) (v := nI 0) dX12_least_19 (by decide) ?_
      refine g_istore_n (pc := 20) [(2, .int (nI 0)), (0, .ref Y), (1, .int (nI q))] dX12_least_20 rfl (by decide) rfl ?_
      obtain ⟨w1, ew1⟩ : ∃ wy : Wd, wy = (w.set Y (.inr (11, .int (nI 0) :: .int st :: .ref (Y + 1) :: .ref (Y + 2) :: .ref (Y + 3) :: .ref (Y + 4) :: .int (nI pn) :: .ref (Y + 5) :: .ref (Y + 6) :: .ref (Y + 7) :: .int dg :: .ref (Y + 8) :: .int dd :: .ref (Y + 9) :: .ref (Y + 10) :: .ref (Y + 11) :: .ref (Y + 12) :: .int ld :: .int be :: .int ib :: .ref (Y + 13) :: .ref (Y + 14) :: .ref (Y + 15) :: .ref (Y + 16) :: .ref (Y + 17) :: .int (nI tl) :: .int fa :: .int re :: .int ig :: .ref (Y + 18) :: .ref (Y + 19) :: .ref (Y + 20) :: .ref (Y + 21) :: []))) := ⟨_, rfl⟩
      refine GP.weq w1 ew1.symm ?_
      have hMb : mdC w1 Y tl tb fa st rf sh pn pk ps im := by rw [ew1]; exact ⟨⟨_, _, _, _, _, _, _, _, (lk_eq hY)⟩, ⟨⟨_, (lk_ne (show Y ≠ (Y + 1) by omega) a1), b1⟩, ⟨_, (lk_ne (show Y ≠ (Y + 2) by omega) a2), b2⟩, ⟨_, _, (lk_ne (show Y ≠ (Y + 3) by omega) a3), (lk_ne (show Y ≠ (Y + 4) by omega) a4), b3, b4⟩, ⟨_, _, (lk_ne (show Y ≠ (Y + 5) by omega) a5), (lk_ne (show Y ≠ (Y + 6) by omega) a6), b5⟩, ⟨_, (lk_ne (show Y ≠ (Y + 11) by omega) a11), b11⟩, ⟨_, (lk_ne (show Y ≠ (Y + 17) by omega) a17), b17⟩⟩, ⟨_, _, _, _, _, _, _, _, _, _, _, (lk_ne (show Y ≠ (Y + 7) by omega) a7), (lk_ne (show Y ≠ (Y + 8) by omega) a8), (lk_ne (show Y ≠ (Y + 9) by omega) a9), (lk_ne (show Y ≠ (Y + 10) by omega) a10), (lk_ne (show Y ≠ (Y + 12) by omega) a12), (lk_ne (show Y ≠ (Y + 13) by omega) a13), (lk_ne (show Y ≠ (Y + 14) by omega) a14), (lk_ne (show Y ≠ (Y + 18) by omega) a18), (lk_ne (show Y ≠ (Y + 19) by omega) a19), (lk_ne (show Y ≠ (Y + 20) by omega) a20), (lk_ne (show Y ≠ (Y + 21) by omega) a21)⟩, ⟨_, _, (lk_ne (show Y ≠ (Y + 15) by omega) a15), (lk_ne (show Y ≠ (Y + 16) by omega) a16), b15⟩⟩
      have hFb : FR (modS Y) w w1 := by rw [ew1]; exact (FR.st (c' := .inr (11, .int (nI 0) :: .int st :: .ref (Y + 1) :: .ref (Y + 2) :: .ref (Y + 3) :: .ref (Y + 4) :: .int (nI pn) :: .ref (Y + 5) :: .ref (Y + 6) :: .ref (Y + 7) :: .int dg :: .ref (Y + 8) :: .int dd :: .ref (Y + 9) :: .ref (Y + 10) :: .ref (Y + 11) :: .ref (Y + 12) :: .int ld :: .int be :: .int ib :: .ref (Y + 13) :: .ref (Y + 14) :: .ref (Y + 15) :: .ref (Y + 16) :: .ref (Y + 17) :: .int (nI tl) :: .int fa :: .int re :: .int ig :: .ref (Y + 18) :: .ref (Y + 19) :: .ref (Y + 20) :: .ref (Y + 21) :: [])) FR.rf hY rfl (by unfold modS; omega))
      have c20b : w1[Y + 20]? = some (aI 0 8 g20) := by rw [ew1]; exact (lk_ne (show Y ≠ (Y + 20) by omega) a20)
      have c21b : w1[Y + 21]? = some (aI 0 8 g21) := by rw [ew1]; exact (lk_ne (show Y ≠ (Y + 21) by omega) a21)
      have cYb : w1[Y]? = some (.inr (11, .int (nI 0) :: .int st :: .ref (Y + 1) :: .ref (Y + 2) :: .ref (Y + 3) :: .ref (Y + 4) :: .int (nI pn) :: .ref (Y + 5) :: .ref (Y + 6) :: .ref (Y + 7) :: .int dg :: .ref (Y + 8) :: .int dd :: .ref (Y + 9) :: .ref (Y + 10) :: .ref (Y + 11) :: .ref (Y + 12) :: .int ld :: .int be :: .int ib :: .ref (Y + 13) :: .ref (Y + 14) :: .ref (Y + 15) :: .ref (Y + 16) :: .ref (Y + 17) :: .int (nI tl) :: .int fa :: .int re :: .int ig :: .ref (Y + 18) :: .ref (Y + 19) :: .ref (Y + 20) :: .ref (Y + 21) :: [])) := by rw [ew1]; exact (lk_eq hY)
      obtain ⟨⟨thb, dgb, ddb, ldb, beb, ibb, reb, igb, hYb⟩, ⟨⟨g1b, a1b, b1b⟩, ⟨g2b, a2b, b2b⟩, ⟨g3b, g4b, a3b, a4b, b3b, b4b⟩, ⟨g5b, g6b, a5b, a6b, b5b⟩, ⟨g11b, a11b, b11b⟩, ⟨g17b, a17b, b17b⟩⟩, ⟨g7b, g8b, g9b, g10b, g12b, g13b, g14b, g18b, g19b, g20b, g21b, a7b, a8b, a9b, a10b, a12b, a13b, a14b, a18b, a19b, a20b, a21b⟩, ⟨g15b, g16b, a15b, a16b, b15b⟩⟩ := id hMb
      refine GP.post ?_ (GP.lsub _ (by simp) (le_fst hq 8 0 w1 (fun _ => 0) (fun _ => 0) g20 g21 (by omega) hMb hFb c20b c21b (fun j hj => absurd hj (by omega))))
      rintro r wf ⟨v, h1, h2, h3, h4⟩
      exact Or.inr ⟨q, v, rfl, hq0, hq, h1, h2, h3, h4⟩
    · exact absurd hd9 (by decide)
  · refine GP.weq _ e9 ?_
    rw [IL, L255, L1] at hz
    refine n_if_ne (pc := 14) 19 dX12_least_14 (by decide) (by omega) (fun hd9 => ?_) (fun hd9 => ?_)
    · exact absurd rfl hd9
    · refine g_iconst (pc := 17) (v := -1) dX12_least_17 (by decide) ?_
      exact g_iret (pc := 18) dX12_least_18 (Or.inl ⟨hz, rfl, ⟨⟨_, _, _, _, _, _, _, _, (lk_eq hY)⟩, ⟨⟨_, (lk_ne (show Y ≠ (Y + 1) by omega) a1), b1⟩, ⟨_, (lk_ne (show Y ≠ (Y + 2) by omega) a2), b2⟩, ⟨_, _, (lk_ne (show Y ≠ (Y + 3) by omega) a3), (lk_ne (show Y ≠ (Y + 4) by omega) a4), b3, b4⟩, ⟨_, _, (lk_ne (show Y ≠ (Y + 5) by omega) a5), (lk_ne (show Y ≠ (Y + 6) by omega) a6), b5⟩, ⟨_, (lk_ne (show Y ≠ (Y + 11) by omega) a11), b11⟩, ⟨_, (lk_ne (show Y ≠ (Y + 17) by omega) a17), b17⟩⟩, ⟨_, _, _, _, _, _, _, _, _, _, _, (lk_ne (show Y ≠ (Y + 7) by omega) a7), (lk_ne (show Y ≠ (Y + 8) by omega) a8), (lk_ne (show Y ≠ (Y + 9) by omega) a9), (lk_ne (show Y ≠ (Y + 10) by omega) a10), (lk_ne (show Y ≠ (Y + 12) by omega) a12), (lk_ne (show Y ≠ (Y + 13) by omega) a13), (lk_ne (show Y ≠ (Y + 14) by omega) a14), (lk_ne (show Y ≠ (Y + 18) by omega) a18), (lk_ne (show Y ≠ (Y + 19) by omega) a19), (lk_ne (show Y ≠ (Y + 20) by omega) a20), (lk_ne (show Y ≠ (Y + 21) by omega) a21)⟩, ⟨_, _, (lk_ne (show Y ≠ (Y + 15) by omega) a15), (lk_ne (show Y ≠ (Y + 16) by omega) a16), b15⟩⟩, (FR.st (c' := .inr (11, .int (nI 0) :: .int st :: .ref (Y + 1) :: .ref (Y + 2) :: .ref (Y + 3) :: .ref (Y + 4) :: .int (nI pn) :: .ref (Y + 5) :: .ref (Y + 6) :: .ref (Y + 7) :: .int dg :: .ref (Y + 8) :: .int dd :: .ref (Y + 9) :: .ref (Y + 10) :: .ref (Y + 11) :: .ref (Y + 12) :: .int ld :: .int be :: .int ib :: .ref (Y + 13) :: .ref (Y + 14) :: .ref (Y + 15) :: .ref (Y + 16) :: .ref (Y + 17) :: .int (nI tl) :: .int fa :: .int re :: .int ig :: .ref (Y + 18) :: .ref (Y + 19) :: .ref (Y + 20) :: .ref (Y + 21) :: [])) FR.rf hY rfl (by unfold modS; omega))⟩)
