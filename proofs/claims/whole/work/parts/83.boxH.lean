/-! MahlerBox: least -/
def bitS (s j : Nat) : Prop := s / 2 ^ j % 2 = 1
theorem bit_all : ∀ s : Fin 256, ∀ i : Fin 8, ((nI s.1) >>> ((nI i.1) &&& 31)) &&& (nI 1) = nI (s.1 / 2 ^ i.1 % 2) := by decide +kernel
theorem bit_n {s i : Nat} (hs : s < 256) (hi : i < 8) : ((nI s) >>> ((nI i) &&& 31)) &&& (nI 1) = nI (s / 2 ^ i % 2) := bit_all ⟨s, hs⟩ ⟨i, hi⟩
theorem bit_some : ∀ s : Fin 256, s.1 ≠ 0 → ∃ j : Fin 8, s.1 / 2 ^ j.1 % 2 = 1 := by decide +kernel
/-- the least HIGH, the greatest LOW of place j -/
def hiB (sh : SV) (j t : Nat) : Prop := ∃ T kb, topL (sh.1 j).2 (sh.1 j).1 6 T ∧ bestHigh (sh.1 j).2 (sh.1 j).1 T kb t
def loB (sh : SV) (j t : Nat) : Prop := ∃ T kb, topL (sh.1 j).2 (sh.1 j).1 6 T ∧ bestLow (sh.1 j).2 (sh.1 j).1 T kb t
def lsI (sh : SV) (s i : Nat) (H : Nat → Nat) (pl lh : Int32) : Prop := (∀ j, j < i → bitS s j → hiB sh j (H j) ∧ H j ≤ 268435456) ∧ (((∀ j, j < i → ¬ bitS s j) ∧ lh.toInt = 2147483647 ∧ pl = -1) ∨ ∃ p, p < i ∧ bitS s p ∧ pl = nI p ∧ lh = nI (H p) ∧ (∀ j, j < i → bitS s j → H p ≤ H j) ∧ ∀ j, j < p → bitS s j → H p < H j)
theorem lsI_no {sh : SV} {s i : Nat} {H : Nat → Nat} {pl lh : Int32} (hb : ¬ bitS s i) (h : lsI sh s i H pl lh) : lsI sh s (i + 1) H pl lh := by
  obtain ⟨h1, h2⟩ := h
  have U : ∀ j, j < i + 1 → bitS s j → j < i := fun j hj hjb => by
    rcases Nat.lt_or_ge j i with h | h
    · exact h
    · rw [show j = i by omega] at hjb
      exact absurd hjb hb
  refine ⟨fun j hj hjb => h1 j (U j hj hjb) hjb, ?_⟩
  rcases h2 with ⟨a, b, c⟩ | ⟨p, a, b, c, d, e, f⟩
  · exact Or.inl ⟨fun j hj hjb => a j (U j hj hjb) hjb, b, c⟩
  · exact Or.inr ⟨p, by omega, b, c, d, fun j hj hjb => e j (U j hj hjb) hjb, f⟩
theorem setO_s {α : Type} {a : Nat → α} {k : Nat} {x : α} : setO a k x k = x := if_pos rfl
theorem setO_n {α : Type} {a : Nat → α} {k j : Nat} {x : α} (h : j ≠ k) : setO a k x j = a j := if_neg h
theorem lsI_h {sh : SV} {s i t : Nat} {H : Nat → Nat} (ht : hiB sh i t) (htl : t ≤ 268435456) (h1 : ∀ j, j < i → bitS s j → hiB sh j (H j) ∧ H j ≤ 268435456) : ∀ j, j < i + 1 → bitS s j → hiB sh j (setO H i t j) ∧ setO H i t j ≤ 268435456 := fun j hj hjb => by
  by_cases e : j = i
  · rw [e, setO_s]
    exact ⟨ht, htl⟩
  · rw [setO_n e]
    exact h1 j (by omega) hjb
theorem lsI_keep {sh : SV} {s i t : Nat} {H : Nat → Nat} {pl lh : Int32} (ht : hiB sh i t) (htl : t ≤ 268435456) (hle : lh.toInt ≤ t) (h : lsI sh s i H pl lh) : lsI sh s (i + 1) (setO H i t) pl lh := by
  obtain ⟨h1, h2⟩ := h
  refine ⟨lsI_h ht htl h1, ?_⟩
  rcases h2 with ⟨a, b, c⟩ | ⟨p, a, b, c, d, e, f⟩
  · exact absurd hle (by omega)
  · refine Or.inr ⟨p, by omega, b, c, by rw [setO_n (by omega)]; exact d, fun j hj hjb => ?_, fun j hj hjb => ?_⟩
    · rw [setO_n (show p ≠ i by omega)]
      by_cases e2 : j = i
      · rw [e2, setO_s]
        have h9 := (h1 p a b).2
        rw [d, nI_toInt (by omega)] at hle
        omega
      · rw [setO_n e2]
        exact e j (by omega) hjb
    · rw [setO_n (show p ≠ i by omega), setO_n (show j ≠ i by omega)]
      exact f j hj hjb
theorem lsI_new {sh : SV} {s i t : Nat} {H : Nat → Nat} {pl lh : Int32} (hb : bitS s i) (ht : hiB sh i t) (htl : t ≤ 268435456) (hlt : (t : Int) < lh.toInt) (h : lsI sh s i H pl lh) : lsI sh s (i + 1) (setO H i t) (nI i) (nI t) := by
  obtain ⟨h1, h2⟩ := h
  have hs : ∀ j, j < i → bitS s j → t < H j := fun j hj hjb => by
    rcases h2 with ⟨a, b, c⟩ | ⟨p, a, b, c, d, e, f⟩
    · exact absurd hjb (a j hj)
    · have h9 := (h1 p a b).2
      have := e j hj hjb
      rw [d, nI_toInt (by omega)] at hlt
      omega
  refine ⟨lsI_h ht htl h1, Or.inr ⟨i, by omega, hb, rfl, by rw [setO_s], fun j hj hjb => ?_, fun j hj hjb => ?_⟩⟩
  · rw [setO_s]
    by_cases e2 : j = i
    · rw [e2, setO_s]
      exact Nat.le_refl _
    · rw [setO_n e2]
      exact Nat.le_of_lt (hs j (by omega) hjb)
  · rw [setO_s, setO_n (show j ≠ i by omega)]
    exact hs j hj hjb
/-- what least() tells -/
def leP (sh : SV) (s : Nat) (v : Int32) : Prop := ∃ (H : Nat → Nat) (p : Nat), (∀ j, j < 8 → bitS s j → hiB sh j (H j)) ∧ p < 8 ∧ bitS s p ∧ (∀ j, j < 8 → bitS s j → H p ≤ H j) ∧ (∀ j, j < p → bitS s j → H p < H j) ∧ ((v = nI p ∧ ∀ j, j < 8 → bitS s j → j ≠ p → ∃ l, loB sh j l ∧ H p < l) ∨ (v = -1 ∧ ∃ j l, j < 8 ∧ bitS s j ∧ j ≠ p ∧ loB sh j l ∧ l ≤ H p))
abbrev BX11_least (w0 : Wd) (Post : Option Value → Wd → Prop) (w : Wd) (pc : Nat) (ls : List (Nat × Value)) (st : List Value) : Prop := GP "least" RX11 cX11_least 5 (some .int) 7 273 none w0 Post w pc ls st
abbrev EX11_least (As : List Value) (w : Wd) (Post : Option Value → Wd → Prop) : Prop := EP yX11_least cX11_least 5 (some .int) 7 As w Post
theorem le_2 {w0 w : Wd} {X tl : Nat} {tb : Nat → Int32} {fa st : Int32} {rf : Nat → Nat} {sh : SV} {pn : Nat} {pk : Nat → Nat} {ps : Nat → SV} {im : Nat → Option SV} {q p hp : Nat} {H : Nat → Nat} (hq : q < 256) (h1 : ∀ j, j < 8 → bitS q j → hiB sh j (H j)) (hp8 : p < 8) (hpb : bitS q p) (h3 : ∀ j, j < 8 → bitS q j → H p ≤ H j) (h4 : ∀ j, j < p → bitS q j → H p < H j) (hH : hp = H p) (hHl : H p ≤ 268435456) : ∀ (z j : Nat) (w1 : Wd), 8 = j + z → (∀ u, u < j → bitS q u → u ≠ p → ∃ l, loB sh u l ∧ H p < l) → bxC w1 X tl tb fa st rf sh pn pk ps im → EX (boxS X) 0 0 w w1 → BX11_least w0 (fun r w' => ∃ v, r = some (.int v) ∧ leP sh q v ∧ bxC w' X tl tb fa st rf sh pn pk ps im ∧ EX (boxS X) 0 0 w w') w1 108 [(4, .int (nI j)), (3, .int (nI p)), (2, .int (nI hp)), (0, .ref X), (1, .int (nI q))] [] := by
  intro z
  induction z with
  | zero =>
    intro j w1 hz hI hB hE
    refine g_iload (pc := 108) 0 dX11_least_108 rfl ?_
    refine g_bipush (pc := 110) (v := nI 8) dX11_least_110 (by decide) ?_
    refine n_icmp_ge (pc := 112) 180 dX11_least_112 (by decide) (by omega) (by omega) (fun hb9 => ?_) (fun hb9 => ?_)
    · refine g_iload_n (pc := 180) 1 dX11_least_180 rfl rfl ?_
      exact g_iret (pc := 181) dX11_least_181 ⟨nI p, rfl, ⟨H, p, h1, hp8, hpb, h3, h4, Or.inl ⟨rfl, fun u hu hub hup => hI u (by omega) hub hup⟩⟩, hB, hE⟩
    · exact absurd hb9 (by omega)
  | succ z ih =>
    intro j w1 hz hI hB hE
    have hj : j < 8 := by omega
    obtain ⟨⟨s0, hX0, hs0⟩, -, hW0, -⟩ := id hB
    obtain ⟨sp0, sf0, sh0, hsa0, hsb0, hsc0, hsd0, hse0, hsf0⟩ := id hs0
    obtain ⟨bb0, bl0, hG0⟩ := hW0.2.1
    obtain ⟨nL0, tL0, RL0, hL0⟩ := hW0.1
    obtain ⟨tc0, mc0, lc0, hC0, -⟩ := id hW0.2.2.1
    refine g_iload (pc := 108) 0 dX11_least_108 rfl ?_
    refine g_bipush (pc := 110) (v := nI 8) dX11_least_110 (by decide) ?_
    refine n_icmp_ge (pc := 112) 180 dX11_least_112 (by decide) (by omega) (by omega) (fun hb9 => ?_) (fun hb9 => ?_)
    · exact absurd hb9 (by omega)
    · refine g_iload_n (pc := 115) 4 dX11_least_115 rfl rfl ?_
      refine g_iload (pc := 116) 0 dX11_least_116 rfl ?_
      refine g_ishr (pc := 118) dX11_least_118 ?_
      refine g_iconst (pc := 119) (v := nI 1) dX11_least_119 (by decide) ?_
      refine g_iand (pc := 120) dX11_least_120 ?_
      refine GP.ti (nI (q / 2 ^ j % 2)) (bit_n hq hj) ?_
      refine g_iconst (pc := 121) (v := nI 1) dX11_least_121 (by decide) ?_
      refine n_icmp_ne (pc := 122) 174 dX11_least_122 (by decide) (by omega) (by omega) (fun hbit => ?_) (fun hbit => ?_)
      · refine n_iinc (pc := 174) (c := 1) [(4, .int (nI (j + 1))), (3, .int (nI p)), (2, .int (nI hp)), (0, .ref X), (1, .int (nI q))] 0 dX11_least_174 rfl (by decide) (by decide) rfl ?_
        refine g_goto (pc := 177) 108 dX11_least_177 (by decide) ?_
        exact GP.lsub _ (by simp) (ih (j + 1) w1 (by omega) (fun u hu hub hup => by rcases Nat.lt_or_ge u j with g | g; · { exact hI u g hub hup }; · { rw [show u = j by omega] at hub; exact absurd hub hbit }) hB hE)
      · refine g_iload (pc := 125) 0 dX11_least_125 rfl ?_
        refine g_iload_n (pc := 127) 1 dX11_least_127 rfl rfl ?_
        refine n_icmp_eq (pc := 128) 174 dX11_least_128 (by decide) (by omega) (by omega) (fun heq => ?_) (fun heq => ?_)
        · refine n_iinc (pc := 174) (c := 1) [(4, .int (nI (j + 1))), (3, .int (nI p)), (2, .int (nI hp)), (0, .ref X), (1, .int (nI q))] 0 dX11_least_174 rfl (by decide) (by decide) rfl ?_
          refine g_goto (pc := 177) 108 dX11_least_177 (by decide) ?_
          exact GP.lsub _ (by simp) (ih (j + 1) w1 (by omega) (fun u hu hub hup => by rcases Nat.lt_or_ge u j with g | g; · { exact hI u g hub hup }; · { exact absurd (show u = p by omega) hup }) hB hE)
        · refine g_aload_n (pc := 131) 3 dX11_least_131 rfl rfl ?_
          refine g_get (pc := 132) dX11_least_132 fk_X11_19 hX0 rfl ?_
          refine g_aload_n (pc := 135) 3 dX11_least_135 rfl rfl ?_
          refine g_get (pc := 136) dX11_least_136 fk_X11_69 hX0 rfl ?_
          refine g_iload (pc := 139) 0 dX11_least_139 rfl ?_
          obtain ⟨v1, hv1, hq1⟩ := hse0 j hj
          obtain ⟨pb1, pc1, hpo1, -⟩ := id hq1
          have hok1 : okP (sh.1 j) := by obtain ⟨-, -, -, -, -, -, -, h9⟩ := id hq1; exact h9
          refine g_callV (pc := 141) [.int (nI j)] dX11_least_141 cv_X11_111.1 cv_X11_111.2.1 cv_X11_111.2.2.1 cv_X11_111.2.2.2 hsa0 rfl rfl (Nat.le_of_ble_eq_true rfl) (by decide) (by decide) (sp_poly _ (i := j) hsa0 hsb0 hj hv1) ?_
          rintro _ w9 ⟨rfl, e9⟩
          refine GP.weq _ e9 ?_
          refine g_bipush (pc := 144) (v := nI 6) dX11_least_144 (by decide) ?_
          refine g_callV (pc := 146) [.ref v1, .int (nI 6)] dX11_least_146 cv_X11_270.1 cv_X11_270.2.1 cv_X11_270.2.2.1 cv_X11_270.2.2.2 hL0.1 rfl rfl (Nat.le_of_ble_eq_true rfl) (by decide) (by decide) (bx_climb _ (k := 6) hB hq1 (by omega)) ?_
          rintro _ w2 ⟨T, rfl, hT, hO, hB2, hE2⟩
          have hT6 := hO.1
          obtain ⟨⟨s1, hX1, hs1⟩, -, hW1, -⟩ := id hB2
          obtain ⟨sp1, sf1, sh1, hsa1, hsb1, hsc1, hsd1, hse1, hsf1⟩ := id hs1
          obtain ⟨bb1, bl1, hG1⟩ := hW1.2.1
          obtain ⟨nL1, tL1, RL1, hL1⟩ := hW1.1
          obtain ⟨tc1, mc1, lc1, hC1, -⟩ := id hW1.2.2.1
          refine g_pop (pc := 149) dX11_least_149 rfl ?_
          refine g_aload_n (pc := 150) 3 dX11_least_150 rfl rfl ?_
          refine g_get (pc := 151) dX11_least_151 fk_X11_26 hX1 rfl ?_
          refine g_aload_n (pc := 154) 3 dX11_least_154 rfl rfl ?_
          refine g_get (pc := 155) dX11_least_155 fk_X11_19 hX1 rfl ?_
          refine g_callV (pc := 158) [.ref (X + 3)] dX11_least_158 cv_X11_294.1 cv_X11_294.2.1 cv_X11_294.2.2.1 cv_X11_294.2.2.2 hG1.1 rfl rfl (Nat.le_of_ble_eq_true rfl) (by decide) (by decide) (bx_fgl _ hB2 hO hok1) ?_
          rintro _ w3 ⟨rfl, kb, t, hbest, ht, hg3, hO3, hB3, hE3⟩
          have hE4 := (((hE.tr hE2).tr hE3)).le (Nat.le_refl 0) (Nat.le_refl 0)
          have hlo : loB sh j t := ⟨T, kb, hT, hbest⟩
          obtain ⟨⟨s2, hX2, hs2⟩, -, hW2, -⟩ := id hB3
          obtain ⟨sp2, sf2, sh2, hsa2, hsb2, hsc2, hsd2, hse2, hsf2⟩ := id hs2
          obtain ⟨bb2, bl2, hG2⟩ := hW2.2.1
          obtain ⟨nL2, tL2, RL2, hL2⟩ := hW2.1
          obtain ⟨tc2, mc2, lc2, hC2, -⟩ := id hW2.2.2.1
          refine g_aload_n (pc := 161) 3 dX11_least_161 rfl rfl ?_
          refine g_get (pc := 162) dX11_least_162 fk_X11_26 hX2 rfl ?_
          refine g_get (pc := 165) dX11_least_165 fk_X11_301 hg3 rfl ?_
          refine g_iload_n (pc := 168) 2 dX11_least_168 rfl rfl ?_
          refine n_icmp_gt (pc := 169) 174 dX11_least_169 (by decide) (by omega) (by omega) (fun hcm => ?_) (fun hcm => ?_)
          · refine n_iinc (pc := 174) (c := 1) [(4, .int (nI (j + 1))), (3, .int (nI p)), (2, .int (nI hp)), (0, .ref X), (1, .int (nI q))] 0 dX11_least_174 rfl (by decide) (by decide) rfl ?_
            refine g_goto (pc := 177) 108 dX11_least_177 (by decide) ?_
            exact GP.lsub _ (by simp) (ih (j + 1) w3 (by omega) (fun u hu hub hup => by rcases Nat.lt_or_ge u j with g | g; · { exact hI u g hub hup }; · { rw [show u = j by omega]; exact ⟨t, hlo, by omega⟩ }) hB3 hE4)
          · refine g_iconst (pc := 172) (v := -1) dX11_least_172 (by decide) ?_
            exact g_iret (pc := 173) dX11_least_173 ⟨-1, rfl, ⟨H, p, h1, hp8, hpb, h3, h4, Or.inr ⟨rfl, j, t, hj, hbit, by omega, hlo, by omega⟩⟩, hB3, hE4⟩
theorem le_1 {w0 w : Wd} {X tl : Nat} {tb : Nat → Int32} {fa st : Int32} {rf : Nat → Nat} {sh : SV} {pn : Nat} {pk : Nat → Nat} {ps : Nat → SV} {im : Nat → Option SV} {q : Nat} (hq : q < 256) (hq0 : q ≠ 0) : ∀ (z i : Nat) (w1 : Wd) (H : Nat → Nat) (pl lh : Int32), 8 = i + z → Hid (lsI sh q i H pl lh) → bxC w1 X tl tb fa st rf sh pn pk ps im → EX (boxS X) 0 0 w w1 → BX11_least w0 (fun r w' => ∃ v, r = some (.int v) ∧ leP sh q v ∧ bxC w' X tl tb fa st rf sh pn pk ps im ∧ EX (boxS X) 0 0 w w') w1 22 [(4, .int (nI i)), (3, .int pl), (2, .int lh), (0, .ref X), (1, .int (nI q))] [] := by
  intro z
  induction z with
  | zero =>
    intro i w1 H pl lh hz hI hB hE
    refine g_iload (pc := 22) 0 dX11_least_22 rfl ?_
    refine g_bipush (pc := 24) (v := nI 8) dX11_least_24 (by decide) ?_
    refine n_icmp_ge (pc := 26) 105 dX11_least_26 (by decide) (by omega) (by omega) (fun hb9 => ?_) (fun hb9 => ?_)
    · have ei : i = 8 := by omega
      subst ei
      obtain ⟨h1, h2⟩ : lsI sh q 8 H pl lh := hI
      rcases h2 with ⟨a, -, -⟩ | ⟨p, a, b, rfl, rfl, c, d⟩
      · exfalso
        obtain ⟨j, hj⟩ := bit_some ⟨q, hq⟩ hq0
        exact a j.1 j.2 hj
      · refine g_iconst (pc := 105) (v := nI 0) dX11_least_105 (by decide) ?_
        refine g_istore (pc := 106) [(4, .int (nI 0)), (3, .int (nI p)), (2, .int (nI (H p))), (0, .ref X), (1, .int (nI q))] dX11_least_106 (by decide) rfl ?_
        exact GP.lsub _ (by simp) (le_2 hq (fun j hj hb => (h1 j hj hb).1) a b c d rfl (h1 p a b).2 8 0 w1 (by omega) (fun u hu => absurd hu (by omega)) hB hE)
    · exact absurd hb9 (by omega)
  | succ z ih =>
    intro i w1 H pl lh hz hI hB hE
    have hi : i < 8 := by omega
    obtain ⟨⟨s0, hX0, hs0⟩, -, hW0, -⟩ := id hB
    obtain ⟨sp0, sf0, sh0, hsa0, hsb0, hsc0, hsd0, hse0, hsf0⟩ := id hs0
    obtain ⟨bb0, bl0, hG0⟩ := hW0.2.1
    obtain ⟨nL0, tL0, RL0, hL0⟩ := hW0.1
    obtain ⟨tc0, mc0, lc0, hC0, -⟩ := id hW0.2.2.1
    refine g_iload (pc := 22) 0 dX11_least_22 rfl ?_
    refine g_bipush (pc := 24) (v := nI 8) dX11_least_24 (by decide) ?_
    refine n_icmp_ge (pc := 26) 105 dX11_least_26 (by decide) (by omega) (by omega) (fun hb9 => ?_) (fun hb9 => ?_)
    · exact absurd hb9 (by omega)
    · refine g_iload_n (pc := 29) 4 dX11_least_29 rfl rfl ?_
      refine g_iload (pc := 30) 0 dX11_least_30 rfl ?_
      refine g_ishr (pc := 32) dX11_least_32 ?_
      refine g_iconst (pc := 33) (v := nI 1) dX11_least_33 (by decide) ?_
      refine g_iand (pc := 34) dX11_least_34 ?_
      refine GP.ti (nI (q / 2 ^ i % 2)) (bit_n hq hi) ?_
      refine g_iconst (pc := 35) (v := nI 1) dX11_least_35 (by decide) ?_
      refine n_icmp_ne (pc := 36) 99 dX11_least_36 (by decide) (by omega) (by omega) (fun hbit => ?_) (fun hbit => ?_)
      · refine n_iinc (pc := 99) (c := 1) [(4, .int (nI (i + 1))), (3, .int pl), (2, .int lh), (0, .ref X), (1, .int (nI q))] 0 dX11_least_99 rfl (by decide) (by decide) rfl ?_
        refine g_goto (pc := 102) 22 dX11_least_102 (by decide) ?_
        exact GP.lsub _ (by simp) (ih (i + 1) w1 H pl lh (by omega) (lsI_no hbit hI) hB hE)
      · have hbt : bitS q i := hbit
        refine g_aload_n (pc := 39) 3 dX11_least_39 rfl rfl ?_
        refine g_get (pc := 40) dX11_least_40 fk_X11_19 hX0 rfl ?_
        refine g_aload_n (pc := 43) 3 dX11_least_43 rfl rfl ?_
        refine g_get (pc := 44) dX11_least_44 fk_X11_69 hX0 rfl ?_
        refine g_iload (pc := 47) 0 dX11_least_47 rfl ?_
        obtain ⟨v1, hv1, hq1⟩ := hse0 i hi
        obtain ⟨pb1, pc1, hpo1, -⟩ := id hq1
        have hok1 : okP (sh.1 i) := by obtain ⟨-, -, -, -, -, -, -, h9⟩ := id hq1; exact h9
        refine g_callV (pc := 49) [.int (nI i)] dX11_least_49 cv_X11_111.1 cv_X11_111.2.1 cv_X11_111.2.2.1 cv_X11_111.2.2.2 hsa0 rfl rfl (Nat.le_of_ble_eq_true rfl) (by decide) (by decide) (sp_poly _ (i := i) hsa0 hsb0 hi hv1) ?_
        rintro _ w9 ⟨rfl, e9⟩
        refine GP.weq _ e9 ?_
        refine g_bipush (pc := 52) (v := nI 6) dX11_least_52 (by decide) ?_
        refine g_callV (pc := 54) [.ref v1, .int (nI 6)] dX11_least_54 cv_X11_270.1 cv_X11_270.2.1 cv_X11_270.2.2.1 cv_X11_270.2.2.2 hL0.1 rfl rfl (Nat.le_of_ble_eq_true rfl) (by decide) (by decide) (bx_climb _ (k := 6) hB hq1 (by omega)) ?_
        rintro _ w2 ⟨T, rfl, hT, hO, hB2, hE2⟩
        have hT6 := hO.1
        obtain ⟨⟨s1, hX1, hs1⟩, -, hW1, -⟩ := id hB2
        obtain ⟨sp1, sf1, sh1, hsa1, hsb1, hsc1, hsd1, hse1, hsf1⟩ := id hs1
        obtain ⟨bb1, bl1, hG1⟩ := hW1.2.1
        obtain ⟨nL1, tL1, RL1, hL1⟩ := hW1.1
        obtain ⟨tc1, mc1, lc1, hC1, -⟩ := id hW1.2.2.1
        refine g_pop (pc := 57) dX11_least_57 rfl ?_
        refine g_aload_n (pc := 58) 3 dX11_least_58 rfl rfl ?_
        refine g_get (pc := 59) dX11_least_59 fk_X11_26 hX1 rfl ?_
        refine g_aload_n (pc := 62) 3 dX11_least_62 rfl rfl ?_
        refine g_get (pc := 63) dX11_least_63 fk_X11_19 hX1 rfl ?_
        refine g_callV (pc := 66) [.ref (X + 3)] dX11_least_66 cv_X11_298.1 cv_X11_298.2.1 cv_X11_298.2.2.1 cv_X11_298.2.2.2 hG1.1 rfl rfl (Nat.le_of_ble_eq_true rfl) (by decide) (by decide) (bx_flh _ hB2 hO hok1) ?_
        rintro _ w3 ⟨rfl, kb, t, hbest, ht, hg3, hO3, hB3, hE3⟩
        have hE4 := (((hE.tr hE2).tr hE3)).le (Nat.le_refl 0) (Nat.le_refl 0)
        have hlo : hiB sh i t := ⟨T, kb, hT, hbest⟩
        have htI : (nI t).toInt = t := nI_toInt (by omega)
        obtain ⟨⟨s2, hX2, hs2⟩, -, hW2, -⟩ := id hB3
        obtain ⟨sp2, sf2, sh2, hsa2, hsb2, hsc2, hsd2, hse2, hsf2⟩ := id hs2
        obtain ⟨bb2, bl2, hG2⟩ := hW2.2.1
        obtain ⟨nL2, tL2, RL2, hL2⟩ := hW2.1
        obtain ⟨tc2, mc2, lc2, hC2, -⟩ := id hW2.2.2.1
        refine g_aload_n (pc := 69) 3 dX11_least_69 rfl rfl ?_
        refine g_get (pc := 70) dX11_least_70 fk_X11_26 hX2 rfl ?_
        refine g_get (pc := 73) dX11_least_73 fk_X11_301 hg3 rfl ?_
        refine g_iload_n (pc := 76) 2 dX11_least_76 rfl rfl ?_
        refine g_icmp_ge (pc := 77) 85 dX11_least_77 (by decide) (fun hcm => ?_) (fun hcm => ?_)
        · rw [Int32.le_iff_toInt_le, htI] at hcm
          refine g_iload_n (pc := 85) 1 dX11_least_85 rfl rfl ?_
          refine g_istore_n (pc := 86) [(3, .int pl), (4, .int (nI i)), (2, .int lh), (0, .ref X), (1, .int (nI q))] dX11_least_86 rfl (by decide) rfl ?_
          refine g_aload_n (pc := 87) 3 dX11_least_87 rfl rfl ?_
          refine g_get (pc := 88) dX11_least_88 fk_X11_26 hX2 rfl ?_
          refine g_get (pc := 91) dX11_least_91 fk_X11_301 hg3 rfl ?_
          refine g_iload_n (pc := 94) 2 dX11_least_94 rfl rfl ?_
          refine g_callS (pc := 95) [.int (nI t), .int lh] dX11_least_95 cs_X11_319.1 cs_X11_319.2 rfl rfl (Nat.le_of_ble_eq_true rfl) (by decide) (by decide) (sp_minI _ (nI t) lh) ?_
          rintro _ w9 ⟨rfl, e9⟩
          refine GP.weq _ e9 ?_
          refine GP.ti lh (by
              by_cases g : lh < nI t
              · rw [if_pos g]
              · rw [if_neg g]
                rw [Int32.lt_iff_toInt_lt, htI] at g
                exact Int32.toInt_inj.mp (by rw [htI]; omega)) ?_
          refine g_istore_n (pc := 98) [(2, .int lh), (3, .int pl), (4, .int (nI i)), (0, .ref X), (1, .int (nI q))] dX11_least_98 rfl (by decide) rfl ?_
          refine n_iinc (pc := 99) (c := 1) [(4, .int (nI (i + 1))), (2, .int lh), (3, .int pl), (0, .ref X), (1, .int (nI q))] 2 dX11_least_99 rfl (by decide) (by decide) rfl ?_
          refine g_goto (pc := 102) 22 dX11_least_102 (by decide) ?_
          exact GP.lsub _ (by simp) (ih (i + 1) w3 (setO H i t) pl lh (by omega) (lsI_keep hlo ht hcm hI) hB3 hE4)
        · rw [Int32.le_iff_toInt_le, htI] at hcm
          refine g_iload (pc := 80) 0 dX11_least_80 rfl ?_
          refine g_goto (pc := 82) 86 dX11_least_82 (by decide) ?_
          refine g_istore_n (pc := 86) [(3, .int (nI i)), (4, .int (nI i)), (2, .int lh), (0, .ref X), (1, .int (nI q))] dX11_least_86 rfl (by decide) rfl ?_
          refine g_aload_n (pc := 87) 3 dX11_least_87 rfl rfl ?_
          refine g_get (pc := 88) dX11_least_88 fk_X11_26 hX2 rfl ?_
          refine g_get (pc := 91) dX11_least_91 fk_X11_301 hg3 rfl ?_
          refine g_iload_n (pc := 94) 2 dX11_least_94 rfl rfl ?_
          refine g_callS (pc := 95) [.int (nI t), .int lh] dX11_least_95 cs_X11_319.1 cs_X11_319.2 rfl rfl (Nat.le_of_ble_eq_true rfl) (by decide) (by decide) (sp_minI _ (nI t) lh) ?_
          rintro _ w9 ⟨rfl, e9⟩
          refine GP.weq _ e9 ?_
          refine GP.ti (nI t) (by
              rw [if_neg]
              rw [Int32.lt_iff_toInt_lt, htI]
              omega) ?_
          refine g_istore_n (pc := 98) [(2, .int (nI t)), (3, .int (nI i)), (4, .int (nI i)), (0, .ref X), (1, .int (nI q))] dX11_least_98 rfl (by decide) rfl ?_
          refine n_iinc (pc := 99) (c := 1) [(4, .int (nI (i + 1))), (2, .int (nI t)), (3, .int (nI i)), (0, .ref X), (1, .int (nI q))] 2 dX11_least_99 rfl (by decide) (by decide) rfl ?_
          refine g_goto (pc := 102) 22 dX11_least_102 (by decide) ?_
          exact GP.lsub _ (by simp) (ih (i + 1) w3 (setO H i t) (nI i) (nI t) (by omega) (lsI_new hbt hlo ht (by omega) hI) hB3 hE4)
theorem sp_least (w : Wd) {X tl : Nat} {tb : Nat → Int32} {fa st : Int32} {rf : Nat → Nat} {sh : SV} {pn : Nat} {pk : Nat → Nat} {ps : Nat → SV} {im : Nat → Option SV} (hB : bxC w X tl tb fa st rf sh pn pk ps im) {x : Int32} : EX11_least [.ref X, .int x] w (fun r w' => (¬ (1 ≤ x.toInt ∧ x.toInt ≤ 255) ∧ r = some (.int (-1)) ∧ bxC w' X tl tb fa st rf sh pn pk ps im ∧ EX (boxS X) 0 0 w w') ∨ (∃ q v, x = nI q ∧ 0 < q ∧ q < 256 ∧ r = some (.int v) ∧ leP sh q v ∧ bxC w' X tl tb fa st rf sh pn pk ps im ∧ EX (boxS X) 0 0 w w')) := by
  refine EP.of (plainFor_of_name (by decide)) [(0, .ref X), (1, .int x)] rfl (Nat.le_of_ble_eq_true rfl) (fun r wf h => by rcases h with ⟨-, rfl, -⟩ | ⟨q, v, -, -, -, rfl, -⟩ <;> trivial) ?_
  show BX11_least w _ w 0 [(0, .ref X), (1, .int x)] []
  have z0 : (0 : Int32).toInt = 0 := by decide
  have z256 : (nI 256).toInt = 256 := by decide
  refine g_iload_n (pc := 0) 1 dX11_least_0 rfl rfl ?_
  refine g_if_le (pc := 1) 11 dX11_least_1 (by decide) (fun h1 => ?_) (fun h1 => ?_)
  · rw [Int32.le_iff_toInt_le, z0] at h1
    refine g_iconst (pc := 11) (v := -1) dX11_least_11 (by decide) ?_
    exact g_iret (pc := 12) dX11_least_12 (Or.inl ⟨by omega, rfl, hB, EX.rf⟩)
  · rw [Int32.le_iff_toInt_le, z0] at h1
    refine g_iload_n (pc := 4) 1 dX11_least_4 rfl rfl ?_
    refine g_sipush (pc := 5) (v := nI 256) dX11_least_5 (by decide) ?_
    refine g_icmp_lt (pc := 8) 13 dX11_least_8 (by decide) (fun h2 => ?_) (fun h2 => ?_)
    · rw [Int32.lt_iff_toInt_lt, z256] at h2
      obtain ⟨q, hqe, hq⟩ : ∃ q : Nat, x = nI q ∧ q < 256 := ⟨x.toInt.toNat, nI_toNat (by omega), by omega⟩
      subst hqe
      have hqt : (nI q).toInt = q := nI_toInt (by omega)
      rw [hqt] at h1
      refine g_ldcw (pc := 13) kc_X11_318 dX11_least_13 ?_
      refine GP.ti (nI 2147483647) (by decide) ?_
      refine g_istore_n (pc := 16) [(2, .int (nI 2147483647)), (0, .ref X), (1, .int (nI q))] dX11_least_16 rfl (by decide) rfl ?_
      refine g_iconst (pc := 17) (v := -1) dX11_least_17 (by decide) ?_
      refine g_istore_n (pc := 18) [(3, .int (-1)), (2, .int (nI 2147483647)), (0, .ref X), (1, .int (nI q))] dX11_least_18 rfl (by decide) rfl ?_
      refine g_iconst (pc := 19) (v := nI 0) dX11_least_19 (by decide) ?_
      refine g_istore (pc := 20) [(4, .int (nI 0)), (3, .int (-1)), (2, .int (nI 2147483647)), (0, .ref X), (1, .int (nI q))] dX11_least_20 (by decide) rfl ?_
      refine GP.post ?_ (GP.lsub _ (by simp) (le_1 (q := q) hq (by omega) 8 0 _ (fun _ => 0) (-1) (nI 2147483647) (by omega) (show lsI sh q 0 (fun _ => 0) (-1) (nI 2147483647) from ⟨fun j hj => absurd hj (by omega), Or.inl ⟨fun j hj => absurd hj (by omega), by decide, rfl⟩⟩) hB EX.rf))
      rintro r w' ⟨v, h9, h8, h7⟩
      exact Or.inr ⟨q, v, rfl, by omega, hq, h9, h8, h7⟩
    · rw [Int32.lt_iff_toInt_lt, z256] at h2
      refine g_iconst (pc := 11) (v := -1) dX11_least_11 (by decide) ?_
      exact g_iret (pc := 12) dX11_least_12 (Or.inl ⟨by omega, rfl, hB, EX.rf⟩)
