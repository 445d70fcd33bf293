/-! the reference: division by values; by, often, cores, isOne, core -/
theorem mq_takeH (w : Wd) {Y tl : Nat} {tb : Nat → Int32} {fa st : Int32} {rf : Nat → Nat} {sh : SV} {pn : Nat} {pk : Nat → Nat} {ps : Nat → SV} {im : Nat → Option SV} (hM : mdC w Y tl tb fa st rf sh pn pk ps im) {i : Nat} (hi : i < 8) : EX12_take [.ref Y, .int (nI i)] w (fun r w' => r = none ∧ haO w' Y tl fa st pn (sh.1 i).2 (sh.1 i).1 ∧ mdC w' Y tl tb fa st rf sh pn pk ps im ∧ FR (hdS Y) w w') := by
  have hM0 := id hM
  obtain ⟨⟨f8, c8⟩, ⟨f9, c9⟩, ⟨f10, c10⟩, -⟩ := md_hd hM
  obtain ⟨⟨th, dg, dd, ld, be, ib, re, ig, hY⟩, ⟨-, ⟨g2, a2, b2⟩, -⟩, ⟨g7, -, -, -, -, -, -, -, -, -, -, a7, -⟩, -⟩ := hM
  have hok := row_ok b2 hi
  refine EP.mono (mp_take w hY a2 a7 b2 hi) ?_
  rintro r w' ⟨rfl, h, hh, rfl⟩
  have l7 : ((w.set (Y + 7) (aL 60 h)).set Y (oM Y th st (nI pn) (nI (sh.1 i).1) dd ld be ib (nI tl) fa re ig))[Y + 7]? = some (aL 60 h) := lk_ne (by omega) (lk_eq a7)
  have lY : ((w.set (Y + 7) (aL 60 h)).set Y (oM Y th st (nI pn) (nI (sh.1 i).1) dd ld be ib (nI tl) fa re ig))[Y]? = some (oM Y th st (nI pn) (nI (sh.1 i).1) dd ld be ib (nI tl) fa re ig) := lk_eq (lk_ne (by omega) hY)
  refine ⟨rfl, ⟨_, _, _, _, _, _, _, h, lY, l7, fun k hk => ?_⟩, hM0.hd (FR.st (FR.st FR.rf a7 rfl (by unfold hdS; omega)) (lk_ne (by omega) hY) rfl (by unfold hdS; omega)) lY l7 (lk_ne (by omega) (lk_ne (by omega) c8)) (lk_ne (by omega) (lk_ne (by omega) c9)) (lk_ne (by omega) (lk_ne (by omega) c10))⟩
  rw [hh k hk]
  by_cases e : k ≤ (sh.1 i).1
  · rw [if_pos e]
  · rw [if_neg e]; exact hok.2.2.2 k (by omega)
theorem mq_takeD (w : Wd) {Y tl : Nat} {tb : Nat → Int32} {fa st : Int32} {rf : Nat → Nat} {sh : SV} {pn : Nat} {pk : Nat → Nat} {ps : Nat → SV} {im : Nat → Option SV} (hM : mdC w Y tl tb fa st rf sh pn pk ps im) {i : Nat} (hi : i < 8) {G : Nat → Int} {T : Nat} (hA : haO w Y tl fa st pn G T) : EX12_takeDivisor [.ref Y, .int (nI i)] w (fun r w' => r = none ∧ hdO w' Y tl fa st pn G T (sh.1 i).2 (sh.1 i).1 ∧ mdC w' Y tl tb fa st rf sh pn pk ps im ∧ FR (hdS Y) w w') := by
  obtain ⟨⟨f8, c8⟩, ⟨f9, c9⟩, ⟨f10, c10⟩, -⟩ := md_hd hM
  obtain ⟨g2, a2, b2⟩ := hM.2.1.2.1
  have hok := row_ok b2 hi
  obtain ⟨th, dd, ld, be, ib, re, ig, h, hY, a7, hh⟩ := hA
  refine EP.mono (mp_takeDivisor w hY a2 c8 b2 hi) ?_
  rintro r w' ⟨rfl, d, hd, rfl⟩
  have lY : ((w.set Y (oM Y th st (nI pn) (nI T) (nI (sh.1 i).1) ld be ib (nI tl) fa re ig)).set (Y + 8) (aL 14 d))[Y]? = some (oM Y th st (nI pn) (nI T) (nI (sh.1 i).1) ld be ib (nI tl) fa re ig) := lk_ne (by omega) (lk_eq hY)
  have l8 : ((w.set Y (oM Y th st (nI pn) (nI T) (nI (sh.1 i).1) ld be ib (nI tl) fa re ig)).set (Y + 8) (aL 14 d))[Y + 8]? = some (aL 14 d) := lk_eq (lk_ne (by omega) c8)
  have l7 := lk_ne (i := Y + 8) (c' := aL 14 d) (by omega) (lk_ne (i := Y) (c' := oM Y th st (nI pn) (nI T) (nI (sh.1 i).1) ld be ib (nI tl) fa re ig) (by omega) a7)
  exact ⟨rfl, ⟨_, _, _, _, _, _, h, d, lY, l7, hh, l8, fun t ht => hd t (by have := hok.1; omega)⟩, hM.hd (FR.st (FR.st FR.rf hY rfl (by unfold hdS; omega)) (lk_ne (by omega) c8) rfl (by unfold hdS; omega)) lY l7 l8 (lk_ne (by omega) (lk_ne (by omega) c9)) (lk_ne (by omega) (lk_ne (by omega) c10))⟩
theorem mq_takeC (w : Wd) {Y tl : Nat} {tb : Nat → Int32} {fa st : Int32} {rf : Nat → Nat} {sh : SV} {pn : Nat} {pk : Nat → Nat} {ps : Nat → SV} {im : Nat → Option SV} (hM : mdC w Y tl tb fa st rf sh pn pk ps im) {n : Nat} (hn : n < 43) (hc : cyIs n) {G : Nat → Int} {T : Nat} (hA : haO w Y tl fa st pn G T) : EX12_takeCircle [.ref Y, .int (nI n)] w (fun r w' => r = none ∧ hdO w' Y tl fa st pn G T (cyG n) (cyDg n) ∧ mdC w' Y tl tb fa st rf sh pn pk ps im ∧ FR (hdS Y) w w') := by
  obtain ⟨⟨f8, c8⟩, ⟨f9, c9⟩, ⟨f10, c10⟩, f11, c11, h11⟩ := md_hd hM
  obtain ⟨th, dd, ld, be, ib, re, ig, h, hY, a7, hh⟩ := hA
  have hcd : 1 ≤ cyDg n ∧ cyDg n ≤ 12 := ⟨(cy_dg ⟨n, hn⟩ hc).1, (cy_dg ⟨n, hn⟩ hc).2.1⟩
  refine EP.mono (mp_takeCircle w hY c8 c11 hn (fun h1 => (h11 n h1 hn).1 hc)) ?_
  rintro r w' ⟨rfl, d, hd, rfl⟩
  have lY : ((w.set Y (oM Y th st (nI pn) (nI T) (nI (cyDg n)) ld be ib (nI tl) fa re ig)).set (Y + 8) (aL 14 d))[Y]? = some (oM Y th st (nI pn) (nI T) (nI (cyDg n)) ld be ib (nI tl) fa re ig) := lk_ne (by omega) (lk_eq hY)
  have l8 : ((w.set Y (oM Y th st (nI pn) (nI T) (nI (cyDg n)) ld be ib (nI tl) fa re ig)).set (Y + 8) (aL 14 d))[Y + 8]? = some (aL 14 d) := lk_eq (lk_ne (by omega) c8)
  have l7 := lk_ne (i := Y + 8) (c' := aL 14 d) (by omega) (lk_ne (i := Y) (c' := oM Y th st (nI pn) (nI T) (nI (cyDg n)) ld be ib (nI tl) fa re ig) (by omega) a7)
  exact ⟨rfl, ⟨_, _, _, _, _, _, h, d, lY, l7, hh, l8, fun t ht => hd t (by omega)⟩, hM.hd (FR.st (FR.st FR.rf hY rfl (by unfold hdS; omega)) (lk_ne (by omega) c8) rfl (by unfold hdS; omega)) lY l7 l8 (lk_ne (by omega) (lk_ne (by omega) c9)) (lk_ne (by omega) (lk_ne (by omega) c10))⟩
theorem hdO.ha {w : Wd} {Y tl : Nat} {fa st : Int32} {pn : Nat} {G : Nat → Int} {T : Nat} {F : Nat → Int} {n : Nat} (h : hdO w Y tl fa st pn G T F n) : haO w Y tl fa st pn G T := by
  obtain ⟨th, ld, be, ib, re, ig, h, d, hY, a7, hh, -⟩ := h
  exact ⟨th, _, ld, be, ib, re, ig, h, hY, a7, hh⟩
theorem mq_divides (w : Wd) {Y tl : Nat} {tb : Nat → Int32} {fa st : Int32} {rf : Nat → Nat} {sh : SV} {pn : Nat} {pk : Nat → Nat} {ps : Nat → SV} {im : Nat → Option SV} (hM : mdC w Y tl tb fa st rf sh pn pk ps im) {G F : Nat → Int} {T n : Nat} (hD : hdO w Y tl fa st pn G T F n) (hG : hgO G T) (hF : fdO F n) (hnT : n ≤ T) : EX12_divides [.ref Y] w (fun r w' => (r = some (.int (nI 1)) ∧ (∃ q qc, divOm q F G n (T - n) ∧ w'[Y + 9]? = some (aL 60 qc) ∧ haF qc q (T - n)) ∧ hdO w' Y tl fa st pn G T F n ∧ mdC w' Y tl tb fa st rf sh pn pk ps im ∧ FR (hdS Y) w w') ∨ (r = some (.int (nI 0)) ∧ (∀ q, ¬ divOm q F G n (T - n)) ∧ hdO w' Y tl fa st pn G T F n ∧ mdC w' Y tl tb fa st rf sh pn pk ps im ∧ FR (hdS Y) w w')) := by
  obtain ⟨⟨f8, c8⟩, ⟨f9, c9⟩, ⟨f10, c10⟩, -⟩ := md_hd hM
  obtain ⟨th, ld, be, ib, re, ig, h, d, hY, a7, hh, a8, hd⟩ := hD
  have hT60 := hG.1
  have hY' : w[Y]? = some (oM Y th st (nI pn) (nI (T - n + n)) (nI n) ld be ib (nI tl) fa re ig) := by rw [show T - n + n = T by omega]; exact hY
  have hlk : ∀ qc cur : Nat → Int64, hdO ((w.set (Y + 9) (aL 60 qc)).set (Y + 10) (aL 60 cur)) Y tl fa st pn G T F n ∧ mdC ((w.set (Y + 9) (aL 60 qc)).set (Y + 10) (aL 60 cur)) Y tl tb fa st rf sh pn pk ps im ∧ FR (hdS Y) w ((w.set (Y + 9) (aL 60 qc)).set (Y + 10) (aL 60 cur)) := fun qc cur =>
    have U : ∀ {i : Nat} {c : Ce}, i ≠ Y + 9 → i ≠ Y + 10 → w[i]? = some c → ((w.set (Y + 9) (aL 60 qc)).set (Y + 10) (aL 60 cur))[i]? = some c := fun h1 h2 hc => lk_ne (Ne.symm h2) (lk_ne (Ne.symm h1) hc)
    ⟨⟨_, _, _, _, _, _, h, d, U (by omega) (by omega) hY, U (by omega) (by omega) a7, hh, U (by omega) (by omega) a8, hd⟩, hM.hd (FR.st (FR.st FR.rf c9 rfl (by unfold hdS; omega)) (lk_ne (by omega) c10) rfl (by unfold hdS; omega)) (U (by omega) (by omega) hY) (U (by omega) (by omega) a7) (U (by omega) (by omega) a8) (lk_ne (by omega) (lk_eq c9)) (lk_eq (lk_ne (by omega) c10))⟩
  refine EP.mono (mp_divides w (T := T - n) hY' a7 a8 c9 c10 hF.1 (by omega) hd hF.2.2 hF.2.1 (fun i hi => by rw [hh i hi, show T - n + n = T by omega]) (fun i hi => hG.2.2 i (by omega))) ?_
  rintro r w' (⟨h1, qc, cur, h2, h3, rfl⟩ | ⟨h1, h2, qc, cur, rfl⟩)
  · refine Or.inl ⟨h1, ⟨toI qc, qc, h2, lk_ne (by omega) (lk_eq c9), fun i hi => ?_⟩, hlk qc cur⟩
    by_cases e : i ≤ T - n
    · rw [if_pos e]; rfl
    · rw [if_neg e, h3 i hi (by omega)]; rfl
  · exact Or.inr ⟨h1, h2, hlk qc cur⟩
theorem mq_takeQ (w : Wd) {Y tl : Nat} {tb : Nat → Int32} {fa st : Int32} {rf : Nat → Nat} {sh : SV} {pn : Nat} {pk : Nat → Nat} {ps : Nat → SV} {im : Nat → Option SV} (hM : mdC w Y tl tb fa st rf sh pn pk ps im) {G F q : Nat → Int} {T n S : Nat} (hD : hdO w Y tl fa st pn G T F n) {qc : Nat → Int64} (a9 : w[Y + 9]? = some (aL 60 qc)) (hq : haF qc q S) (hS : hgO q S) : EX12_takeQuotient [.ref Y] w (fun r w' => r = none ∧ hdO w' Y tl fa st pn q S F n ∧ mdC w' Y tl tb fa st rf sh pn pk ps im ∧ FR (hdS Y) w w') := by
  obtain ⟨⟨f8, c8⟩, ⟨f9, c9⟩, ⟨f10, c10⟩, -⟩ := md_hd hM
  obtain ⟨th, ld, be, ib, re, ig, h, d, hY, a7, hh, a8, hd⟩ := hD
  refine EP.mono (mp_takeQuotient w hY a7 a9) ?_
  rintro r w' ⟨rfl, c, hc, rfl⟩
  have em : ∀ i, i < 60 → mvF h qc 60 i = qc i := fun i hi => if_pos hi
  have hS60 := hS.1
  have ec : c = S + 1 := top_uq hc hS.1 (by show (mvF h qc 60 S).toInt ≠ 0; rw [em S hS.1, hq S hS.1, if_pos (Nat.le_refl _)]; exact hS.2.1) (fun j h1 h2 => by show (mvF h qc 60 j).toInt = 0; rw [em j h2, hq j h2, if_neg (by omega)])
  subst ec
  rw [dgN_s]
  have lY : ((w.set (Y + 7) (aL 60 (mvF h qc 60))).set Y (oM Y th st (nI pn) (nI S) (nI n) ld be ib (nI tl) fa re ig))[Y]? = some (oM Y th st (nI pn) (nI S) (nI n) ld be ib (nI tl) fa re ig) := lk_eq (lk_ne (by omega) hY)
  have l7 : ((w.set (Y + 7) (aL 60 (mvF h qc 60))).set Y (oM Y th st (nI pn) (nI S) (nI n) ld be ib (nI tl) fa re ig))[Y + 7]? = some (aL 60 (mvF h qc 60)) := lk_ne (by omega) (lk_eq a7)
  have U : ∀ {i : Nat} {c : Ce}, i ≠ Y + 7 → i ≠ Y → w[i]? = some c → ((w.set (Y + 7) (aL 60 (mvF h qc 60))).set Y (oM Y th st (nI pn) (nI S) (nI n) ld be ib (nI tl) fa re ig))[i]? = some c := fun h1 h2 hc => lk_ne (Ne.symm h2) (lk_ne (Ne.symm h1) hc)
  exact ⟨rfl, ⟨_, _, _, _, _, _, _, d, lY, l7, fun i hi => by rw [em i hi]; exact hq i hi, U (by omega) (by omega) a8, hd⟩, hM.hd (FR.st (FR.st FR.rf a7 rfl (by unfold hdS; omega)) (lk_ne (by omega) hY) rfl (by unfold hdS; omega)) lY l7 (U (by omega) (by omega) a8) (U (by omega) (by omega) a9) (U (by omega) (by omega) c10)⟩
def dvM (n : Nat) (F : Nat → Int) (T : Nat) (q : Nat → Int) : Prop := cyIs n ∧ cyDg n ≤ T ∧ divOm q (cyG n) F (cyDg n) (T - cyDg n)
def ofM (n : Nat) : Nat → (Nat → Int) → Nat → (Nat → Int) → Nat → Prop
  | 0, F, T, F', T' => F' = F ∧ T' = T
  | c + 1, F, T, F', T' => ∃ F1 T1, ofM n c F T F1 T1 ∧ dvM n F1 T1 F' ∧ T' = T1 - cyDg n
def coM : Nat → (Nat → Int) → Nat → (Nat → Int) → Nat → Prop
  | 0, F, T, F', T' => F' = F ∧ T' = T
  | k + 1, F, T, F', T' => ∃ F1 T1 c, coM k F T F1 T1 ∧ ofM k c F1 T1 F' T' ∧ ∀ q, ¬ dvM k F' T' q
theorem cy_fd {n : Nat} (hn : n < 43) (hc : cyIs n) : fdO (cyG n) (cyDg n) := by
  have h := cy_dg ⟨n, hn⟩ hc
  refine ⟨h.2.1, ?_, fun t ht => cy_sm ⟨n, hn⟩ ⟨t, ?_⟩⟩
  · have : cyG n (cyDg n) = 1 := h.2.2.1
    rw [this]; decide
  · have : cyDg n ≤ 12 := h.2.1
    omega
abbrev BX12_by (w0 : Wd) (Post : Option Value → Wd → Prop) (w : Wd) (pc : Nat) (ls : List (Nat × Value)) (st : List Value) : Prop := GP "by" RX12 cX12_by 4 (some .int) 3 117 none w0 Post w pc ls st
abbrev EX12_by (As : List Value) (w : Wd) (Post : Option Value → Wd → Prop) : Prop := EP yX12_by cX12_by 4 (some .int) 3 As w Post
theorem mq_by (w : Wd) {Y tl : Nat} {tb : Nat → Int32} {fa st : Int32} {rf : Nat → Nat} {sh : SV} {pn : Nat} {pk : Nat → Nat} {ps : Nat → SV} {im : Nat → Option SV} (hM : mdC w Y tl tb fa st rf sh pn pk ps im) {x y z : Int32} : EX12_by [.ref Y, .int x, .int y, .int z] w (fun r w' => (¬ (isPl x ∧ isPl y ∧ isPl z) ∧ rfM (-2) 1 w Y tl tb fa rf sh pn pk ps im r w') ∨ (∃ i j k, x = nI i ∧ i < 8 ∧ y = nI j ∧ j < 8 ∧ z = nI k ∧ k < 8 ∧ (∀ q, ¬ ((sh.1 j).1 ≤ (sh.1 i).1 ∧ divOm q (sh.1 j).2 (sh.1 i).2 (sh.1 j).1 ((sh.1 i).1 - (sh.1 j).1))) ∧ rfM (-4) 2 w Y tl tb fa rf sh pn pk ps im r w') ∨ (∃ i j k q, x = nI i ∧ i < 8 ∧ y = nI j ∧ j < 8 ∧ z = nI k ∧ k < 8 ∧ (sh.1 j).1 ≤ (sh.1 i).1 ∧ divOm q (sh.1 j).2 (sh.1 i).2 (sh.1 j).1 ((sh.1 i).1 - (sh.1 j).1) ∧ putM (cutP q ((sh.1 i).1 - (sh.1 j).1 + 1)) 2 k w Y tl tb fa rf sh pn pk ps im r w')) := by
  refine EP.of (plainFor_of_name (by decide)) [(0, .ref Y), (1, .int x), (2, .int y), (3, .int z)] rfl (Nat.le_of_ble_eq_true rfl) (fun r wf h => by rcases h with ⟨-, rfl, -⟩ | ⟨i, j, k, -, -, -, -, -, -, -, rfl, -⟩ | ⟨i, j, k, q, -, -, -, -, -, -, -, -, h⟩; trivial; trivial; obtain ⟨v, rfl⟩ := putM_int h; trivial) ?_
  show BX12_by w _ w 0 [(0, .ref Y), (1, .int x), (2, .int y), (3, .int z)] []
  obtain ⟨⟨th, dg, dd, ld, be, ib, re, ig, hY⟩, ⟨⟨g1, a1, b1⟩, ⟨g2, a2, b2⟩, ⟨g3, g4, a3, a4, b3, b4⟩, ⟨g5, g6, a5, a6, b5⟩, ⟨g11, a11, b11⟩, ⟨g17, a17, b17⟩⟩, ⟨g7, g8, g9, g10, g12, g13, g14, g18, g19, g20, g21, a7, a8, a9, a10, a12, a13, a14, a18, a19, a20, a21⟩, ⟨g15, g16, a15, a16, b15⟩⟩ := id hM
  refine g_aload_n (pc := 0) 0 dX12_by_0 rfl rfl ?_
  refine g_iconst (pc := 1) (v := nI 0) dX12_by_1 (by decide) ?_
  refine g_put (pc := 2) (.int (nI 0) :: .int st :: .ref (Y + 1) :: .ref (Y + 2) :: .ref (Y + 3) :: .ref (Y + 4) :: .int (nI pn) :: .ref (Y + 5) :: .ref (Y + 6) :: .ref (Y + 7) :: .int dg :: .ref (Y + 8) :: .int dd :: .ref (Y + 9) :: .ref (Y + 10) :: .ref (Y + 11) :: .ref (Y + 12) :: .int ld :: .int be :: .int ib :: .ref (Y + 13) :: .ref (Y + 14) :: .ref (Y + 15) :: .ref (Y + 16) :: .ref (Y + 17) :: .int (nI tl) :: .int fa :: .int re :: .int ig :: .ref (Y + 18) :: .ref (Y + 19) :: .ref (Y + 20) :: .ref (Y + 21) :: []) dX12_by_2 fk_X12_83 hY (Nat.le_of_ble_eq_true rfl) rfl rfl ?_
  refine g_iload_n (pc := 5) 1 dX12_by_5 rfl rfl ?_
  refine g_callS (pc := 6) [.int x] dX12_by_6 cs_X12_277.1 cs_X12_277.2 rfl rfl (Nat.le_of_ble_eq_true rfl) (by decide) (by decide) (mp_isStore _) ?_
  rintro _ w9 (⟨rfl, hpi, e9⟩ | ⟨rfl, hpi, e9⟩)
  · refine GP.weq _ e9 ?_
    obtain ⟨i, rfl, hi⟩ := pl_of hpi
    refine n_if_eq (pc := 9) 26 dX12_by_9 (by decide) (by omega) (fun hd9 => ?_) (fun hd9 => ?_)
    · exact absurd hd9 (by decide)
    · refine g_iload_n (pc := 12) 2 dX12_by_12 rfl rfl ?_
      refine g_callS (pc := 13) [.int y] dX12_by_13 cs_X12_277.1 cs_X12_277.2 rfl rfl (Nat.le_of_ble_eq_true rfl) (by decide) (by decide) (mp_isStore _) ?_
      rintro _ w9 (⟨rfl, hpj, e9⟩ | ⟨rfl, hpj, e9⟩)
      · refine GP.weq _ e9 ?_
        obtain ⟨j, rfl, hj⟩ := pl_of hpj
        refine n_if_eq (pc := 16) 26 dX12_by_16 (by decide) (by omega) (fun hd9 => ?_) (fun hd9 => ?_)
        · exact absurd hd9 (by decide)
        · refine g_iload_n (pc := 19) 3 dX12_by_19 rfl rfl ?_
          refine g_callS (pc := 20) [.int z] dX12_by_20 cs_X12_277.1 cs_X12_277.2 rfl rfl (Nat.le_of_ble_eq_true rfl) (by decide) (by decide) (mp_isStore _) ?_
          rintro _ w9 (⟨rfl, hpk, e9⟩ | ⟨rfl, hpk, e9⟩)
          · refine GP.weq _ e9 ?_
            obtain ⟨k, rfl, hk⟩ := pl_of hpk
            refine n_if_ne (pc := 23) 33 dX12_by_23 (by decide) (by omega) (fun hd9 => ?_) (fun hd9 => ?_)
            · have hok := row_ok b2 hi
              have hok2 := row_ok b2 hj
              have hi12 := hok.1
              have hj12 := hok2.1
              refine g_aload_n (pc := 33) 0 dX12_by_33 rfl rfl ?_
              refine g_iload_n (pc := 34) 1 dX12_by_34 rfl rfl ?_
              obtain ⟨w1, ew1⟩ : ∃ wy : Wd, wy = (w.set Y (.inr (11, .int (nI 0) :: .int st :: .ref (Y + 1) :: .ref (Y + 2) :: .ref (Y + 3) :: .ref (Y + 4) :: .int (nI pn) :: .ref (Y + 5) :: .ref (Y + 6) :: .ref (Y + 7) :: .int dg :: .ref (Y + 8) :: .int dd :: .ref (Y + 9) :: .ref (Y + 10) :: .ref (Y + 11) :: .ref (Y + 12) :: .int ld :: .int be :: .int ib :: .ref (Y + 13) :: .ref (Y + 14) :: .ref (Y + 15) :: .ref (Y + 16) :: .ref (Y + 17) :: .int (nI tl) :: .int fa :: .int re :: .int ig :: .ref (Y + 18) :: .ref (Y + 19) :: .ref (Y + 20) :: .ref (Y + 21) :: []))) := ⟨_, rfl⟩
              refine GP.weq w1 ew1.symm ?_
              have hMz : mdC w1 Y tl tb fa st rf sh pn pk ps im := by rw [ew1]; exact ⟨⟨_, _, _, _, _, _, _, _, (lk_eq hY)⟩, ⟨⟨_, (lk_ne (show Y ≠ (Y + 1) by omega) a1), b1⟩, ⟨_, (lk_ne (show Y ≠ (Y + 2) by omega) a2), b2⟩, ⟨_, _, (lk_ne (show Y ≠ (Y + 3) by omega) a3), (lk_ne (show Y ≠ (Y + 4) by omega) a4), b3, b4⟩, ⟨_, _, (lk_ne (show Y ≠ (Y + 5) by omega) a5), (lk_ne (show Y ≠ (Y + 6) by omega) a6), b5⟩, ⟨_, (lk_ne (show Y ≠ (Y + 11) by omega) a11), b11⟩, ⟨_, (lk_ne (show Y ≠ (Y + 17) by omega) a17), b17⟩⟩, ⟨_, _, _, _, _, _, _, _, _, _, _, (lk_ne (show Y ≠ (Y + 7) by omega) a7), (lk_ne (show Y ≠ (Y + 8) by omega) a8), (lk_ne (show Y ≠ (Y + 9) by omega) a9), (lk_ne (show Y ≠ (Y + 10) by omega) a10), (lk_ne (show Y ≠ (Y + 12) by omega) a12), (lk_ne (show Y ≠ (Y + 13) by omega) a13), (lk_ne (show Y ≠ (Y + 14) by omega) a14), (lk_ne (show Y ≠ (Y + 18) by omega) a18), (lk_ne (show Y ≠ (Y + 19) by omega) a19), (lk_ne (show Y ≠ (Y + 20) by omega) a20), (lk_ne (show Y ≠ (Y + 21) by omega) a21)⟩, ⟨_, _, (lk_ne (show Y ≠ (Y + 15) by omega) a15), (lk_ne (show Y ≠ (Y + 16) by omega) a16), b15⟩⟩
              have hFz : FR (modS Y) w w1 := by rw [ew1]; exact (FR.st (c' := .inr (11, .int (nI 0) :: .int st :: .ref (Y + 1) :: .ref (Y + 2) :: .ref (Y + 3) :: .ref (Y + 4) :: .int (nI pn) :: .ref (Y + 5) :: .ref (Y + 6) :: .ref (Y + 7) :: .int dg :: .ref (Y + 8) :: .int dd :: .ref (Y + 9) :: .ref (Y + 10) :: .ref (Y + 11) :: .ref (Y + 12) :: .int ld :: .int be :: .int ib :: .ref (Y + 13) :: .ref (Y + 14) :: .ref (Y + 15) :: .ref (Y + 16) :: .ref (Y + 17) :: .int (nI tl) :: .int fa :: .int re :: .int ig :: .ref (Y + 18) :: .ref (Y + 19) :: .ref (Y + 20) :: .ref (Y + 21) :: [])) FR.rf hY rfl (by unfold modS; omega))
              have cYz : w1[Y]? = some (.inr (11, .int (nI 0) :: .int st :: .ref (Y + 1) :: .ref (Y + 2) :: .ref (Y + 3) :: .ref (Y + 4) :: .int (nI pn) :: .ref (Y + 5) :: .ref (Y + 6) :: .ref (Y + 7) :: .int dg :: .ref (Y + 8) :: .int dd :: .ref (Y + 9) :: .ref (Y + 10) :: .ref (Y + 11) :: .ref (Y + 12) :: .int ld :: .int be :: .int ib :: .ref (Y + 13) :: .ref (Y + 14) :: .ref (Y + 15) :: .ref (Y + 16) :: .ref (Y + 17) :: .int (nI tl) :: .int fa :: .int re :: .int ig :: .ref (Y + 18) :: .ref (Y + 19) :: .ref (Y + 20) :: .ref (Y + 21) :: [])) := by rw [ew1]; exact (lk_eq hY)
              obtain ⟨⟨thz, dgz, ddz, ldz, bez, ibz, rez, igz, hYz⟩, ⟨⟨g1z, a1z, b1z⟩, ⟨g2z, a2z, b2z⟩, ⟨g3z, g4z, a3z, a4z, b3z, b4z⟩, ⟨g5z, g6z, a5z, a6z, b5z⟩, ⟨g11z, a11z, b11z⟩, ⟨g17z, a17z, b17z⟩⟩, ⟨g7z, g8z, g9z, g10z, g12z, g13z, g14z, g18z, g19z, g20z, g21z, a7z, a8z, a9z, a10z, a12z, a13z, a14z, a18z, a19z, a20z, a21z⟩, ⟨g15z, g16z, a15z, a16z, b15z⟩⟩ := id hMz
              refine g_callV (pc := 35) [.int (nI i)] dX12_by_35 cv_X12_295.1 cv_X12_295.2.1 cv_X12_295.2.2.1 cv_X12_295.2.2.2 cYz rfl rfl (Nat.le_of_ble_eq_true rfl) (by decide) (by decide) (mq_takeH _ hMz hi) ?_
              rintro _ w2 ⟨rfl, hA2, hM2, hF2⟩
              have hF2 := hdm hF2
              obtain ⟨thA, ddA, ldA, beA, ibA, reA, igA, hA, cYA, c7A, hhA⟩ := id hA2
              refine g_aload_n (pc := 38) 0 dX12_by_38 rfl rfl ?_
              refine g_iload_n (pc := 39) 2 dX12_by_39 rfl rfl ?_
              refine g_callV (pc := 40) [.int (nI j)] dX12_by_40 cv_X12_298.1 cv_X12_298.2.1 cv_X12_298.2.2.1 cv_X12_298.2.2.2 cYA rfl rfl (Nat.le_of_ble_eq_true rfl) (by decide) (by decide) (mq_takeD _ hM2 hj hA2) ?_
              rintro _ w3 ⟨rfl, hD3, hM3, hF3⟩
              have hF3 := hdm hF3
              obtain ⟨thB, ldB, beB, ibB, reB, igB, hB, dB, cYB, c7B, hhB, c8B, hdB⟩ := id hD3
              refine g_aload_n (pc := 43) 0 dX12_by_43 rfl rfl ?_
              refine g_get (pc := 44) dX12_by_44 fk_X12_113 cYB rfl ?_
              refine g_aload_n (pc := 47) 0 dX12_by_47 rfl rfl ?_
              refine g_get (pc := 48) dX12_by_48 fk_X12_143 cYB rfl ?_
              have hG : hgO (sh.1 i).2 (sh.1 i).1 := ⟨by omega, hok.2.2.1, fun t ht => by have := hok.2.1 t ht; omega⟩
              have hFd : fdO (sh.1 j).2 (sh.1 j).1 := ⟨hj12, hok2.2.2.1, hok2.2.1⟩
              refine n_icmp_lt (pc := 51) 61 dX12_by_51 (by decide) (by omega) (by omega) (fun hlt => ?_) (fun hlt => ?_)
              · refine g_aload_n (pc := 61) 0 dX12_by_61 rfl rfl ?_
                refine g_bipush (pc := 62) (v := -4) dX12_by_62 (by decide) ?_
                refine g_callV (pc := 64) [.int (-4)] dX12_by_64 cv_X12_96.1 cv_X12_96.2.1 cv_X12_96.2.2.1 cv_X12_96.2.2.2 cYB rfl rfl (Nat.le_of_ble_eq_true rfl) (by decide) (by decide) (mq_refuse4 _ hM3) ?_
                rintro _ wq ⟨rfl, hR⟩
                exact g_iret (pc := 67) dX12_by_67 (Or.inr (Or.inl ⟨i, j, k, rfl, hi, rfl, hj, rfl, hk, fun q g => absurd g.1 (by omega), rfl, hR.1, (hFz.tr (hF2.tr hF3)).tr hR.2⟩))
              · refine g_aload_n (pc := 54) 0 dX12_by_54 rfl rfl ?_
                refine g_callV (pc := 55) [] dX12_by_55 cv_X12_160.1 cv_X12_160.2.1 cv_X12_160.2.2.1 cv_X12_160.2.2.2 cYB rfl rfl (Nat.le_of_ble_eq_true rfl) (by decide) (by decide) (mq_divides _ hM3 hD3 hG hFd (by omega)) ?_
                rintro _ w9 (⟨rfl, ⟨q, qc, hq, c9q, hqa⟩, hD4, hM4, hF4⟩ | ⟨rfl, hno, hD4, hM4, hF4⟩)
                · have hF4 := hdm hF4
                  obtain ⟨thC, ldC, beC, ibC, reC, igC, hC, dC, cYC, c7C, hhC, c8C, hdC⟩ := id hD4
                  refine n_if_ne (pc := 58) 68 dX12_by_58 (by decide) (by omega) (fun hd9 => ?_) (fun hd9 => ?_)
                  · have hS := om_hg hG (by omega) hq
                    refine g_aload_n (pc := 68) 0 dX12_by_68 rfl rfl ?_
                    refine g_callV (pc := 69) [] dX12_by_69 cv_X12_163.1 cv_X12_163.2.1 cv_X12_163.2.2.1 cv_X12_163.2.2.2 cYC rfl rfl (Nat.le_of_ble_eq_true rfl) (by decide) (by decide) (mq_takeQ _ hM4 hD4 c9q hqa hS) ?_
                    rintro _ w5 ⟨rfl, hD5, hM5, hF5⟩
                    have hF5 := hdm hF5
                    obtain ⟨thD, ldD, beD, ibD, reD, igD, hD, dD, cYD, c7D, hhD, c8D, hdD⟩ := id hD5
                    refine g_aload_n (pc := 72) 0 dX12_by_72 rfl rfl ?_
                    refine g_iload_n (pc := 73) 3 dX12_by_73 rfl rfl ?_
                    refine g_iconst (pc := 74) (v := nI 2) dX12_by_74 (by decide) ?_
                    refine g_callV (pc := 75) [.int (nI k), .int (nI 2)] dX12_by_75 cv_X12_286.1 cv_X12_286.2.1 cv_X12_286.2.2.1 cv_X12_286.2.2.2 cYD rfl rfl (Nat.le_of_ble_eq_true rfl) (by decide) (by decide) (mq_put _ hM5 (kd := 2) (k := k) (F := cutP q ((sh.1 i).1 - (sh.1 j).1 + 1)) c7D (fun t ht => by rw [hhD t ht]; unfold cutP; by_cases e : t ≤ (sh.1 i).1 - (sh.1 j).1; · { rw [if_pos e, if_pos (by omega)] }; · { rw [if_neg e, if_neg (by omega)] }) (fun t h1 h2 => if_neg (by omega)) hk) ?_
                    rintro rz wq hR
                    obtain ⟨vz, rfl⟩ : ∃ vz, rz = some (.int vz) := putM_int hR
                    exact g_iret (pc := 78) dX12_by_78 (Or.inr (Or.inr ⟨i, j, k, q, rfl, hi, rfl, hj, rfl, hk, by omega, hq, putM.fr hR (hFz.tr (hF2.tr (hF3.tr (hF4.tr hF5))))⟩))
                  · exact absurd hd9 (by decide)
                · have hF4 := hdm hF4
                  obtain ⟨thC, ldC, beC, ibC, reC, igC, hC, dC, cYC, c7C, hhC, c8C, hdC⟩ := id hD4
                  refine n_if_ne (pc := 58) 68 dX12_by_58 (by decide) (by omega) (fun hd9 => ?_) (fun hd9 => ?_)
                  · exact absurd rfl hd9
                  · refine g_aload_n (pc := 61) 0 dX12_by_61 rfl rfl ?_
                    refine g_bipush (pc := 62) (v := -4) dX12_by_62 (by decide) ?_
                    refine g_callV (pc := 64) [.int (-4)] dX12_by_64 cv_X12_96.1 cv_X12_96.2.1 cv_X12_96.2.2.1 cv_X12_96.2.2.2 cYC rfl rfl (Nat.le_of_ble_eq_true rfl) (by decide) (by decide) (mq_refuse4 _ hM4) ?_
                    rintro _ wq ⟨rfl, hR⟩
                    exact g_iret (pc := 67) dX12_by_67 (Or.inr (Or.inl ⟨i, j, k, rfl, hi, rfl, hj, rfl, hk, fun q g => hno q g.2, rfl, hR.1, (hFz.tr (hF2.tr (hF3.tr hF4))).tr hR.2⟩))
            · exact absurd hd9 (by decide)
          · refine GP.weq _ e9 ?_
            refine n_if_ne (pc := 23) 33 dX12_by_23 (by decide) (by omega) (fun hd9 => ?_) (fun hd9 => ?_)
            · exact absurd rfl hd9
            · refine g_aload_n (pc := 26) 0 dX12_by_26 rfl rfl ?_
              refine g_bipush (pc := 27) (v := -2) dX12_by_27 (by decide) ?_
              obtain ⟨wr, ewr⟩ : ∃ wy : Wd, wy = (w.set Y (.inr (11, .int (nI 0) :: .int st :: .ref (Y + 1) :: .ref (Y + 2) :: .ref (Y + 3) :: .ref (Y + 4) :: .int (nI pn) :: .ref (Y + 5) :: .ref (Y + 6) :: .ref (Y + 7) :: .int dg :: .ref (Y + 8) :: .int dd :: .ref (Y + 9) :: .ref (Y + 10) :: .ref (Y + 11) :: .ref (Y + 12) :: .int ld :: .int be :: .int ib :: .ref (Y + 13) :: .ref (Y + 14) :: .ref (Y + 15) :: .ref (Y + 16) :: .ref (Y + 17) :: .int (nI tl) :: .int fa :: .int re :: .int ig :: .ref (Y + 18) :: .ref (Y + 19) :: .ref (Y + 20) :: .ref (Y + 21) :: []))) := ⟨_, rfl⟩
              refine GP.weq wr ewr.symm ?_
              have hMr : mdC wr Y tl tb fa st rf sh pn pk ps im := by rw [ewr]; exact ⟨⟨_, _, _, _, _, _, _, _, (lk_eq hY)⟩, ⟨⟨_, (lk_ne (show Y ≠ (Y + 1) by omega) a1), b1⟩, ⟨_, (lk_ne (show Y ≠ (Y + 2) by omega) a2), b2⟩, ⟨_, _, (lk_ne (show Y ≠ (Y + 3) by omega) a3), (lk_ne (show Y ≠ (Y + 4) by omega) a4), b3, b4⟩, ⟨_, _, (lk_ne (show Y ≠ (Y + 5) by omega) a5), (lk_ne (show Y ≠ (Y + 6) by omega) a6), b5⟩, ⟨_, (lk_ne (show Y ≠ (Y + 11) by omega) a11), b11⟩, ⟨_, (lk_ne (show Y ≠ (Y + 17) by omega) a17), b17⟩⟩, ⟨_, _, _, _, _, _, _, _, _, _, _, (lk_ne (show Y ≠ (Y + 7) by omega) a7), (lk_ne (show Y ≠ (Y + 8) by omega) a8), (lk_ne (show Y ≠ (Y + 9) by omega) a9), (lk_ne (show Y ≠ (Y + 10) by omega) a10), (lk_ne (show Y ≠ (Y + 12) by omega) a12), (lk_ne (show Y ≠ (Y + 13) by omega) a13), (lk_ne (show Y ≠ (Y + 14) by omega) a14), (lk_ne (show Y ≠ (Y + 18) by omega) a18), (lk_ne (show Y ≠ (Y + 19) by omega) a19), (lk_ne (show Y ≠ (Y + 20) by omega) a20), (lk_ne (show Y ≠ (Y + 21) by omega) a21)⟩, ⟨_, _, (lk_ne (show Y ≠ (Y + 15) by omega) a15), (lk_ne (show Y ≠ (Y + 16) by omega) a16), b15⟩⟩
              have hFr : FR (modS Y) w wr := by rw [ewr]; exact (FR.st (c' := .inr (11, .int (nI 0) :: .int st :: .ref (Y + 1) :: .ref (Y + 2) :: .ref (Y + 3) :: .ref (Y + 4) :: .int (nI pn) :: .ref (Y + 5) :: .ref (Y + 6) :: .ref (Y + 7) :: .int dg :: .ref (Y + 8) :: .int dd :: .ref (Y + 9) :: .ref (Y + 10) :: .ref (Y + 11) :: .ref (Y + 12) :: .int ld :: .int be :: .int ib :: .ref (Y + 13) :: .ref (Y + 14) :: .ref (Y + 15) :: .ref (Y + 16) :: .ref (Y + 17) :: .int (nI tl) :: .int fa :: .int re :: .int ig :: .ref (Y + 18) :: .ref (Y + 19) :: .ref (Y + 20) :: .ref (Y + 21) :: [])) FR.rf hY rfl (by unfold modS; omega))
              refine g_callV (pc := 29) [.int (-2)] dX12_by_29 cv_X12_96.1 cv_X12_96.2.1 cv_X12_96.2.2.1 cv_X12_96.2.2.2 (by rw [ewr]; exact (lk_eq hY)) rfl rfl (Nat.le_of_ble_eq_true rfl) (by decide) (by decide) (mq_refuse2 _ hMr) ?_
              rintro _ wq ⟨rfl, hR⟩
              exact g_iret (pc := 32) dX12_by_32 (Or.inl ⟨fun g => hpk g.2.2, ⟨rfl, hR.1, hFr.tr hR.2⟩⟩)
      · refine GP.weq _ e9 ?_
        refine n_if_eq (pc := 16) 26 dX12_by_16 (by decide) (by omega) (fun hd9 => ?_) (fun hd9 => ?_)
        · refine g_aload_n (pc := 26) 0 dX12_by_26 rfl rfl ?_
          refine g_bipush (pc := 27) (v := -2) dX12_by_27 (by decide) ?_
          obtain ⟨wr, ewr⟩ : ∃ wy : Wd, wy = (w.set Y (.inr (11, .int (nI 0) :: .int st :: .ref (Y + 1) :: .ref (Y + 2) :: .ref (Y + 3) :: .ref (Y + 4) :: .int (nI pn) :: .ref (Y + 5) :: .ref (Y + 6) :: .ref (Y + 7) :: .int dg :: .ref (Y + 8) :: .int dd :: .ref (Y + 9) :: .ref (Y + 10) :: .ref (Y + 11) :: .ref (Y + 12) :: .int ld :: .int be :: .int ib :: .ref (Y + 13) :: .ref (Y + 14) :: .ref (Y + 15) :: .ref (Y + 16) :: .ref (Y + 17) :: .int (nI tl) :: .int fa :: .int re :: .int ig :: .ref (Y + 18) :: .ref (Y + 19) :: .ref (Y + 20) :: .ref (Y + 21) :: []))) := ⟨_, rfl⟩
          refine GP.weq wr ewr.symm ?_
          have hMr : mdC wr Y tl tb fa st rf sh pn pk ps im := by rw [ewr]; exact ⟨⟨_, _, _, _, _, _, _, _, (lk_eq hY)⟩, ⟨⟨_, (lk_ne (show Y ≠ (Y + 1) by omega) a1), b1⟩, ⟨_, (lk_ne (show Y ≠ (Y + 2) by omega) a2), b2⟩, ⟨_, _, (lk_ne (show Y ≠ (Y + 3) by omega) a3), (lk_ne (show Y ≠ (Y + 4) by omega) a4), b3, b4⟩, ⟨_, _, (lk_ne (show Y ≠ (Y + 5) by omega) a5), (lk_ne (show Y ≠ (Y + 6) by omega) a6), b5⟩, ⟨_, (lk_ne (show Y ≠ (Y + 11) by omega) a11), b11⟩, ⟨_, (lk_ne (show Y ≠ (Y + 17) by omega) a17), b17⟩⟩, ⟨_, _, _, _, _, _, _, _, _, _, _, (lk_ne (show Y ≠ (Y + 7) by omega) a7), (lk_ne (show Y ≠ (Y + 8) by omega) a8), (lk_ne (show Y ≠ (Y + 9) by omega) a9), (lk_ne (show Y ≠ (Y + 10) by omega) a10), (lk_ne (show Y ≠ (Y + 12) by omega) a12), (lk_ne (show Y ≠ (Y + 13) by omega) a13), (lk_ne (show Y ≠ (Y + 14) by omega) a14), (lk_ne (show Y ≠ (Y + 18) by omega) a18), (lk_ne (show Y ≠ (Y + 19) by omega) a19), (lk_ne (show Y ≠ (Y + 20) by omega) a20), (lk_ne (show Y ≠ (Y + 21) by omega) a21)⟩, ⟨_, _, (lk_ne (show Y ≠ (Y + 15) by omega) a15), (lk_ne (show Y ≠ (Y + 16) by omega) a16), b15⟩⟩
          have hFr : FR (modS Y) w wr := by rw [ewr]; exact (FR.st (c' := .inr (11, .int (nI 0) :: .int st :: .ref (Y + 1) :: .ref (Y + 2) :: .ref (Y + 3) :: .ref (Y + 4) :: .int (nI pn) :: .ref (Y + 5) :: .ref (Y + 6) :: .ref (Y + 7) :: .int dg :: .ref (Y + 8) :: .int dd :: .ref (Y + 9) :: .ref (Y + 10) :: .ref (Y + 11) :: .ref (Y + 12) :: .int ld :: .int be :: .int ib :: .ref (Y + 13) :: .ref (Y + 14) :: .ref (Y + 15) :: .ref (Y + 16) :: .ref (Y + 17) :: .int (nI tl) :: .int fa :: .int re :: .int ig :: .ref (Y + 18) :: .ref (Y + 19) :: .ref (Y + 20) :: .ref (Y + 21) :: [])) FR.rf hY rfl (by unfold modS; omega))
          refine g_callV (pc := 29) [.int (-2)] dX12_by_29 cv_X12_96.1 cv_X12_96.2.1 cv_X12_96.2.2.1 cv_X12_96.2.2.2 (by rw [ewr]; exact (lk_eq hY)) rfl rfl (Nat.le_of_ble_eq_true rfl) (by decide) (by decide) (mq_refuse2 _ hMr) ?_
          rintro _ wq ⟨rfl, hR⟩
          exact g_iret (pc := 32) dX12_by_32 (Or.inl ⟨fun g => hpj g.2.1, ⟨rfl, hR.1, hFr.tr hR.2⟩⟩)
        · exact absurd rfl hd9
  · refine GP.weq _ e9 ?_
    refine n_if_eq (pc := 9) 26 dX12_by_9 (by decide) (by omega) (fun hd9 => ?_) (fun hd9 => ?_)
    · refine g_aload_n (pc := 26) 0 dX12_by_26 rfl rfl ?_
      refine g_bipush (pc := 27) (v := -2) dX12_by_27 (by decide) ?_
      obtain ⟨wr, ewr⟩ : ∃ wy : Wd, wy = (w.set Y (.inr (11, .int (nI 0) :: .int st :: .ref (Y + 1) :: .ref (Y + 2) :: .ref (Y + 3) :: .ref (Y + 4) :: .int (nI pn) :: .ref (Y + 5) :: .ref (Y + 6) :: .ref (Y + 7) :: .int dg :: .ref (Y + 8) :: .int dd :: .ref (Y + 9) :: .ref (Y + 10) :: .ref (Y + 11) :: .ref (Y + 12) :: .int ld :: .int be :: .int ib :: .ref (Y + 13) :: .ref (Y + 14) :: .ref (Y + 15) :: .ref (Y + 16) :: .ref (Y + 17) :: .int (nI tl) :: .int fa :: .int re :: .int ig :: .ref (Y + 18) :: .ref (Y + 19) :: .ref (Y + 20) :: .ref (Y + 21) :: []))) := ⟨_, rfl⟩
      refine GP.weq wr ewr.symm ?_
      have hMr : mdC wr Y tl tb fa st rf sh pn pk ps im := by rw [ewr]; exact ⟨⟨_, _, _, _, _, _, _, _, (lk_eq hY)⟩, ⟨⟨_, (lk_ne (show Y ≠ (Y + 1) by omega) a1), b1⟩, ⟨_, (lk_ne (show Y ≠ (Y + 2) by omega) a2), b2⟩, ⟨_, _, (lk_ne (show Y ≠ (Y + 3) by omega) a3), (lk_ne (show Y ≠ (Y + 4) by omega) a4), b3, b4⟩, ⟨_, _, (lk_ne (show Y ≠ (Y + 5) by omega) a5), (lk_ne (show Y ≠ (Y + 6) by omega) a6), b5⟩, ⟨_, (lk_ne (show Y ≠ (Y + 11) by omega) a11), b11⟩, ⟨_, (lk_ne (show Y ≠ (Y + 17) by omega) a17), b17⟩⟩, ⟨_, _, _, _, _, _, _, _, _, _, _, (lk_ne (show Y ≠ (Y + 7) by omega) a7), (lk_ne (show Y ≠ (Y + 8) by omega) a8), (lk_ne (show Y ≠ (Y + 9) by omega) a9), (lk_ne (show Y ≠ (Y + 10) by omega) a10), (lk_ne (show Y ≠ (Y + 12) by omega) a12), (lk_ne (show Y ≠ (Y + 13) by omega) a13), (lk_ne (show Y ≠ (Y + 14) by omega) a14), (lk_ne (show Y ≠ (Y + 18) by omega) a18), (lk_ne (show Y ≠ (Y + 19) by omega) a19), (lk_ne (show Y ≠ (Y + 20) by omega) a20), (lk_ne (show Y ≠ (Y + 21) by omega) a21)⟩, ⟨_, _, (lk_ne (show Y ≠ (Y + 15) by omega) a15), (lk_ne (show Y ≠ (Y + 16) by omega) a16), b15⟩⟩
      have hFr : FR (modS Y) w wr := by rw [ewr]; exact (FR.st (c' := .inr (11, .int (nI 0) :: .int st :: .ref (Y + 1) :: .ref (Y + 2) :: .ref (Y + 3) :: .ref (Y + 4) :: .int (nI pn) :: .ref (Y + 5) :: .ref (Y + 6) :: .ref (Y + 7) :: .int dg :: .ref (Y + 8) :: .int dd :: .ref (Y + 9) :: .ref (Y + 10) :: .ref (Y + 11) :: .ref (Y + 12) :: .int ld :: .int be :: .int ib :: .ref (Y + 13) :: .ref (Y + 14) :: .ref (Y + 15) :: .ref (Y + 16) :: .ref (Y + 17) :: .int (nI tl) :: .int fa :: .int re :: .int ig :: .ref (Y + 18) :: .ref (Y + 19) :: .ref (Y + 20) :: .ref (Y + 21) :: [])) FR.rf hY rfl (by unfold modS; omega))
      refine g_callV (pc := 29) [.int (-2)] dX12_by_29 cv_X12_96.1 cv_X12_96.2.1 cv_X12_96.2.2.1 cv_X12_96.2.2.2 (by rw [ewr]; exact (lk_eq hY)) rfl rfl (Nat.le_of_ble_eq_true rfl) (by decide) (by decide) (mq_refuse2 _ hMr) ?_
      rintro _ wq ⟨rfl, hR⟩
      exact g_iret (pc := 32) dX12_by_32 (Or.inl ⟨fun g => hpi g.1, ⟨rfl, hR.1, hFr.tr hR.2⟩⟩)
    · exact absurd rfl hd9
abbrev BX12_often (w0 : Wd) (Post : Option Value → Wd → Prop) (w : Wd) (pc : Nat) (ls : List (Nat × Value)) (st : List Value) : Prop := GP "often" RX12 cX12_often 4 (some .int) 2 78 none w0 Post w pc ls st
abbrev EX12_often (As : List Value) (w : Wd) (Post : Option Value → Wd → Prop) : Prop := EP yX12_often cX12_often 4 (some .int) 2 As w Post
theorem oft_loop {w0 w : Wd} {Y tl : Nat} {tb : Nat → Int32} {fa st : Int32} {rf : Nat → Nat} {sh : SV} {pn : Nat} {pk : Nat → Nat} {ps : Nat → SV} {im : Nat → Option SV} {n i T0 : Nat} {F0 : Nat → Int} (hn : n < 43) (hc : cyIs n) : ∀ (z T c : Nat) (G : Nat → Int) (w1 : Wd), T ≤ z → mdC w1 Y tl tb fa st rf sh pn pk ps im → hdO w1 Y tl fa st pn G T (cyG n) (cyDg n) → hgO G T → FR (modS Y) w w1 → ofM n c F0 T0 G T → BX12_often w0 (fun r w' => ∃ c G T', r = some (.int (nI c)) ∧ ofM n c F0 T0 G T' ∧ (∀ q, ¬ dvM n G T' q) ∧ mdC w' Y tl tb fa st rf sh pn pk ps im ∧ FR (modS Y) w w') w1 38 [(3, .int (nI c)), (2, .int (nI n)), (1, .int (nI i)), (0, .ref Y)] [] := by
  have hcd : 1 ≤ cyDg n ∧ cyDg n ≤ 12 := ⟨(cy_dg ⟨n, hn⟩ hc).1, (cy_dg ⟨n, hn⟩ hc).2.1⟩
  have hFd := cy_fd hn hc
  intro z
  induction z with
  | zero =>
    intro T c G w1 hz hM1 hD1 hG1 hF1 hO1
    obtain ⟨thE, ldE, beE, ibE, reE, igE, hE, dE, cYE, c7E, hhE, c8E, hdE⟩ := id hD1
    have hT60 := hG1.1
    refine g_aload_n (pc := 38) 3 dX12_often_38 rfl rfl ?_
    refine g_get (pc := 39) dX12_often_39 fk_X12_113 cYE rfl ?_
    refine g_aload_n (pc := 42) 3 dX12_often_42 rfl rfl ?_
    refine g_get (pc := 43) dX12_often_43 fk_X12_143 cYE rfl ?_
    refine n_icmp_lt (pc := 46) 66 dX12_often_46 (by decide) (by omega) (by omega) (fun hlt => ?_) (fun hlt => ?_)
    · refine g_iload_n (pc := 66) 0 dX12_often_66 rfl rfl ?_
      exact g_iret (pc := 67) dX12_often_67 ⟨c, G, T, rfl, hO1, fun q g => absurd g.2.1 (by omega), hM1, hF1⟩
    · exact absurd (show T < cyDg n by omega) hlt
  | succ z ih =>
    intro T c G w1 hz hM1 hD1 hG1 hF1 hO1
    obtain ⟨thE, ldE, beE, ibE, reE, igE, hE, dE, cYE, c7E, hhE, c8E, hdE⟩ := id hD1
    have hT60 := hG1.1
    refine g_aload_n (pc := 38) 3 dX12_often_38 rfl rfl ?_
    refine g_get (pc := 39) dX12_often_39 fk_X12_113 cYE rfl ?_
    refine g_aload_n (pc := 42) 3 dX12_often_42 rfl rfl ?_
    refine g_get (pc := 43) dX12_often_43 fk_X12_143 cYE rfl ?_
    refine n_icmp_lt (pc := 46) 66 dX12_often_46 (by decide) (by omega) (by omega) (fun hlt => ?_) (fun hlt => ?_)
    · refine g_iload_n (pc := 66) 0 dX12_often_66 rfl rfl ?_
      exact g_iret (pc := 67) dX12_often_67 ⟨c, G, T, rfl, hO1, fun q g => absurd g.2.1 (by omega), hM1, hF1⟩
    · refine g_aload_n (pc := 49) 3 dX12_often_49 rfl rfl ?_
      refine g_callV (pc := 50) [] dX12_often_50 cv_X12_160.1 cv_X12_160.2.1 cv_X12_160.2.2.1 cv_X12_160.2.2.2 cYE rfl rfl (Nat.le_of_ble_eq_true rfl) (by decide) (by decide) (mq_divides _ hM1 hD1 hG1 hFd (by omega)) ?_
      rintro _ w9 (⟨rfl, ⟨q, qc, hq, c9q, hqa⟩, hD4, hM4, hF4⟩ | ⟨rfl, hno, hD4, hM4, hF4⟩)
      · have hF4 := hdm hF4
        obtain ⟨thC, ldC, beC, ibC, reC, igC, hC, dC, cYC, c7C, hhC, c8C, hdC⟩ := id hD4
        refine n_if_eq (pc := 53) 66 dX12_often_53 (by decide) (by omega) (fun hd9 => ?_) (fun hd9 => ?_)
        · exact absurd hd9 (by decide)
        · have hS := om_hg hG1 (by omega) hq
          refine g_aload_n (pc := 56) 3 dX12_often_56 rfl rfl ?_
          refine g_callV (pc := 57) [] dX12_often_57 cv_X12_163.1 cv_X12_163.2.1 cv_X12_163.2.2.1 cv_X12_163.2.2.2 cYC rfl rfl (Nat.le_of_ble_eq_true rfl) (by decide) (by decide) (mq_takeQ _ hM4 hD4 c9q hqa hS) ?_
          rintro _ w5 ⟨rfl, hD5, hM5, hF5⟩
          have hF5 := hdm hF5
          refine n_iinc (pc := 60) (c := 1) [(3, .int (nI (c + 1))), (2, .int (nI n)), (1, .int (nI i)), (0, .ref Y)] 0 dX12_often_60 rfl (by decide) (by decide) rfl ?_
          refine g_goto (pc := 63) 38 dX12_often_63 (by decide) ?_
          exact GP.lsub _ (by simp) (ih (T - cyDg n) (c + 1) q w5 (by omega) hM5 hD5 hS (hF1.tr (hF4.tr hF5)) ⟨G, T, hO1, ⟨hc, by omega, hq⟩, rfl⟩)
      · have hF4 := hdm hF4
        obtain ⟨thC, ldC, beC, ibC, reC, igC, hC, dC, cYC, c7C, hhC, c8C, hdC⟩ := id hD4
        refine n_if_eq (pc := 53) 66 dX12_often_53 (by decide) (by omega) (fun hd9 => ?_) (fun hd9 => ?_)
        · refine g_iload_n (pc := 66) 0 dX12_often_66 rfl rfl ?_
          exact g_iret (pc := 67) dX12_often_67 ⟨c, G, T, rfl, hO1, fun q g => hno q g.2.2, hM4, hF1.tr hF4⟩
        · exact absurd rfl hd9
theorem cyIs_0 : cyIs 0 := by show cyL.getD 0 [] ≠ []; decide
theorem mq_often (w : Wd) {Y tl : Nat} {tb : Nat → Int32} {fa st : Int32} {rf : Nat → Nat} {sh : SV} {pn : Nat} {pk : Nat → Nat} {ps : Nat → SV} {im : Nat → Option SV} (hM : mdC w Y tl tb fa st rf sh pn pk ps im) {x y : Int32} : EX12_often [.ref Y, .int x, .int y] w (fun r w' => (¬ (isPl x ∧ ∃ n, y = nI n ∧ n < 43 ∧ cyIs n) ∧ r = some (.int (-1)) ∧ mdC w' Y tl tb fa st rf sh pn pk ps im ∧ FR (modS Y) w w') ∨ (∃ i n c G T', x = nI i ∧ i < 8 ∧ y = nI n ∧ n < 43 ∧ cyIs n ∧ ofM n c (sh.1 i).2 (sh.1 i).1 G T' ∧ (∀ q, ¬ dvM n G T' q) ∧ r = some (.int (nI c)) ∧ mdC w' Y tl tb fa st rf sh pn pk ps im ∧ FR (modS Y) w w')) := by
  refine EP.of (plainFor_of_name (by decide)) [(0, .ref Y), (1, .int x), (2, .int y)] rfl (Nat.le_of_ble_eq_true rfl) (fun r wf h => by rcases h with ⟨-, rfl, -⟩ | ⟨i, n, c, G, T, -, -, -, -, -, -, -, rfl, -⟩ <;> trivial) ?_
  show BX12_often w _ w 0 [(0, .ref Y), (1, .int x), (2, .int y)] []
  obtain ⟨⟨th, dg, dd, ld, be, ib, re, ig, hY⟩, ⟨⟨g1, a1, b1⟩, ⟨g2, a2, b2⟩, ⟨g3, g4, a3, a4, b3, b4⟩, ⟨g5, g6, a5, a6, b5⟩, ⟨g11, a11, b11⟩, ⟨g17, a17, b17⟩⟩, ⟨g7, g8, g9, g10, g12, g13, g14, g18, g19, g20, g21, a7, a8, a9, a10, a12, a13, a14, a18, a19, a20, a21⟩, ⟨g15, g16, a15, a16, b15⟩⟩ := id hM
  refine g_aload_n (pc := 0) 0 dX12_often_0 rfl rfl ?_
  refine g_iconst (pc := 1) (v := nI 0) dX12_often_1 (by decide) ?_
  refine g_put (pc := 2) (.int (nI 0) :: .int st :: .ref (Y + 1) :: .ref (Y + 2) :: .ref (Y + 3) :: .ref (Y + 4) :: .int (nI pn) :: .ref (Y + 5) :: .ref (Y + 6) :: .ref (Y + 7) :: .int dg :: .ref (Y + 8) :: .int dd :: .ref (Y + 9) :: .ref (Y + 10) :: .ref (Y + 11) :: .ref (Y + 12) :: .int ld :: .int be :: .int ib :: .ref (Y + 13) :: .ref (Y + 14) :: .ref (Y + 15) :: .ref (Y + 16) :: .ref (Y + 17) :: .int (nI tl) :: .int fa :: .int re :: .int ig :: .ref (Y + 18) :: .ref (Y + 19) :: .ref (Y + 20) :: .ref (Y + 21) :: []) dX12_often_2 fk_X12_83 hY (Nat.le_of_ble_eq_true rfl) rfl rfl ?_
  refine g_iload_n (pc := 5) 1 dX12_often_5 rfl rfl ?_
  refine g_callS (pc := 6) [.int x] dX12_often_6 cs_X12_277.1 cs_X12_277.2 rfl rfl (Nat.le_of_ble_eq_true rfl) (by decide) (by decide) (mp_isStore _) ?_
  rintro _ w9 (⟨rfl, hpi, e9⟩ | ⟨rfl, hpi, e9⟩)
  · refine GP.weq _ e9 ?_
    obtain ⟨i, rfl, hi⟩ := pl_of hpi
    refine n_if_eq (pc := 9) 24 dX12_often_9 (by decide) (by omega) (fun hd9 => ?_) (fun hd9 => ?_)
    · exact absurd hd9 (by decide)
    · refine g_iload_n (pc := 12) 2 dX12_often_12 rfl rfl ?_
      refine g_if_eq (pc := 13) 26 dX12_often_13 (by decide) (fun h0 => ?_) (fun h0 => ?_)
      · have ey : y = nI 0 := h0
        subst ey
        have hok := row_ok b2 hi
        have hi12 := hok.1
        refine g_aload_n (pc := 26) 0 dX12_often_26 rfl rfl ?_
        refine g_iload_n (pc := 27) 1 dX12_often_27 rfl rfl ?_
        obtain ⟨w1, ew1⟩ : ∃ wy : Wd, wy = (w.set Y (.inr (11, .int (nI 0) :: .int st :: .ref (Y + 1) :: .ref (Y + 2) :: .ref (Y + 3) :: .ref (Y + 4) :: .int (nI pn) :: .ref (Y + 5) :: .ref (Y + 6) :: .ref (Y + 7) :: .int dg :: .ref (Y + 8) :: .int dd :: .ref (Y + 9) :: .ref (Y + 10) :: .ref (Y + 11) :: .ref (Y + 12) :: .int ld :: .int be :: .int ib :: .ref (Y + 13) :: .ref (Y + 14) :: .ref (Y + 15) :: .ref (Y + 16) :: .ref (Y + 17) :: .int (nI tl) :: .int fa :: .int re :: .int ig :: .ref (Y + 18) :: .ref (Y + 19) :: .ref (Y + 20) :: .ref (Y + 21) :: []))) := ⟨_, rfl⟩
        refine GP.weq w1 ew1.symm ?_
        have hMz : mdC w1 Y tl tb fa st rf sh pn pk ps im := by rw [ew1]; exact ⟨⟨_, _, _, _, _, _, _, _, (lk_eq hY)⟩, ⟨⟨_, (lk_ne (show Y ≠ (Y + 1) by omega) a1), b1⟩, ⟨_, (lk_ne (show Y ≠ (Y + 2) by omega) a2), b2⟩, ⟨_, _, (lk_ne (show Y ≠ (Y + 3) by omega) a3), (lk_ne (show Y ≠ (Y + 4) by omega) a4), b3, b4⟩, ⟨_, _, (lk_ne (show Y ≠ (Y + 5) by omega) a5), (lk_ne (show Y ≠ (Y + 6) by omega) a6), b5⟩, ⟨_, (lk_ne (show Y ≠ (Y + 11) by omega) a11), b11⟩, ⟨_, (lk_ne (show Y ≠ (Y + 17) by omega) a17), b17⟩⟩, ⟨_, _, _, _, _, _, _, _, _, _, _, (lk_ne (show Y ≠ (Y + 7) by omega) a7), (lk_ne (show Y ≠ (Y + 8) by omega) a8), (lk_ne (show Y ≠ (Y + 9) by omega) a9), (lk_ne (show Y ≠ (Y + 10) by omega) a10), (lk_ne (show Y ≠ (Y + 12) by omega) a12), (lk_ne (show Y ≠ (Y + 13) by omega) a13), (lk_ne (show Y ≠ (Y + 14) by omega) a14), (lk_ne (show Y ≠ (Y + 18) by omega) a18), (lk_ne (show Y ≠ (Y + 19) by omega) a19), (lk_ne (show Y ≠ (Y + 20) by omega) a20), (lk_ne (show Y ≠ (Y + 21) by omega) a21)⟩, ⟨_, _, (lk_ne (show Y ≠ (Y + 15) by omega) a15), (lk_ne (show Y ≠ (Y + 16) by omega) a16), b15⟩⟩
        have hFz : FR (modS Y) w w1 := by rw [ew1]; exact (FR.st (c' := .inr (11, .int (nI 0) :: .int st :: .ref (Y + 1) :: .ref (Y + 2) :: .ref (Y + 3) :: .ref (Y + 4) :: .int (nI pn) :: .ref (Y + 5) :: .ref (Y + 6) :: .ref (Y + 7) :: .int dg :: .ref (Y + 8) :: .int dd :: .ref (Y + 9) :: .ref (Y + 10) :: .ref (Y + 11) :: .ref (Y + 12) :: .int ld :: .int be :: .int ib :: .ref (Y + 13) :: .ref (Y + 14) :: .ref (Y + 15) :: .ref (Y + 16) :: .ref (Y + 17) :: .int (nI tl) :: .int fa :: .int re :: .int ig :: .ref (Y + 18) :: .ref (Y + 19) :: .ref (Y + 20) :: .ref (Y + 21) :: [])) FR.rf hY rfl (by unfold modS; omega))
        have cYz : w1[Y]? = some (.inr (11, .int (nI 0) :: .int st :: .ref (Y + 1) :: .ref (Y + 2) :: .ref (Y + 3) :: .ref (Y + 4) :: .int (nI pn) :: .ref (Y + 5) :: .ref (Y + 6) :: .ref (Y + 7) :: .int dg :: .ref (Y + 8) :: .int dd :: .ref (Y + 9) :: .ref (Y + 10) :: .ref (Y + 11) :: .ref (Y + 12) :: .int ld :: .int be :: .int ib :: .ref (Y + 13) :: .ref (Y + 14) :: .ref (Y + 15) :: .ref (Y + 16) :: .ref (Y + 17) :: .int (nI tl) :: .int fa :: .int re :: .int ig :: .ref (Y + 18) :: .ref (Y + 19) :: .ref (Y + 20) :: .ref (Y + 21) :: [])) := by rw [ew1]; exact (lk_eq hY)
        obtain ⟨⟨thz, dgz, ddz, ldz, bez, ibz, rez, igz, hYz⟩, ⟨⟨g1z, a1z, b1z⟩, ⟨g2z, a2z, b2z⟩, ⟨g3z, g4z, a3z, a4z, b3z, b4z⟩, ⟨g5z, g6z, a5z, a6z, b5z⟩, ⟨g11z, a11z, b11z⟩, ⟨g17z, a17z, b17z⟩⟩, ⟨g7z, g8z, g9z, g10z, g12z, g13z, g14z, g18z, g19z, g20z, g21z, a7z, a8z, a9z, a10z, a12z, a13z, a14z, a18z, a19z, a20z, a21z⟩, ⟨g15z, g16z, a15z, a16z, b15z⟩⟩ := id hMz
        refine g_callV (pc := 28) [.int (nI i)] dX12_often_28 cv_X12_295.1 cv_X12_295.2.1 cv_X12_295.2.2.1 cv_X12_295.2.2.2 cYz rfl rfl (Nat.le_of_ble_eq_true rfl) (by decide) (by decide) (mq_takeH _ hMz hi) ?_
        rintro _ w2 ⟨rfl, hA2, hM2, hF2⟩
        have hF2 := hdm hF2
        obtain ⟨thA, ddA, ldA, beA, ibA, reA, igA, hA, cYA, c7A, hhA⟩ := id hA2
        refine g_aload_n (pc := 31) 0 dX12_often_31 rfl rfl ?_
        refine g_iload_n (pc := 32) 2 dX12_often_32 rfl rfl ?_
        refine g_callV (pc := 33) [.int (nI 0)] dX12_often_33 cv_X12_157.1 cv_X12_157.2.1 cv_X12_157.2.2.1 cv_X12_157.2.2.2 cYA rfl rfl (Nat.le_of_ble_eq_true rfl) (by decide) (by decide) (mq_takeC _ hM2 (n := 0) (by decide) cyIs_0 hA2) ?_
        rintro _ w3 ⟨rfl, hD3, hM3, hF3⟩
        have hF3 := hdm hF3
        refine g_iconst (pc := 36) (v := nI 0) dX12_often_36 (by decide) ?_
        refine g_istore_n (pc := 37) [(3, .int (nI 0)), (0, .ref Y), (1, .int (nI i)), (2, .int (nI 0))] dX12_often_37 rfl (by decide) rfl ?_
        refine GP.post ?_ (GP.lsub _ (by simp) (oft_loop (n := 0) (i := i) (by decide) cyIs_0 (sh.1 i).1 (sh.1 i).1 0 (sh.1 i).2 w3 (Nat.le_refl _) hM3 hD3 ⟨by omega, hok.2.2.1, fun t ht => by have := hok.2.1 t ht; omega⟩ (hFz.tr (hF2.tr hF3)) ⟨rfl, rfl⟩))
        rintro r wf ⟨c, G, T', h1, h2, h3, h4⟩
        exact Or.inr ⟨i, 0, c, G, T', rfl, hi, rfl, (by decide), cyIs_0, h2, h3, h1, h4⟩
      · refine g_aload_n (pc := 16) 0 dX12_often_16 rfl rfl ?_
        refine g_iload_n (pc := 17) 2 dX12_often_17 rfl rfl ?_
        refine g_callV (pc := 18) [.int y] dX12_often_18 cv_X12_168.1 cv_X12_168.2.1 cv_X12_168.2.2.1 cv_X12_168.2.2.2 (lk_eq hY) rfl rfl (Nat.le_of_ble_eq_true rfl) (by decide) (by decide) (mp_isCircle _ (lk_eq hY) (lk_ne (show Y ≠ (Y + 11) by omega) a11) b11) ?_
        rintro _ w9 (⟨rfl, hcy, e9⟩ | ⟨rfl, hcy, e9⟩)
        · refine GP.weq _ e9 ?_
          obtain ⟨n, rfl, hn, hn1, hc⟩ := hcy
          refine n_if_ne (pc := 21) 26 dX12_often_21 (by decide) (by omega) (fun hd9 => ?_) (fun hd9 => ?_)
          · have hok := row_ok b2 hi
            have hi12 := hok.1
            refine g_aload_n (pc := 26) 0 dX12_often_26 rfl rfl ?_
            refine g_iload_n (pc := 27) 1 dX12_often_27 rfl rfl ?_
            obtain ⟨w1, ew1⟩ : ∃ wy : Wd, wy = (w.set Y (.inr (11, .int (nI 0) :: .int st :: .ref (Y + 1) :: .ref (Y + 2) :: .ref (Y + 3) :: .ref (Y + 4) :: .int (nI pn) :: .ref (Y + 5) :: .ref (Y + 6) :: .ref (Y + 7) :: .int dg :: .ref (Y + 8) :: .int dd :: .ref (Y + 9) :: .ref (Y + 10) :: .ref (Y + 11) :: .ref (Y + 12) :: .int ld :: .int be :: .int ib :: .ref (Y + 13) :: .ref (Y + 14) :: .ref (Y + 15) :: .ref (Y + 16) :: .ref (Y + 17) :: .int (nI tl) :: .int fa :: .int re :: .int ig :: .ref (Y + 18) :: .ref (Y + 19) :: .ref (Y + 20) :: .ref (Y + 21) :: []))) := ⟨_, rfl⟩
            refine GP.weq w1 ew1.symm ?_
            have hMz : mdC w1 Y tl tb fa st rf sh pn pk ps im := by rw [ew1]; exact ⟨⟨_, _, _, _, _, _, _, _, (lk_eq hY)⟩, ⟨⟨_, (lk_ne (show Y ≠ (Y + 1) by omega) a1), b1⟩, ⟨_, (lk_ne (show Y ≠ (Y + 2) by omega) a2), b2⟩, ⟨_, _, (lk_ne (show Y ≠ (Y + 3) by omega) a3), (lk_ne (show Y ≠ (Y + 4) by omega) a4), b3, b4⟩, ⟨_, _, (lk_ne (show Y ≠ (Y + 5) by omega) a5), (lk_ne (show Y ≠ (Y + 6) by omega) a6), b5⟩, ⟨_, (lk_ne (show Y ≠ (Y + 11) by omega) a11), b11⟩, ⟨_, (lk_ne (show Y ≠ (Y + 17) by omega) a17), b17⟩⟩, ⟨_, _, _, _, _, _, _, _, _, _, _, (lk_ne (show Y ≠ (Y + 7) by omega) a7), (lk_ne (show Y ≠ (Y + 8) by omega) a8), (lk_ne (show Y ≠ (Y + 9) by omega) a9), (lk_ne (show Y ≠ (Y + 10) by omega) a10), (lk_ne (show Y ≠ (Y + 12) by omega) a12), (lk_ne (show Y ≠ (Y + 13) by omega) a13), (lk_ne (show Y ≠ (Y + 14) by omega) a14), (lk_ne (show Y ≠ (Y + 18) by omega) a18), (lk_ne (show Y ≠ (Y + 19) by omega) a19), (lk_ne (show Y ≠ (Y + 20) by omega) a20), (lk_ne (show Y ≠ (Y + 21) by omega) a21)⟩, ⟨_, _, (lk_ne (show Y ≠ (Y + 15) by omega) a15), (lk_ne (show Y ≠ (Y + 16) by omega) a16), b15⟩⟩
            have hFz : FR (modS Y) w w1 := by rw [ew1]; exact (FR.st (c' := .inr (11, .int (nI 0) :: .int st :: .ref (Y + 1) :: .ref (Y + 2) :: .ref (Y + 3) :: .ref (Y + 4) :: .int (nI pn) :: .ref (Y + 5) :: .ref (Y + 6) :: .ref (Y + 7) :: .int dg :: .ref (Y + 8) :: .int dd :: .ref (Y + 9) :: .ref (Y + 10) :: .ref (Y + 11) :: .ref (Y + 12) :: .int ld :: .int be :: .int ib :: .ref (Y + 13) :: .ref (Y + 14) :: .ref (Y + 15) :: .ref (Y + 16) :: .ref (Y + 17) :: .int (nI tl) :: .int fa :: .int re :: .int ig :: .ref (Y + 18) :: .ref (Y + 19) :: .ref (Y + 20) :: .ref (Y + 21) :: [])) FR.rf hY rfl (by unfold modS; omega))
            have cYz : w1[Y]? = some (.inr (11, .int (nI 0) :: .int st :: .ref (Y + 1) :: .ref (Y + 2) :: .ref (Y + 3) :: .ref (Y + 4) :: .int (nI pn) :: .ref (Y + 5) :: .ref (Y + 6) :: .ref (Y + 7) :: .int dg :: .ref (Y + 8) :: .int dd :: .ref (Y + 9) :: .ref (Y + 10) :: .ref (Y + 11) :: .ref (Y + 12) :: .int ld :: .int be :: .int ib :: .ref (Y + 13) :: .ref (Y + 14) :: .ref (Y + 15) :: .ref (Y + 16) :: .ref (Y + 17) :: .int (nI tl) :: .int fa :: .int re :: .int ig :: .ref (Y + 18) :: .ref (Y + 19) :: .ref (Y + 20) :: .ref (Y + 21) :: [])) := by rw [ew1]; exact (lk_eq hY)
            obtain ⟨⟨thz, dgz, ddz, ldz, bez, ibz, rez, igz, hYz⟩, ⟨⟨g1z, a1z, b1z⟩, ⟨g2z, a2z, b2z⟩, ⟨g3z, g4z, a3z, a4z, b3z, b4z⟩, ⟨g5z, g6z, a5z, a6z, b5z⟩, ⟨g11z, a11z, b11z⟩, ⟨g17z, a17z, b17z⟩⟩, ⟨g7z, g8z, g9z, g10z, g12z, g13z, g14z, g18z, g19z, g20z, g21z, a7z, a8z, a9z, a10z, a12z, a13z, a14z, a18z, a19z, a20z, a21z⟩, ⟨g15z, g16z, a15z, a16z, b15z⟩⟩ := id hMz
            refine g_callV (pc := 28) [.int (nI i)] dX12_often_28 cv_X12_295.1 cv_X12_295.2.1 cv_X12_295.2.2.1 cv_X12_295.2.2.2 cYz rfl rfl (Nat.le_of_ble_eq_true rfl) (by decide) (by decide) (mq_takeH _ hMz hi) ?_
            rintro _ w2 ⟨rfl, hA2, hM2, hF2⟩
            have hF2 := hdm hF2
            obtain ⟨thA, ddA, ldA, beA, ibA, reA, igA, hA, cYA, c7A, hhA⟩ := id hA2
            refine g_aload_n (pc := 31) 0 dX12_often_31 rfl rfl ?_
            refine g_iload_n (pc := 32) 2 dX12_often_32 rfl rfl ?_
            refine g_callV (pc := 33) [.int (nI n)] dX12_often_33 cv_X12_157.1 cv_X12_157.2.1 cv_X12_157.2.2.1 cv_X12_157.2.2.2 cYA rfl rfl (Nat.le_of_ble_eq_true rfl) (by decide) (by decide) (mq_takeC _ hM2 (n := n) hn hc hA2) ?_
            rintro _ w3 ⟨rfl, hD3, hM3, hF3⟩
            have hF3 := hdm hF3
            refine g_iconst (pc := 36) (v := nI 0) dX12_often_36 (by decide) ?_
            refine g_istore_n (pc := 37) [(3, .int (nI 0)), (0, .ref Y), (1, .int (nI i)), (2, .int (nI n))] dX12_often_37 rfl (by decide) rfl ?_
            refine GP.post ?_ (GP.lsub _ (by simp) (oft_loop (n := n) (i := i) hn hc (sh.1 i).1 (sh.1 i).1 0 (sh.1 i).2 w3 (Nat.le_refl _) hM3 hD3 ⟨by omega, hok.2.2.1, fun t ht => by have := hok.2.1 t ht; omega⟩ (hFz.tr (hF2.tr hF3)) ⟨rfl, rfl⟩))
            rintro r wf ⟨c, G, T', h1, h2, h3, h4⟩
            exact Or.inr ⟨i, n, c, G, T', rfl, hi, rfl, hn, hc, h2, h3, h1, h4⟩
          · exact absurd hd9 (by decide)
        · refine GP.weq _ e9 ?_
          refine n_if_ne (pc := 21) 26 dX12_often_21 (by decide) (by omega) (fun hd9 => ?_) (fun hd9 => ?_)
          · exact absurd rfl hd9
          · refine g_iconst (pc := 24) (v := -1) dX12_often_24 (by decide) ?_
            exact g_iret (pc := 25) dX12_often_25 (Or.inl ⟨fun g => by obtain ⟨-, n, e1, e2, e3⟩ := g; exact hcy ⟨n, e1, e2, by rcases Nat.eq_zero_or_pos n with e | e; · { exact absurd (by rw [e1, e]; rfl) h0 }; · { exact e }, e3⟩, rfl, ⟨⟨_, _, _, _, _, _, _, _, (lk_eq hY)⟩, ⟨⟨_, (lk_ne (show Y ≠ (Y + 1) by omega) a1), b1⟩, ⟨_, (lk_ne (show Y ≠ (Y + 2) by omega) a2), b2⟩, ⟨_, _, (lk_ne (show Y ≠ (Y + 3) by omega) a3), (lk_ne (show Y ≠ (Y + 4) by omega) a4), b3, b4⟩, ⟨_, _, (lk_ne (show Y ≠ (Y + 5) by omega) a5), (lk_ne (show Y ≠ (Y + 6) by omega) a6), b5⟩, ⟨_, (lk_ne (show Y ≠ (Y + 11) by omega) a11), b11⟩, ⟨_, (lk_ne (show Y ≠ (Y + 17) by omega) a17), b17⟩⟩, ⟨_, _, _, _, _, _, _, _, _, _, _, (lk_ne (show Y ≠ (Y + 7) by omega) a7), (lk_ne (show Y ≠ (Y + 8) by omega) a8), (lk_ne (show Y ≠ (Y + 9) by omega) a9), (lk_ne (show Y ≠ (Y + 10) by omega) a10), (lk_ne (show Y ≠ (Y + 12) by omega) a12), (lk_ne (show Y ≠ (Y + 13) by omega) a13), (lk_ne (show Y ≠ (Y + 14) by omega) a14), (lk_ne (show Y ≠ (Y + 18) by omega) a18), (lk_ne (show Y ≠ (Y + 19) by omega) a19), (lk_ne (show Y ≠ (Y + 20) by omega) a20), (lk_ne (show Y ≠ (Y + 21) by omega) a21)⟩, ⟨_, _, (lk_ne (show Y ≠ (Y + 15) by omega) a15), (lk_ne (show Y ≠ (Y + 16) by omega) a16), b15⟩⟩, (FR.st (c' := .inr (11, .int (nI 0) :: .int st :: .ref (Y + 1) :: .ref (Y + 2) :: .ref (Y + 3) :: .ref (Y + 4) :: .int (nI pn) :: .ref (Y + 5) :: .ref (Y + 6) :: .ref (Y + 7) :: .int dg :: .ref (Y + 8) :: .int dd :: .ref (Y + 9) :: .ref (Y + 10) :: .ref (Y + 11) :: .ref (Y + 12) :: .int ld :: .int be :: .int ib :: .ref (Y + 13) :: .ref (Y + 14) :: .ref (Y + 15) :: .ref (Y + 16) :: .ref (Y + 17) :: .int (nI tl) :: .int fa :: .int re :: .int ig :: .ref (Y + 18) :: .ref (Y + 19) :: .ref (Y + 20) :: .ref (Y + 21) :: [])) FR.rf hY rfl (by unfold modS; omega))⟩)
  · refine GP.weq _ e9 ?_
    refine n_if_eq (pc := 9) 24 dX12_often_9 (by decide) (by omega) (fun hd9 => ?_) (fun hd9 => ?_)
    · refine g_iconst (pc := 24) (v := -1) dX12_often_24 (by decide) ?_
      exact g_iret (pc := 25) dX12_often_25 (Or.inl ⟨fun g => hpi g.1, rfl, ⟨⟨_, _, _, _, _, _, _, _, (lk_eq hY)⟩, ⟨⟨_, (lk_ne (show Y ≠ (Y + 1) by omega) a1), b1⟩, ⟨_, (lk_ne (show Y ≠ (Y + 2) by omega) a2), b2⟩, ⟨_, _, (lk_ne (show Y ≠ (Y + 3) by omega) a3), (lk_ne (show Y ≠ (Y + 4) by omega) a4), b3, b4⟩, ⟨_, _, (lk_ne (show Y ≠ (Y + 5) by omega) a5), (lk_ne (show Y ≠ (Y + 6) by omega) a6), b5⟩, ⟨_, (lk_ne (show Y ≠ (Y + 11) by omega) a11), b11⟩, ⟨_, (lk_ne (show Y ≠ (Y + 17) by omega) a17), b17⟩⟩, ⟨_, _, _, _, _, _, _, _, _, _, _, (lk_ne (show Y ≠ (Y + 7) by omega) a7), (lk_ne (show Y ≠ (Y + 8) by omega) a8), (lk_ne (show Y ≠ (Y + 9) by omega) a9), (lk_ne (show Y ≠ (Y + 10) by omega) a10), (lk_ne (show Y ≠ (Y + 12) by omega) a12), (lk_ne (show Y ≠ (Y + 13) by omega) a13), (lk_ne (show Y ≠ (Y + 14) by omega) a14), (lk_ne (show Y ≠ (Y + 18) by omega) a18), (lk_ne (show Y ≠ (Y + 19) by omega) a19), (lk_ne (show Y ≠ (Y + 20) by omega) a20), (lk_ne (show Y ≠ (Y + 21) by omega) a21)⟩, ⟨_, _, (lk_ne (show Y ≠ (Y + 15) by omega) a15), (lk_ne (show Y ≠ (Y + 16) by omega) a16), b15⟩⟩, (FR.st (c' := .inr (11, .int (nI 0) :: .int st :: .ref (Y + 1) :: .ref (Y + 2) :: .ref (Y + 3) :: .ref (Y + 4) :: .int (nI pn) :: .ref (Y + 5) :: .ref (Y + 6) :: .ref (Y + 7) :: .int dg :: .ref (Y + 8) :: .int dd :: .ref (Y + 9) :: .ref (Y + 10) :: .ref (Y + 11) :: .ref (Y + 12) :: .int ld :: .int be :: .int ib :: .ref (Y + 13) :: .ref (Y + 14) :: .ref (Y + 15) :: .ref (Y + 16) :: .ref (Y + 17) :: .int (nI tl) :: .int fa :: .int re :: .int ig :: .ref (Y + 18) :: .ref (Y + 19) :: .ref (Y + 20) :: .ref (Y + 21) :: [])) FR.rf hY rfl (by unfold modS; omega))⟩)
    · exact absurd rfl hd9
