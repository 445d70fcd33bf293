/-! the reference: takeQuotient, takeDivisor, takeCircle, by, often -/
def hdS (Y i : Nat) : Prop := i = Y ∨ (Y + 7 ≤ i ∧ i ≤ Y + 10)
theorem mdC.hd {w w' : Wd} {Y tl : Nat} {tb : Nat → Int32} {fa st : Int32} {rf : Nat → Nat} {sh : SV} {pn : Nat} {pk : Nat → Nat} {ps : Nat → SV} {im : Nat → Option SV} (hM : mdC w Y tl tb fa st rf sh pn pk ps im) (hR : FR (hdS Y) w w') {th dg dd ld be ib re ig : Int32} (hY : w'[Y]? = some (oM Y th st (nI pn) dg dd ld be ib (nI tl) fa re ig)) {h d q r : Nat → Int64} (h7 : w'[Y + 7]? = some (aL 60 h)) (h8 : w'[Y + 8]? = some (aL 14 d)) (h9 : w'[Y + 9]? = some (aL 60 q)) (h10 : w'[Y + 10]? = some (aL 60 r)) : mdC w' Y tl tb fa st rf sh pn pk ps im ∧ FR (hdS Y) w w' := by
  have L : ∀ i c, i ≠ 0 → ¬ (7 ≤ i ∧ i ≤ 10) → w[Y + i]? = some c → w'[Y + i]? = some c := fun i c h0 h hc => hR.lk (by unfold hdS; omega) hc
  refine ⟨?_, hR⟩
  obtain ⟨-, ⟨⟨g1, a1, b1⟩, ⟨g2, a2, b2⟩, ⟨g3, g4, a3, a4, b3, b4⟩, ⟨g5, g6, a5, a6, b5⟩, ⟨g11, a11, b11⟩, ⟨g17, a17, b17⟩⟩, ⟨g7, g8, g9, g10, g12, g13, g14, g18, g19, g20, g21, a7, a8, a9, a10, a12, a13, a14, a18, a19, a20, a21⟩, ⟨g15, g16, a15, a16, b15⟩⟩ := hM
  exact ⟨⟨_, _, _, _, _, _, _, _, hY⟩, ⟨⟨g1, L 1 _ (by omega) (by omega) a1, b1⟩, ⟨g2, L 2 _ (by omega) (by omega) a2, b2⟩, ⟨g3, g4, L 3 _ (by omega) (by omega) a3, L 4 _ (by omega) (by omega) a4, b3, b4⟩, ⟨g5, g6, L 5 _ (by omega) (by omega) a5, L 6 _ (by omega) (by omega) a6, b5⟩, ⟨g11, L 11 _ (by omega) (by omega) a11, b11⟩, ⟨g17, L 17 _ (by omega) (by omega) a17, b17⟩⟩, ⟨_, _, _, _, g12, g13, g14, g18, g19, g20, g21, h7, h8, h9, h10, L 12 _ (by omega) (by omega) a12, L 13 _ (by omega) (by omega) a13, L 14 _ (by omega) (by omega) a14, L 18 _ (by omega) (by omega) a18, L 19 _ (by omega) (by omega) a19, L 20 _ (by omega) (by omega) a20, L 21 _ (by omega) (by omega) a21⟩, ⟨g15, g16, L 15 _ (by omega) (by omega) a15, L 16 _ (by omega) (by omega) a16, b15⟩⟩
theorem hdm {w w' : Wd} {Y : Nat} (h : FR (hdS Y) w w') : FR (modS Y) w w' := h.mono (fun i h => by unfold hdS at h; unfold modS; omega)
theorem md_hd {w : Wd} {Y tl : Nat} {tb : Nat → Int32} {fa st : Int32} {rf : Nat → Nat} {sh : SV} {pn : Nat} {pk : Nat → Nat} {ps : Nat → SV} {im : Nat → Option SV} (hM : mdC w Y tl tb fa st rf sh pn pk ps im) : (∃ f, w[Y + 8]? = some (aL 14 f)) ∧ (∃ f, w[Y + 9]? = some (aL 60 f)) ∧ (∃ f, w[Y + 10]? = some (aL 60 f)) ∧ ∃ f, w[Y + 11]? = some (aI 0 602 f) ∧ ciR f := by
  obtain ⟨-, ⟨-, -, -, -, h11, -⟩, ⟨g7, g8, g9, g10, g12, g13, g14, g18, g19, g20, g21, a7, a8, a9, a10, -⟩, -⟩ := hM
  exact ⟨⟨_, a8⟩, ⟨_, a9⟩, ⟨_, a10⟩, h11⟩
def haF (h : Nat → Int64) (G : Nat → Int) (T : Nat) : Prop := ∀ i, i < 60 → (h i).toInt = if i ≤ T then G i else 0
/-- what is at hand: G of degree T -/
def haO (w : Wd) (Y tl : Nat) (fa st : Int32) (pn : Nat) (G : Nat → Int) (T : Nat) : Prop := ∃ th dd ld be ib re ig h, w[Y]? = some (oM Y th st (nI pn) (nI T) dd ld be ib (nI tl) fa re ig) ∧ w[Y + 7]? = some (aL 60 h) ∧ haF h G T
/-- and the divisor: F of degree n -/
def hdO (w : Wd) (Y tl : Nat) (fa st : Int32) (pn : Nat) (G : Nat → Int) (T : Nat) (F : Nat → Int) (n : Nat) : Prop := ∃ th ld be ib re ig h d, w[Y]? = some (oM Y th st (nI pn) (nI T) (nI n) ld be ib (nI tl) fa re ig) ∧ w[Y + 7]? = some (aL 60 h) ∧ haF h G T ∧ w[Y + 8]? = some (aL 14 d) ∧ ∀ t, t ≤ n → (d t).toInt = F t
/-- it can be divided -/
def hgO (G : Nat → Int) (T : Nat) : Prop := T < 60 ∧ G T ≠ 0 ∧ ∀ i, i ≤ T → -1000000000000 ≤ G i ∧ G i ≤ 1000000000000
def fdO (F : Nat → Int) (n : Nat) : Prop := n ≤ 12 ∧ F n ≠ 0 ∧ ∀ t, t ≤ n → -9999 ≤ F t ∧ F t ≤ 9999
theorem om_top {q F g : Nat → Int} {n T : Nat} (h : divOm q F g n T) : g (T + n) = q T * F n := by
  have := headm (c := T) (Nat.le_refl _) h
  rw [Nat.sub_self] at this
  have e : mulT q F n T 0 (T + n) = 0 := rfl
  rw [e] at this
  omega
theorem top_uq {G : Nat → Int} {K c T : Nat} (h : topI G K c) (hT : T < K) (h1 : G T ≠ 0) (h2 : ∀ j, T < j → j < K → G j = 0) : c = T + 1 := by
  obtain ⟨a, b, d⟩ := h
  rcases Nat.lt_trichotomy c (T + 1) with g | g | g
  · exact absurd (b T (by omega) hT) h1
  · exact g
  · rcases d with d | d
    · omega
    · exact absurd (h2 (c - 1) (by omega) (by omega)) d
theorem om_hg {q F G : Nat → Int} {n T : Nat} (hG : hgO G T) (hn : n ≤ T) (h : divOm q F G n (T - n)) : hgO q (T - n) := by
  refine ⟨by have := hG.1; omega, fun g => hG.2.1 ?_, h.1⟩
  have := om_top h
  rw [show T - n + n = T by omega, g] at this
  omega
abbrev BX12_takeQuotient (w0 : Wd) (Post : Option Value → Wd → Prop) (w : Wd) (pc : Nat) (ls : List (Nat × Value)) (st : List Value) : Prop := GP "takeQuotient" RX12 cX12_takeQuotient 2 none 1 39 none w0 Post w pc ls st
abbrev EX12_takeQuotient (As : List Value) (w : Wd) (Post : Option Value → Wd → Prop) : Prop := EP yX12_takeQuotient cX12_takeQuotient 2 none 1 As w Post
theorem tq_loop {w0 w : Wd} {Y : Nat} {th st nu dg dd ld be ib ta fa re ig : Int32} {h7 q9 : Nat → Int64} (hY : w[Y]? = some (oM Y th st nu dg dd ld be ib ta fa re ig)) (a7 : w[Y + 7]? = some (aL 60 h7)) (a9 : w[Y + 9]? = some (aL 60 q9)) : ∀ (z k : Nat), 60 = k + z → BX12_takeQuotient w0 (fun r w' => r = none ∧ ∃ c, topI (toI (mvF h7 q9 60)) 60 c ∧ w' = (w.set (Y + 7) (aL 60 (mvF h7 q9 60))).set Y (oM Y th st nu (dgN c) dd ld be ib ta fa re ig)) (w.set (Y + 7) (aL 60 (mvF h7 q9 k))) 2 [(1, .int (nI k)), (0, .ref Y)] [] := by
  intro z
  induction z with
  | zero =>
    intro k hz
    refine g_iload_n (pc := 2) 0 dX12_takeQuotient_2 rfl rfl ?_
    refine g_bipush (pc := 3) (v := nI 60) dX12_takeQuotient_3 (by decide) ?_
    refine n_icmp_ge (pc := 5) 26 dX12_takeQuotient_5 (by decide) (by omega) (by omega) (fun hb9 => ?_) (fun hb9 => ?_)
    · have e9 : k = 60 := by omega
      subst e9
      refine g_aload_n (pc := 26) 1 dX12_takeQuotient_26 rfl rfl ?_
      refine g_callV (pc := 27) [] dX12_takeQuotient_27 cv_X12_132.1 cv_X12_132.2.1 cv_X12_132.2.2.1 cv_X12_132.2.2.2 (lk_ne (show (Y + 7) ≠ Y by omega) hY) rfl rfl (Nat.le_of_ble_eq_true rfl) (by decide) (by decide) (mp_find _ (lk_ne (show (Y + 7) ≠ Y by omega) hY) (lk_eq a7)) ?_
      rintro _ w9 ⟨rfl, c, hc, e9⟩
      refine GP.weq _ e9 ?_
      exact g_vret (pc := 30) dX12_takeQuotient_30 ⟨rfl, c, hc, rfl⟩
    · exact absurd hb9 (by omega)
  | succ z ih =>
    intro k hz
    refine g_iload_n (pc := 2) 0 dX12_takeQuotient_2 rfl rfl ?_
    refine g_bipush (pc := 3) (v := nI 60) dX12_takeQuotient_3 (by decide) ?_
    refine n_icmp_ge (pc := 5) 26 dX12_takeQuotient_5 (by decide) (by omega) (by omega) (fun hb9 => ?_) (fun hb9 => ?_)
    · exact absurd hb9 (by omega)
    · refine g_aload_n (pc := 8) 1 dX12_takeQuotient_8 rfl rfl ?_
      refine g_get (pc := 9) dX12_takeQuotient_9 fk_X12_29 (lk_ne (show (Y + 7) ≠ Y by omega) hY) rfl ?_
      refine g_iload_n (pc := 12) 0 dX12_takeQuotient_12 rfl rfl ?_
      refine g_aload_n (pc := 13) 1 dX12_takeQuotient_13 rfl rfl ?_
      refine g_get (pc := 14) dX12_takeQuotient_14 fk_X12_36 (lk_ne (show (Y + 7) ≠ Y by omega) hY) rfl ?_
      refine g_iload_n (pc := 17) 0 dX12_takeQuotient_17 rfl rfl ?_
      refine g_lald (pc := 18) k dX12_takeQuotient_18 (lk_ne (show (Y + 7) ≠ (Y + 9) by omega) a9) (IXn (by omega) (by omega)) ?_
      refine g_last (pc := 19) k dX12_takeQuotient_19 (lk_eq a7) (IXn (by omega) (by omega)) ?_
      refine GP.weq (w.set (Y + 7) (aL 60 (vp_updL (mvF h7 q9 k) k (q9 k)))) (by rw [List.set_set]) ?_
      refine n_iinc (pc := 20) (c := 1) [(1, .int (nI (k + 1))), (0, .ref Y)] 0 dX12_takeQuotient_20 rfl (by decide) (by decide) rfl ?_
      refine g_goto (pc := 23) 2 dX12_takeQuotient_23 (by decide) ?_
      rw [mvF_s]
      exact GP.lsub _ (by simp) (ih (k + 1) (by omega))
theorem mp_takeQuotient (w : Wd) {Y : Nat} {th st nu dg dd ld be ib ta fa re ig : Int32} {h7 q9 : Nat → Int64} (hY : w[Y]? = some (oM Y th st nu dg dd ld be ib ta fa re ig)) (a7 : w[Y + 7]? = some (aL 60 h7)) (a9 : w[Y + 9]? = some (aL 60 q9)) : EX12_takeQuotient [.ref Y] w (fun r w' => r = none ∧ ∃ c, topI (toI (mvF h7 q9 60)) 60 c ∧ w' = (w.set (Y + 7) (aL 60 (mvF h7 q9 60))).set Y (oM Y th st nu (dgN c) dd ld be ib ta fa re ig)) := by
  refine EP.of (plainFor_of_name (by decide)) [(0, .ref Y)] rfl (Nat.le_of_ble_eq_true rfl) (fun r wf h => by obtain ⟨rfl, -⟩ := h; trivial) ?_
  show BX12_takeQuotient w _ w 0 [(0, .ref Y)] []
  refine g_iconst (pc := 0) (v := nI 0) dX12_takeQuotient_0 (by decide) ?_
  refine g_istore_n (pc := 1) [(1, .int (nI 0)), (0, .ref Y)] dX12_takeQuotient_1 rfl (by decide) rfl ?_
  refine GP.weq (w.set (Y + 7) (aL 60 (mvF h7 q9 0))) (by rw [mvF_0, set_same a7]) ?_
  exact GP.lsub _ (by simp) (tq_loop hY a7 a9 60 0 (by omega))
abbrev BX12_takeDivisor (w0 : Wd) (Post : Option Value → Wd → Prop) (w : Wd) (pc : Nat) (ls : List (Nat × Value)) (st : List Value) : Prop := GP "takeDivisor" RX12 cX12_takeDivisor 3 none 1 39 none w0 Post w pc ls st
abbrev EX12_takeDivisor (As : List Value) (w : Wd) (Post : Option Value → Wd → Prop) : Prop := EP yX12_takeDivisor cX12_takeDivisor 3 none 1 As w Post
theorem td_loop {w0 w : Wd} {Y i : Nat} {th st nu dg dd ld be ib ta fa re ig : Int32} {d8 : Nat → Int64} {g2 : Nat → Int32} {V : SV} (hY : w[Y]? = some (oM Y th st nu dg dd ld be ib ta fa re ig)) (a2 : w[Y + 2]? = some (aI 0 626 g2)) (a8 : w[Y + 8]? = some (aL 14 d8)) (hV : rowR g2 V) (hi : i < 8) : ∀ (z k : Nat) (d : Nat → Int64), 13 = k + z → (∀ j, j < k → (d j).toInt = (V.1 i).2 j) → BX12_takeDivisor w0 (fun r w' => r = none ∧ ∃ d : Nat → Int64, (∀ k, k < 13 → (d k).toInt = (V.1 i).2 k) ∧ w' = (w.set Y (oM Y th st nu dg (nI (V.1 i).1) ld be ib ta fa re ig)).set (Y + 8) (aL 14 d)) ((w.set Y (.inr (11, .int th :: .int st :: .ref (Y + 1) :: .ref (Y + 2) :: .ref (Y + 3) :: .ref (Y + 4) :: .int nu :: .ref (Y + 5) :: .ref (Y + 6) :: .ref (Y + 7) :: .int dg :: .ref (Y + 8) :: .int (nI ((V.1 i).1)) :: .ref (Y + 9) :: .ref (Y + 10) :: .ref (Y + 11) :: .ref (Y + 12) :: .int ld :: .int be :: .int ib :: .ref (Y + 13) :: .ref (Y + 14) :: .ref (Y + 15) :: .ref (Y + 16) :: .ref (Y + 17) :: .int ta :: .int fa :: .int re :: .int ig :: .ref (Y + 18) :: .ref (Y + 19) :: .ref (Y + 20) :: .ref (Y + 21) :: []))).set (Y + 8) (aL 14 d)) 11 [(2, .int (nI k)), (1, .int (nI i)), (0, .ref Y)] [] := by
  have hd12 := ok_12 hV hi
  intro z
  induction z with
  | zero =>
    intro k d hz hj
    refine g_iload_n (pc := 11) 0 dX12_takeDivisor_11 rfl rfl ?_
    refine g_bipush (pc := 12) (v := nI 12) dX12_takeDivisor_12 (by decide) ?_
    refine n_icmp_gt (pc := 14) 48 dX12_takeDivisor_14 (by decide) (by omega) (by omega) (fun hb9 => ?_) (fun hb9 => ?_)
    · exact g_vret (pc := 48) dX12_takeDivisor_48 ⟨rfl, d, fun j h => hj j (by omega), rfl⟩
    · exact absurd (show 12 < k by omega) hb9
  | succ z ih =>
    intro k d hz hj
    refine g_iload_n (pc := 11) 0 dX12_takeDivisor_11 rfl rfl ?_
    refine g_bipush (pc := 12) (v := nI 12) dX12_takeDivisor_12 (by decide) ?_
    refine n_icmp_gt (pc := 14) 48 dX12_takeDivisor_14 (by decide) (by omega) (by omega) (fun hb9 => ?_) (fun hb9 => ?_)
    · exact absurd hb9 (by omega)
    · refine g_aload_n (pc := 17) 2 dX12_takeDivisor_17 rfl rfl ?_
      refine g_get (pc := 18) dX12_takeDivisor_18 fk_X12_33 (lk_ne (show (Y + 8) ≠ Y by omega) (lk_eq hY)) rfl ?_
      refine g_iload_n (pc := 21) 0 dX12_takeDivisor_21 rfl rfl ?_
      refine g_iload_n (pc := 22) 0 dX12_takeDivisor_22 rfl rfl ?_
      refine g_aload_n (pc := 23) 2 dX12_takeDivisor_23 rfl rfl ?_
      refine g_get (pc := 24) dX12_takeDivisor_24 fk_X12_143 (lk_ne (show (Y + 8) ≠ Y by omega) (lk_eq hY)) rfl ?_
      refine n_icmp_gt (pc := 27) 40 dX12_takeDivisor_27 (by decide) (by omega) (by omega) (fun hc => ?_) (fun hc => ?_)
      · refine g_lconst (pc := 40) (v := 0) dX12_takeDivisor_40 (by decide) ?_
        refine g_last (pc := 41) k dX12_takeDivisor_41 (lk_eq (lk_ne (show Y ≠ (Y + 8) by omega) a8)) (IXn (by omega) (by omega)) ?_
        refine GP.weq ((w.set Y (.inr (11, .int th :: .int st :: .ref (Y + 1) :: .ref (Y + 2) :: .ref (Y + 3) :: .ref (Y + 4) :: .int nu :: .ref (Y + 5) :: .ref (Y + 6) :: .ref (Y + 7) :: .int dg :: .ref (Y + 8) :: .int (nI ((V.1 i).1)) :: .ref (Y + 9) :: .ref (Y + 10) :: .ref (Y + 11) :: .ref (Y + 12) :: .int ld :: .int be :: .int ib :: .ref (Y + 13) :: .ref (Y + 14) :: .ref (Y + 15) :: .ref (Y + 16) :: .ref (Y + 17) :: .int ta :: .int fa :: .int re :: .int ig :: .ref (Y + 18) :: .ref (Y + 19) :: .ref (Y + 20) :: .ref (Y + 21) :: []))).set (Y + 8) (aL 14 (vp_updL d k 0))) (by rw [List.set_set]) ?_
        refine n_iinc (pc := 42) (c := 1) [(2, .int (nI (k + 1))), (1, .int (nI i)), (0, .ref Y)] 0 dX12_takeDivisor_42 rfl (by decide) (by decide) rfl ?_
        refine g_goto (pc := 45) 11 dX12_takeDivisor_45 (by decide) ?_
        refine GP.lsub _ (by simp) (ih (k + 1) _ (by omega) (fun j hj9 => ?_))
        by_cases e : j = k
        · rw [e, upL_s]
          rw [(row_ok hV hi).2.2.2 k hc]; rfl
        · rw [upL_n e]; exact hj j (by omega)
      · refine g_aload_n (pc := 30) 2 dX12_takeDivisor_30 rfl rfl ?_
        refine g_iload_n (pc := 31) 1 dX12_takeDivisor_31 rfl rfl ?_
        refine g_iload_n (pc := 32) 0 dX12_takeDivisor_32 rfl rfl ?_
        refine g_callV (pc := 33) [.int (nI i), .int (nI k)] dX12_takeDivisor_33 cv_X12_122.1 cv_X12_122.2.1 cv_X12_122.2.2.1 cv_X12_122.2.2.2 (lk_ne (show (Y + 8) ≠ Y by omega) (lk_eq hY)) rfl rfl (Nat.le_of_ble_eq_true rfl) (by decide) (by decide) (mp_at _ (lk_ne (show (Y + 8) ≠ Y by omega) (lk_eq hY)) (lk_ne (show (Y + 8) ≠ (Y + 2) by omega) (lk_ne (show Y ≠ (Y + 2) by omega) a2)) hi (show k < 13 by omega)) ?_
        rintro _ w9 ⟨rfl, e9⟩
        refine GP.weq _ e9 ?_
        refine g_i2l (pc := 36) dX12_takeDivisor_36 ?_
        refine g_goto (pc := 37) 41 dX12_takeDivisor_37 (by decide) ?_
        refine g_last (pc := 41) k dX12_takeDivisor_41 (lk_eq (lk_ne (show Y ≠ (Y + 8) by omega) a8)) (IXn (by omega) (by omega)) ?_
        refine GP.weq ((w.set Y (.inr (11, .int th :: .int st :: .ref (Y + 1) :: .ref (Y + 2) :: .ref (Y + 3) :: .ref (Y + 4) :: .int nu :: .ref (Y + 5) :: .ref (Y + 6) :: .ref (Y + 7) :: .int dg :: .ref (Y + 8) :: .int (nI ((V.1 i).1)) :: .ref (Y + 9) :: .ref (Y + 10) :: .ref (Y + 11) :: .ref (Y + 12) :: .int ld :: .int be :: .int ib :: .ref (Y + 13) :: .ref (Y + 14) :: .ref (Y + 15) :: .ref (Y + 16) :: .ref (Y + 17) :: .int ta :: .int fa :: .int re :: .int ig :: .ref (Y + 18) :: .ref (Y + 19) :: .ref (Y + 20) :: .ref (Y + 21) :: []))).set (Y + 8) (aL 14 (vp_updL d k ((g2 (14 * i + 1 + k)).toInt64)))) (by rw [List.set_set]) ?_
        refine n_iinc (pc := 42) (c := 1) [(2, .int (nI (k + 1))), (1, .int (nI i)), (0, .ref Y)] 0 dX12_takeDivisor_42 rfl (by decide) (by decide) rfl ?_
        refine g_goto (pc := 45) 11 dX12_takeDivisor_45 (by decide) ?_
        refine GP.lsub _ (by simp) (ih (k + 1) _ (by omega) (fun j hj9 => ?_))
        by_cases e : j = k
        · rw [e, upL_s]
          rw [IL]; exact (hV.1 i hi).2.2 k (by omega)
        · rw [upL_n e]; exact hj j (by omega)
theorem mp_takeDivisor (w : Wd) {Y i : Nat} {th st nu dg dd ld be ib ta fa re ig : Int32} {d8 : Nat → Int64} {g2 : Nat → Int32} {V : SV} (hY : w[Y]? = some (oM Y th st nu dg dd ld be ib ta fa re ig)) (a2 : w[Y + 2]? = some (aI 0 626 g2)) (a8 : w[Y + 8]? = some (aL 14 d8)) (hV : rowR g2 V) (hi : i < 8) : EX12_takeDivisor [.ref Y, .int (nI i)] w (fun r w' => r = none ∧ ∃ d : Nat → Int64, (∀ k, k < 13 → (d k).toInt = (V.1 i).2 k) ∧ w' = (w.set Y (oM Y th st nu dg (nI (V.1 i).1) ld be ib ta fa re ig)).set (Y + 8) (aL 14 d)) := by
  refine EP.of (plainFor_of_name (by decide)) [(0, .ref Y), (1, .int (nI i))] rfl (Nat.le_of_ble_eq_true rfl) (fun r wf h => by obtain ⟨rfl, -⟩ := h; trivial) ?_
  show BX12_takeDivisor w _ w 0 [(0, .ref Y), (1, .int (nI i))] []
  refine g_aload_n (pc := 0) 0 dX12_takeDivisor_0 rfl rfl ?_
  refine g_aload_n (pc := 1) 0 dX12_takeDivisor_1 rfl rfl ?_
  refine g_iload_n (pc := 2) 1 dX12_takeDivisor_2 rfl rfl ?_
  refine g_callV (pc := 3) [.int (nI i)] dX12_takeDivisor_3 cv_X12_119.1 cv_X12_119.2.1 cv_X12_119.2.2.1 cv_X12_119.2.2.2 hY rfl rfl (Nat.le_of_ble_eq_true rfl) (by decide) (by decide) (mp_degreeOf _ hY a2 hi) ?_
  rintro _ w9 ⟨rfl, e9⟩
  refine GP.weq _ e9 ?_
  refine GP.ti (nI (V.1 i).1) (row_dg hV i hi) ?_
  refine g_put (pc := 6) (.int th :: .int st :: .ref (Y + 1) :: .ref (Y + 2) :: .ref (Y + 3) :: .ref (Y + 4) :: .int nu :: .ref (Y + 5) :: .ref (Y + 6) :: .ref (Y + 7) :: .int dg :: .ref (Y + 8) :: .int (nI ((V.1 i).1)) :: .ref (Y + 9) :: .ref (Y + 10) :: .ref (Y + 11) :: .ref (Y + 12) :: .int ld :: .int be :: .int ib :: .ref (Y + 13) :: .ref (Y + 14) :: .ref (Y + 15) :: .ref (Y + 16) :: .ref (Y + 17) :: .int ta :: .int fa :: .int re :: .int ig :: .ref (Y + 18) :: .ref (Y + 19) :: .ref (Y + 20) :: .ref (Y + 21) :: []) dX12_takeDivisor_6 fk_X12_143 hY (Nat.le_of_ble_eq_true rfl) rfl rfl ?_
  refine g_iconst (pc := 9) (v := nI 0) dX12_takeDivisor_9 (by decide) ?_
  refine g_istore_n (pc := 10) [(2, .int (nI 0)), (0, .ref Y), (1, .int (nI i))] dX12_takeDivisor_10 rfl (by decide) rfl ?_
  refine GP.weq ((w.set Y (.inr (11, .int th :: .int st :: .ref (Y + 1) :: .ref (Y + 2) :: .ref (Y + 3) :: .ref (Y + 4) :: .int nu :: .ref (Y + 5) :: .ref (Y + 6) :: .ref (Y + 7) :: .int dg :: .ref (Y + 8) :: .int (nI ((V.1 i).1)) :: .ref (Y + 9) :: .ref (Y + 10) :: .ref (Y + 11) :: .ref (Y + 12) :: .int ld :: .int be :: .int ib :: .ref (Y + 13) :: .ref (Y + 14) :: .ref (Y + 15) :: .ref (Y + 16) :: .ref (Y + 17) :: .int ta :: .int fa :: .int re :: .int ig :: .ref (Y + 18) :: .ref (Y + 19) :: .ref (Y + 20) :: .ref (Y + 21) :: []))).set (Y + 8) (aL 14 d8)) (by rw [set_same (lk_ne (show Y ≠ (Y + 8) by omega) a8)]) ?_
  exact GP.lsub _ (by simp) (td_loop hY a2 a8 hV hi 13 0 d8 (by omega) (fun j h => absurd h (by omega)))
abbrev BX12_takeCircle (w0 : Wd) (Post : Option Value → Wd → Prop) (w : Wd) (pc : Nat) (ls : List (Nat × Value)) (st : List Value) : Prop := GP "takeCircle" RX12 cX12_takeCircle 3 none 0 0 none w0 Post w pc ls st
abbrev EX12_takeCircle (As : List Value) (w : Wd) (Post : Option Value → Wd → Prop) : Prop := EP yX12_takeCircle cX12_takeCircle 3 none 0 As w Post
theorem cy_x : ∀ k : Fin 13, cyG 0 k.1 = if k.1 = 1 then 1 else 0 := by decide +kernel
theorem tc_loop {w0 w : Wd} {Y n : Nat} {th st nu dg dd ld be ib ta fa re ig : Int32} {d8 : Nat → Int64} {g11 : Nat → Int32} (hY : w[Y]? = some (oM Y th st nu dg dd ld be ib ta fa re ig)) (a8 : w[Y + 8]? = some (aL 14 d8)) (a11 : w[Y + 11]? = some (aI 0 602 g11)) (hn : n < 43) (hc : 1 ≤ n → g11 (14 * n) = nI (cyDg n) ∧ ∀ p, p < 13 → (g11 (14 * n + 1 + p)).toInt = cyG n p) : ∀ (z k : Nat) (d : Nat → Int64), 13 = k + z → (∀ j, j < k → (d j).toInt = cyG n j) → BX12_takeCircle w0 (fun r w' => r = none ∧ ∃ d : Nat → Int64, (∀ k, k < 13 → (d k).toInt = cyG n k) ∧ w' = (w.set Y (oM Y th st nu dg (nI (cyDg n)) ld be ib ta fa re ig)).set (Y + 8) (aL 14 d)) ((w.set Y (.inr (11, .int th :: .int st :: .ref (Y + 1) :: .ref (Y + 2) :: .ref (Y + 3) :: .ref (Y + 4) :: .int nu :: .ref (Y + 5) :: .ref (Y + 6) :: .ref (Y + 7) :: .int dg :: .ref (Y + 8) :: .int (nI (cyDg n)) :: .ref (Y + 9) :: .ref (Y + 10) :: .ref (Y + 11) :: .ref (Y + 12) :: .int ld :: .int be :: .int ib :: .ref (Y + 13) :: .ref (Y + 14) :: .ref (Y + 15) :: .ref (Y + 16) :: .ref (Y + 17) :: .int ta :: .int fa :: .int re :: .int ig :: .ref (Y + 18) :: .ref (Y + 19) :: .ref (Y + 20) :: .ref (Y + 21) :: []))).set (Y + 8) (aL 14 d)) 23 [(2, .int (nI k)), (1, .int (nI n)), (0, .ref Y)] [] := by
  intro z
  induction z with
  | zero =>
    intro k d hz hj
    refine g_iload_n (pc := 23) 0 dX12_takeCircle_23 rfl rfl ?_
    refine g_bipush (pc := 24) (v := nI 12) dX12_takeCircle_24 (by decide) ?_
    refine n_icmp_gt (pc := 26) 72 dX12_takeCircle_26 (by decide) (by omega) (by omega) (fun hb9 => ?_) (fun hb9 => ?_)
    · exact g_vret (pc := 72) dX12_takeCircle_72 ⟨rfl, d, fun j h => hj j (by omega), rfl⟩
    · exact absurd (show 12 < k by omega) hb9
  | succ z ih =>
    intro k d hz hj
    refine g_iload_n (pc := 23) 0 dX12_takeCircle_23 rfl rfl ?_
    refine g_bipush (pc := 24) (v := nI 12) dX12_takeCircle_24 (by decide) ?_
    refine n_icmp_gt (pc := 26) 72 dX12_takeCircle_26 (by decide) (by omega) (by omega) (fun hb9 => ?_) (fun hb9 => ?_)
    · exact absurd hb9 (by omega)
    · refine g_aload_n (pc := 29) 2 dX12_takeCircle_29 rfl rfl ?_
      refine g_get (pc := 30) dX12_takeCircle_30 fk_X12_33 (lk_ne (show (Y + 8) ≠ Y by omega) (lk_eq hY)) rfl ?_
      refine g_iload_n (pc := 33) 0 dX12_takeCircle_33 rfl rfl ?_
      refine g_iload_n (pc := 34) 1 dX12_takeCircle_34 rfl rfl ?_
      refine n_if_ne (pc := 35) 51 dX12_takeCircle_35 (by decide) (by omega) (fun h0 => ?_) (fun h0 => ?_)
      · refine g_aload_n (pc := 51) 2 dX12_takeCircle_51 rfl rfl ?_
        refine g_get (pc := 52) dX12_takeCircle_52 fk_X12_42 (lk_ne (show (Y + 8) ≠ Y by omega) (lk_eq hY)) rfl ?_
        refine g_bipush (pc := 55) (v := nI 14) dX12_takeCircle_55 (by decide) ?_
        refine g_iload_n (pc := 57) 1 dX12_takeCircle_57 rfl rfl ?_
        refine n_imul (pc := 58) dX12_takeCircle_58 ?_
        refine g_iconst (pc := 59) (v := nI 1) dX12_takeCircle_59 (by decide) ?_
        refine n_iadd (pc := 60) dX12_takeCircle_60 ?_
        refine g_iload_n (pc := 61) 0 dX12_takeCircle_61 rfl rfl ?_
        refine n_iadd (pc := 62) dX12_takeCircle_62 ?_
        refine g_iald (pc := 63) (((14 * n) + 1) + k) dX12_takeCircle_63 (lk_ne (show (Y + 8) ≠ (Y + 11) by omega) (lk_ne (show Y ≠ (Y + 11) by omega) a11)) (IXn (by omega) (by omega)) ?_
        refine g_i2l (pc := 64) dX12_takeCircle_64 ?_
        refine g_last (pc := 65) k dX12_takeCircle_65 (lk_eq (lk_ne (show Y ≠ (Y + 8) by omega) a8)) (IXn (by omega) (by omega)) ?_
        refine GP.weq ((w.set Y (.inr (11, .int th :: .int st :: .ref (Y + 1) :: .ref (Y + 2) :: .ref (Y + 3) :: .ref (Y + 4) :: .int nu :: .ref (Y + 5) :: .ref (Y + 6) :: .ref (Y + 7) :: .int dg :: .ref (Y + 8) :: .int (nI (cyDg n)) :: .ref (Y + 9) :: .ref (Y + 10) :: .ref (Y + 11) :: .ref (Y + 12) :: .int ld :: .int be :: .int ib :: .ref (Y + 13) :: .ref (Y + 14) :: .ref (Y + 15) :: .ref (Y + 16) :: .ref (Y + 17) :: .int ta :: .int fa :: .int re :: .int ig :: .ref (Y + 18) :: .ref (Y + 19) :: .ref (Y + 20) :: .ref (Y + 21) :: []))).set (Y + 8) (aL 14 (vp_updL d k ((g11 (((14 * n) + 1) + k)).toInt64)))) (by rw [List.set_set]) ?_
        refine n_iinc (pc := 66) (c := 1) [(2, .int (nI (k + 1))), (1, .int (nI n)), (0, .ref Y)] 0 dX12_takeCircle_66 rfl (by decide) (by decide) rfl ?_
        refine g_goto (pc := 69) 23 dX12_takeCircle_69 (by decide) ?_
        refine GP.lsub _ (by simp) (ih (k + 1) _ (by omega) (fun j hj9 => ?_))
        by_cases e : j = k
        · rw [e, upL_s]
          rw [IL]; exact (hc (by omega)).2 k (by omega)
        · rw [upL_n e]; exact hj j (by omega)
      · have hx := cy_x ⟨k, by omega⟩
        have en : n = 0 := h0
        refine g_iload_n (pc := 38) 0 dX12_takeCircle_38 rfl rfl ?_
        refine g_iconst (pc := 39) (v := nI 1) dX12_takeCircle_39 (by decide) ?_
        refine n_icmp_ne (pc := 40) 47 dX12_takeCircle_40 (by decide) (by omega) (by omega) (fun h1 => ?_) (fun h1 => ?_)
        · refine g_lconst (pc := 47) (v := 0) dX12_takeCircle_47 (by decide) ?_
          refine g_goto (pc := 48) 65 dX12_takeCircle_48 (by decide) ?_
          refine g_last (pc := 65) k dX12_takeCircle_65 (lk_eq (lk_ne (show Y ≠ (Y + 8) by omega) a8)) (IXn (by omega) (by omega)) ?_
          refine GP.weq ((w.set Y (.inr (11, .int th :: .int st :: .ref (Y + 1) :: .ref (Y + 2) :: .ref (Y + 3) :: .ref (Y + 4) :: .int nu :: .ref (Y + 5) :: .ref (Y + 6) :: .ref (Y + 7) :: .int dg :: .ref (Y + 8) :: .int (nI (cyDg n)) :: .ref (Y + 9) :: .ref (Y + 10) :: .ref (Y + 11) :: .ref (Y + 12) :: .int ld :: .int be :: .int ib :: .ref (Y + 13) :: .ref (Y + 14) :: .ref (Y + 15) :: .ref (Y + 16) :: .ref (Y + 17) :: .int ta :: .int fa :: .int re :: .int ig :: .ref (Y + 18) :: .ref (Y + 19) :: .ref (Y + 20) :: .ref (Y + 21) :: []))).set (Y + 8) (aL 14 (vp_updL d k 0))) (by rw [List.set_set]) ?_
          refine n_iinc (pc := 66) (c := 1) [(2, .int (nI (k + 1))), (1, .int (nI n)), (0, .ref Y)] 0 dX12_takeCircle_66 rfl (by decide) (by decide) rfl ?_
          refine g_goto (pc := 69) 23 dX12_takeCircle_69 (by decide) ?_
          refine GP.lsub _ (by simp) (ih (k + 1) _ (by omega) (fun j hj9 => ?_))
          by_cases e : j = k
          · rw [e, upL_s]
            rw [en]
            have h9 : cyG 0 k = if k = 1 then 1 else 0 := hx
            rw [h9, if_neg h1]; rfl
          · rw [upL_n e]; exact hj j (by omega)
        · refine g_lconst (pc := 43) (v := 1) dX12_takeCircle_43 (by decide) ?_
          refine g_goto (pc := 44) 65 dX12_takeCircle_44 (by decide) ?_
          refine g_last (pc := 65) k dX12_takeCircle_65 (lk_eq (lk_ne (show Y ≠ (Y + 8) by omega) a8)) (IXn (by omega) (by omega)) ?_
          refine GP.weq ((w.set Y (.inr (11, .int th :: .int st :: .ref (Y + 1) :: .ref (Y + 2) :: .ref (Y + 3) :: .ref (Y + 4) :: .int nu :: .ref (Y + 5) :: .ref (Y + 6) :: .ref (Y + 7) :: .int dg :: .ref (Y + 8) :: .int (nI (cyDg n)) :: .ref (Y + 9) :: .ref (Y + 10) :: .ref (Y + 11) :: .ref (Y + 12) :: .int ld :: .int be :: .int ib :: .ref (Y + 13) :: .ref (Y + 14) :: .ref (Y + 15) :: .ref (Y + 16) :: .ref (Y + 17) :: .int ta :: .int fa :: .int re :: .int ig :: .ref (Y + 18) :: .ref (Y + 19) :: .ref (Y + 20) :: .ref (Y + 21) :: []))).set (Y + 8) (aL 14 (vp_updL d k 1))) (by rw [List.set_set]) ?_
          refine n_iinc (pc := 66) (c := 1) [(2, .int (nI (k + 1))), (1, .int (nI n)), (0, .ref Y)] 0 dX12_takeCircle_66 rfl (by decide) (by decide) rfl ?_
          refine g_goto (pc := 69) 23 dX12_takeCircle_69 (by decide) ?_
          refine GP.lsub _ (by simp) (ih (k + 1) _ (by omega) (fun j hj9 => ?_))
          by_cases e : j = k
          · rw [e, upL_s]
            rw [en]
            have h9 : cyG 0 k = if k = 1 then 1 else 0 := hx
            rw [h9, if_pos h1]; rfl
          · rw [upL_n e]; exact hj j (by omega)
theorem mp_takeCircle (w : Wd) {Y n : Nat} {th st nu dg dd ld be ib ta fa re ig : Int32} {d8 : Nat → Int64} {g11 : Nat → Int32} (hY : w[Y]? = some (oM Y th st nu dg dd ld be ib ta fa re ig)) (a8 : w[Y + 8]? = some (aL 14 d8)) (a11 : w[Y + 11]? = some (aI 0 602 g11)) (hn : n < 43) (hc : 1 ≤ n → g11 (14 * n) = nI (cyDg n) ∧ ∀ p, p < 13 → (g11 (14 * n + 1 + p)).toInt = cyG n p) : EX12_takeCircle [.ref Y, .int (nI n)] w (fun r w' => r = none ∧ ∃ d : Nat → Int64, (∀ k, k < 13 → (d k).toInt = cyG n k) ∧ w' = (w.set Y (oM Y th st nu dg (nI (cyDg n)) ld be ib ta fa re ig)).set (Y + 8) (aL 14 d)) := by
  refine EP.of (plainFor_of_name (by decide)) [(0, .ref Y), (1, .int (nI n))] rfl (Nat.le_of_ble_eq_true rfl) (fun r wf h => by obtain ⟨rfl, -⟩ := h; trivial) ?_
  show BX12_takeCircle w _ w 0 [(0, .ref Y), (1, .int (nI n))] []
  refine g_aload_n (pc := 0) 0 dX12_takeCircle_0 rfl rfl ?_
  refine g_iload_n (pc := 1) 1 dX12_takeCircle_1 rfl rfl ?_
  refine n_if_ne (pc := 2) 9 dX12_takeCircle_2 (by decide) (by omega) (fun h0 => ?_) (fun h0 => ?_)
  · refine g_aload_n (pc := 9) 0 dX12_takeCircle_9 rfl rfl ?_
    refine g_get (pc := 10) dX12_takeCircle_10 fk_X12_42 hY rfl ?_
    refine g_bipush (pc := 13) (v := nI 14) dX12_takeCircle_13 (by decide) ?_
    refine g_iload_n (pc := 15) 1 dX12_takeCircle_15 rfl rfl ?_
    refine n_imul (pc := 16) dX12_takeCircle_16 ?_
    refine g_iald (pc := 17) (14 * n) dX12_takeCircle_17 a11 (IXn (by omega) (by omega)) ?_
    refine GP.ti (nI (cyDg n)) (hc (by omega)).1 ?_
    refine g_put (pc := 18) (.int th :: .int st :: .ref (Y + 1) :: .ref (Y + 2) :: .ref (Y + 3) :: .ref (Y + 4) :: .int nu :: .ref (Y + 5) :: .ref (Y + 6) :: .ref (Y + 7) :: .int dg :: .ref (Y + 8) :: .int (nI (cyDg n)) :: .ref (Y + 9) :: .ref (Y + 10) :: .ref (Y + 11) :: .ref (Y + 12) :: .int ld :: .int be :: .int ib :: .ref (Y + 13) :: .ref (Y + 14) :: .ref (Y + 15) :: .ref (Y + 16) :: .ref (Y + 17) :: .int ta :: .int fa :: .int re :: .int ig :: .ref (Y + 18) :: .ref (Y + 19) :: .ref (Y + 20) :: .ref (Y + 21) :: []) dX12_takeCircle_18 fk_X12_143 hY (Nat.le_of_ble_eq_true rfl) rfl rfl ?_
    refine g_iconst (pc := 21) (v := nI 0) dX12_takeCircle_21 (by decide) ?_
    refine g_istore_n (pc := 22) [(2, .int (nI 0)), (0, .ref Y), (1, .int (nI n))] dX12_takeCircle_22 rfl (by decide) rfl ?_
    refine GP.weq ((w.set Y (.inr (11, .int th :: .int st :: .ref (Y + 1) :: .ref (Y + 2) :: .ref (Y + 3) :: .ref (Y + 4) :: .int nu :: .ref (Y + 5) :: .ref (Y + 6) :: .ref (Y + 7) :: .int dg :: .ref (Y + 8) :: .int (nI (cyDg n)) :: .ref (Y + 9) :: .ref (Y + 10) :: .ref (Y + 11) :: .ref (Y + 12) :: .int ld :: .int be :: .int ib :: .ref (Y + 13) :: .ref (Y + 14) :: .ref (Y + 15) :: .ref (Y + 16) :: .ref (Y + 17) :: .int ta :: .int fa :: .int re :: .int ig :: .ref (Y + 18) :: .ref (Y + 19) :: .ref (Y + 20) :: .ref (Y + 21) :: []))).set (Y + 8) (aL 14 d8)) (by rw [set_same (lk_ne (show Y ≠ (Y + 8) by omega) a8)]) ?_
    exact GP.lsub _ (by simp) (tc_loop hY a8 a11 hn hc 13 0 d8 (by omega) (fun j h => absurd h (by omega)))
  · refine g_iconst (pc := 5) (v := nI 1) dX12_takeCircle_5 (by decide) ?_
    refine g_goto (pc := 6) 18 dX12_takeCircle_6 (by decide) ?_
    refine GP.ti (nI (cyDg n)) (by rw [show n = 0 from h0]; decide) ?_
    refine g_put (pc := 18) (.int th :: .int st :: .ref (Y + 1) :: .ref (Y + 2) :: .ref (Y + 3) :: .ref (Y + 4) :: .int nu :: .ref (Y + 5) :: .ref (Y + 6) :: .ref (Y + 7) :: .int dg :: .ref (Y + 8) :: .int (nI (cyDg n)) :: .ref (Y + 9) :: .ref (Y + 10) :: .ref (Y + 11) :: .ref (Y + 12) :: .int ld :: .int be :: .int ib :: .ref (Y + 13) :: .ref (Y + 14) :: .ref (Y + 15) :: .ref (Y + 16) :: .ref (Y + 17) :: .int ta :: .int fa :: .int re :: .int ig :: .ref (Y + 18) :: .ref (Y + 19) :: .ref (Y + 20) :: .ref (Y + 21) :: []) dX12_takeCircle_18 fk_X12_143 hY (Nat.le_of_ble_eq_true rfl) rfl rfl ?_
    refine g_iconst (pc := 21) (v := nI 0) dX12_takeCircle_21 (by decide) ?_
    refine g_istore_n (pc := 22) [(2, .int (nI 0)), (0, .ref Y), (1, .int (nI n))] dX12_takeCircle_22 rfl (by decide) rfl ?_
    refine GP.weq ((w.set Y (.inr (11, .int th :: .int st :: .ref (Y + 1) :: .ref (Y + 2) :: .ref (Y + 3) :: .ref (Y + 4) :: .int nu :: .ref (Y + 5) :: .ref (Y + 6) :: .ref (Y + 7) :: .int dg :: .ref (Y + 8) :: .int (nI (cyDg n)) :: .ref (Y + 9) :: .ref (Y + 10) :: .ref (Y + 11) :: .ref (Y + 12) :: .int ld :: .int be :: .int ib :: .ref (Y + 13) :: .ref (Y + 14) :: .ref (Y + 15) :: .ref (Y + 16) :: .ref (Y + 17) :: .int ta :: .int fa :: .int re :: .int ig :: .ref (Y + 18) :: .ref (Y + 19) :: .ref (Y + 20) :: .ref (Y + 21) :: []))).set (Y + 8) (aL 14 d8)) (by rw [set_same (lk_ne (show Y ≠ (Y + 8) by omega) a8)]) ?_
    exact GP.lsub _ (by simp) (tc_loop hY a8 a11 hn hc 13 0 d8 (by omega) (fun j h => absurd h (by omega)))
