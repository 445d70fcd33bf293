/-! the reference: looks, search -/
def srM1 (d h lv v i ia on : Nat) (E : Nat → Int) (ia' on' : Nat) (E' : Nat → Int) : Prop := (oneM (bxc d h i) d ∧ ia' = ia ∧ on' = on + 1 ∧ E' = E) ∨ (nonM (bxc d h i) d ∧ ∃ b, topL (bxc d h i) d lv b ∧ ((¬ higS (bxc d h i) d b ≤ v ^ (2 ^ (b + 1)) ∧ ia' = ia ∧ on' = on ∧ E' = E) ∨ (higS (bxc d h i) d b ≤ v ^ (2 ^ (b + 1)) ∧ ia' = ia + 1 ∧ on' = on ∧ ((ia < 30 ∧ entI d h i b ia E E') ∨ (¬ ia < 30 ∧ E' = E)))))
def srM (d h lv v : Nat) : Nat → Nat → Nat → (Nat → Int) → Prop
  | 0, ia, on, _ => ia = 0 ∧ on = 0
  | i + 1, ia, on, E => ∃ ia0 on0 E0, srM d h lv v i ia0 on0 E0 ∧ srM1 d h lv v i ia0 on0 E0 ia on E
theorem row_cnt {g g' : Nat → Int32} {S : Nat → PV} {d ia lk on kp ia' lk' on' : Nat} {E : Nat → Int} (h : rowR g (S, (d, ia, lk, on, kp, E))) (hg : ∀ i, (i < 112 ∨ (116 ≤ i ∧ i < 116 + 17 * kp)) → g' i = g i) (h2 : g' 112 = nI kp) (h3 : g' 113 = nI ia') (h4 : g' 114 = nI lk') (h5 : g' 115 = nI on') (b1 : ia' ≤ 5000) (b2 : lk' ≤ 5000) (b3 : on' ≤ 5000) : rowR g' (S, (d, ia', lk', on', kp, E)) := by
  obtain ⟨r1, -, ⟨r3, r4, -⟩, r5⟩ := h
  have r4' : kp ≤ 30 := r4
  refine ⟨fun i hi => ⟨(r1 i hi).1, ?_, fun p hp => ?_⟩, ⟨h2, h3, h4, h5⟩, ⟨r3, r4, b1, b2, b3⟩, fun i hi => ⟨?_, fun j hj => ?_, (r5 i hi).2.2⟩⟩
  · rw [hg _ (by omega)]; exact (r1 i hi).2.1
  · rw [hg _ (by omega)]; exact (r1 i hi).2.2 p hp
  · have hi2 : i < kp := hi
    rw [hg _ (by omega)]; exact (r5 i hi).1
  · have hi2 : i < kp := hi
    rw [hg _ (by omega)]; exact (r5 i hi).2.1 j hj
theorem row_new {g g' : Nat → Int32} {S : Nat → PV} {d ia lk on kp : Nat} {E E' : Nat → Int} (h : rowR g (S, (d, ia, lk, on, kp, E))) (hk : kp < 30) (hg : ∀ i, (i < 112 ∨ (113 ≤ i ∧ i < 116 + 17 * kp)) → g' i = g i) (h2 : g' 112 = nI (kp + 1)) (h3 : g' (116 + 17 * kp) = nI d) (h4 : ∀ j, j < 16 → (g' (116 + 17 * kp + 1 + j)).toInt = E' (kp * 16 + j)) (h5 : ∀ j, j < kp * 16 → E' j = E j) (h6 : ∀ p, d < p → p < 13 → E' (kp * 16 + p) = 0) : rowR g' (S, (d, ia, lk, on, kp + 1, E')) := by
  obtain ⟨r1, ⟨q1, q2, q3, q4⟩, ⟨r3, r4, b1, b2, b3⟩, r5⟩ := h
  refine ⟨fun i hi => ⟨(r1 i hi).1, ?_, fun p hp => ?_⟩, ⟨h2, (hg 113 (by omega)).trans q2, (hg 114 (by omega)).trans q3, (hg 115 (by omega)).trans q4⟩, ⟨r3, hk, b1, b2, b3⟩, fun i hi => ?_⟩
  · rw [hg _ (by omega)]; exact (r1 i hi).2.1
  · rw [hg _ (by omega)]; exact (r1 i hi).2.2 p hp
  · have hi2 : i < kp + 1 := hi
    by_cases e : i = kp
    · rw [e]
      exact ⟨h3, h4, h6⟩
    · have hr := r5 i (show i < kp by omega)
      refine ⟨by rw [hg _ (by omega)]; exact hr.1, fun j hj => ?_, fun p h7 h8 => ?_⟩
      · rw [hg _ (by omega)]
        show _ = E' (i * 16 + j)
        rw [h5 _ (by omega)]
        exact hr.2.1 j hj
      · show E' (i * 16 + p) = 0
        rw [h5 _ (by omega)]
        exact hr.2.2 p h7 h8
def entE (d h i b hi lw k : Nat) (E : Nat → Int) : Nat → Int := fun j => if j < k * 16 then E j else if j < k * 16 + 13 then bxc d h i (j - k * 16) else if j = k * 16 + 13 then hi else if j = k * 16 + 14 then lw else b
theorem entE_p {d h i b hi lw k p : Nat} {E : Nat → Int} (hp : p < 13) : entE d h i b hi lw k E (k * 16 + p) = bxc d h i p := by
  unfold entE
  rw [if_neg (by omega), if_pos (by omega), show k * 16 + p - k * 16 = p by omega]
theorem entE_I {d h i b hi lw k : Nat} {E : Nat → Int} (h1 : highF (bxc d h i) d b hi) (h2 : lowF (bxc d h i) d b lw) : entI d h i b k E (entE d h i b hi lw k E) := by
  refine ⟨fun j hj => if_pos hj, fun p hp => entE_p hp, hi, lw, h1, h2, ?_, ?_, ?_⟩
  · unfold entE; rw [if_neg (by omega), if_neg (by omega), if_pos rfl]
  · unfold entE; rw [if_neg (by omega), if_neg (by omega), if_neg (by omega), if_pos rfl]
  · unfold entE; rw [if_neg (by omega), if_neg (by omega), if_neg (by omega), if_neg (by omega)]
theorem md_18 {w : Wd} {Y tl : Nat} {tb : Nat → Int32} {fa st : Int32} {rf : Nat → Nat} {sh : SV} {pn : Nat} {pk : Nat → Nat} {ps : Nat → SV} {im : Nat → Option SV} (hM : mdC w Y tl tb fa st rf sh pn pk ps im) : ∃ b, w[Y + 18]? = some (aI 0 13 b) := by
  obtain ⟨-, -, ⟨g7, g8, g9, g10, g12, g13, g14, g18, g19, g20, g21, a7, a8, a9, a10, a12, a13, a14, a18, a19, a20, a21⟩, -⟩ := hM
  exact ⟨_, a18⟩
theorem md_12 {w : Wd} {Y tl : Nat} {tb : Nat → Int32} {fa st : Int32} {rf : Nat → Nat} {sh : SV} {pn : Nat} {pk : Nat → Nat} {ps : Nat → SV} {im : Nat → Option SV} (hM : mdC w Y tl tb fa st rf sh pn pk ps im) : ∃ b, w[Y + 12]? = some (aL 91 b) := by
  obtain ⟨-, -, ⟨g7, g8, g9, g10, g12, g13, g14, g18, g19, g20, g21, a7, a8, a9, a10, a12, a13, a14, a18, a19, a20, a21⟩, -⟩ := hM
  exact ⟨_, a12⟩
abbrev BX12_looks (w0 : Wd) (Post : Option Value → Wd → Prop) (w : Wd) (pc : Nat) (ls : List (Nat × Value)) (st : List Value) : Prop := GP "looks" RX12 cX12_looks 7 none 5 195 none w0 Post w pc ls st
abbrev EX12_looks (As : List Value) (w : Wd) (Post : Option Value → Wd → Prop) : Prop := EP yX12_looks cX12_looks 7 none 5 As w Post
theorem lk_row {w0 w : Wd} {Y d k9 : Nat} {th st nu dg dd ld be ib ta fa re ig : Int32} {g2 b : Nat → Int32} (hY : w[Y]? = some (oM Y th st nu dg dd ld be ib ta fa re ig)) (a2 : w[Y + 2]? = some (aI 0 626 g2)) (h18 : w[Y + 18]? = some (aI 0 13 b)) (hd : d ≤ 12) (hk9 : k9 < 30) {kk v lv : Nat} {Q : Option Value → Wd → Prop} (K : ∀ cur : Nat → Int32, ((∀ i, ¬ (116 + 17 * k9 + 1 ≤ i ∧ i < 116 + 17 * k9 + 1 + 13) → cur i = g2 i) ∧ ∀ t, t < 13 → (cur (116 + 17 * k9 + 1 + t)).toInt = if t ≤ d then (b t).toInt else 0) → BX12_looks w0 Q (w.set (Y + 2) (aI 0 626 cur)) 170 [(5, .int (nI (116 + 17 * k9))), (4, .int (nI kk)), (3, .int (nI v)), (2, .int (nI lv)), (1, .int (nI d)), (0, .ref Y)] []) : ∀ (z p : Nat) (cur : Nat → Int32), 13 = p + z → ((∀ i, ¬ (116 + 17 * k9 + 1 ≤ i ∧ i < 116 + 17 * k9 + 1 + p) → cur i = g2 i) ∧ ∀ t, t < p → (cur (116 + 17 * k9 + 1 + t)).toInt = if t ≤ d then (b t).toInt else 0) → BX12_looks w0 Q (w.set (Y + 2) (aI 0 626 cur)) 128 [(6, .int (nI p)), (5, .int (nI (116 + 17 * k9))), (4, .int (nI kk)), (3, .int (nI v)), (2, .int (nI lv)), (1, .int (nI d)), (0, .ref Y)] [] := by
  intro z
  induction z with
  | zero =>
    intro p cur hz hc
    refine g_iload (pc := 128) 0 dX12_looks_128 rfl ?_
    refine g_bipush (pc := 130) (v := nI 12) dX12_looks_130 (by decide) ?_
    refine n_icmp_gt (pc := 132) 170 dX12_looks_132 (by decide) (by omega) (by omega) (fun hb9 => ?_) (fun hb9 => ?_)
    · have e9 : p = 13 := by omega
      rw [e9] at hc
      exact GP.lsub _ (by simp) (K cur hc)
    · exact absurd (show 12 < p by omega) hb9
  | succ z ih =>
    intro p cur hz hc
    refine g_iload (pc := 128) 0 dX12_looks_128 rfl ?_
    refine g_bipush (pc := 130) (v := nI 12) dX12_looks_130 (by decide) ?_
    refine n_icmp_gt (pc := 132) 170 dX12_looks_132 (by decide) (by omega) (by omega) (fun hb9 => ?_) (fun hb9 => ?_)
    · exact absurd hb9 (by omega)
    · refine g_aload_n (pc := 135) 6 dX12_looks_135 rfl rfl ?_
      refine g_get (pc := 136) dX12_looks_136 fk_X12_13 (lk_ne (show (Y + 2) ≠ Y by omega) hY) rfl ?_
      refine g_iload (pc := 139) 1 dX12_looks_139 rfl ?_
      refine g_iconst (pc := 141) (v := nI 1) dX12_looks_141 (by decide) ?_
      refine n_iadd (pc := 142) dX12_looks_142 ?_
      refine g_iload (pc := 143) 0 dX12_looks_143 rfl ?_
      refine n_iadd (pc := 145) dX12_looks_145 ?_
      refine g_iload (pc := 146) 0 dX12_looks_146 rfl ?_
      refine g_iload_n (pc := 148) 5 dX12_looks_148 rfl rfl ?_
      refine n_icmp_gt (pc := 149) 162 dX12_looks_149 (by decide) (by omega) (by omega) (fun hpd => ?_) (fun hpd => ?_)
      · refine g_iconst (pc := 162) (v := nI 0) dX12_looks_162 (by decide) ?_
        refine g_iast (pc := 163) (((116 + 17 * k9) + 1) + p) dX12_looks_163 (lk_eq a2) (IXn (by omega) (by omega)) ?_
        refine GP.weq (w.set (Y + 2) (aI 0 626 (upd cur (((116 + 17 * k9) + 1) + p) (nI 0)))) (by rw [List.set_set]) ?_
        refine n_iinc (pc := 164) (c := 1) [(6, .int (nI (p + 1))), (5, .int (nI (116 + 17 * k9))), (4, .int (nI kk)), (3, .int (nI v)), (2, .int (nI lv)), (1, .int (nI d)), (0, .ref Y)] 0 dX12_looks_164 rfl (by decide) (by decide) rfl ?_
        refine g_goto (pc := 167) 128 dX12_looks_167 (by decide) ?_
        refine GP.lsub _ (by simp) (ih (p + 1) _ (by omega) ⟨fun i hi => ?_, fun t ht => ?_⟩)
        · rw [upd_n (by omega)]; exact hc.1 i (by omega)
        · by_cases e : t = p
          · rw [e]
            rw [upd_s, if_neg (by omega)]; rfl
          · rw [upd_n (by omega)]; exact hc.2 t (by omega)
      · refine g_aload_n (pc := 152) 6 dX12_looks_152 rfl rfl ?_
        refine g_get (pc := 153) dX12_looks_153 fk_X12_68 (lk_ne (show (Y + 2) ≠ Y by omega) hY) rfl ?_
        refine g_iload (pc := 156) 0 dX12_looks_156 rfl ?_
        refine g_iald (pc := 158) p dX12_looks_158 (lk_ne (show (Y + 2) ≠ (Y + 18) by omega) h18) (IXn (by omega) (by omega)) ?_
        refine g_goto (pc := 159) 163 dX12_looks_159 (by decide) ?_
        refine g_iast (pc := 163) (((116 + 17 * k9) + 1) + p) dX12_looks_163 (lk_eq a2) (IXn (by omega) (by omega)) ?_
        refine GP.weq (w.set (Y + 2) (aI 0 626 (upd cur (((116 + 17 * k9) + 1) + p) (b p)))) (by rw [List.set_set]) ?_
        refine n_iinc (pc := 164) (c := 1) [(6, .int (nI (p + 1))), (5, .int (nI (116 + 17 * k9))), (4, .int (nI kk)), (3, .int (nI v)), (2, .int (nI lv)), (1, .int (nI d)), (0, .ref Y)] 0 dX12_looks_164 rfl (by decide) (by decide) rfl ?_
        refine g_goto (pc := 167) 128 dX12_looks_167 (by decide) ?_
        refine GP.lsub _ (by simp) (ih (p + 1) _ (by omega) ⟨fun i hi => ?_, fun t ht => ?_⟩)
        · rw [upd_n (by omega)]; exact hc.1 i (by omega)
        · by_cases e : t = p
          · rw [e]
            rw [upd_s, if_pos (by omega)]
          · rw [upd_n (by omega)]; exact hc.2 t (by omega)
theorem v_cap : ∀ k, k < 7 → 9999 ^ (2 ^ k) < 268435456 ^ 45 := by decide +kernel
theorem mq_looks (w : Wd) {Y tl : Nat} {tb : Nat → Int32} {fa st : Int32} {rf : Nat → Nat} {S : Nat → PV} {pn : Nat} {pk : Nat → Nat} {ps : Nat → SV} {im : Nat → Option SV} {d h i lv v ia lk on : Nat} {E : Nat → Int} {b : Nat → Int32} (hM : mdC w Y tl tb fa st rf (S, (d, ia, lk, on, min ia 30, E)) pn pk ps im) (h18 : w[Y + 18]? = some (aI 0 13 b)) (hbb : ∀ t, t ≤ d → (b t).toInt = bxc d h i t) (hd : d ≤ 12) (hh : h ≤ 3) (hlv : lv ≤ 6) (hv : v ≤ 9999) (hia : ia ≤ lk) (hon : on ≤ lk) (hlk : lk < 5000) : EX12_looks [.ref Y, .int (nI d), .int (nI lv), .int (nI v)] w (fun r w' => r = none ∧ ∃ ia' on' E', srM1 d h lv v i ia on E ia' on' E' ∧ ia' ≤ lk + 1 ∧ on' ≤ lk + 1 ∧ mdC w' Y tl tb fa st rf (S, (d, ia', lk + 1, on', min ia' 30, E')) pn pk ps im ∧ FR (modS Y) w w') := by
  refine EP.of (plainFor_of_name (by decide)) [(0, .ref Y), (1, .int (nI d)), (2, .int (nI lv)), (3, .int (nI v))] rfl (Nat.le_of_ble_eq_true rfl) (fun r wf h => by obtain ⟨rfl, -⟩ := h; trivial) ?_
  show BX12_looks w _ w 0 [(0, .ref Y), (1, .int (nI d)), (2, .int (nI lv)), (3, .int (nI v))] []
  obtain ⟨g2, a2, b2⟩ := hM.2.1.2.1
  have hokF := bxc_ok (i := i) hd hh
  obtain ⟨q112, q113, q114, q115⟩ := b2.2.1
  obtain ⟨-, z12, z13, z14, z15⟩ := b2.2.2.1
  simp only at q112 q113 q114 q115 z12 z13 z14 z15
  obtain ⟨th0, dg0, dd0, ld0, be0, ib0, re0, ig0, cY0⟩ := id hM.1
  refine g_aload_n (pc := 0) 0 dX12_looks_0 rfl rfl ?_
  refine g_get (pc := 1) dX12_looks_1 fk_X12_13 cY0 rfl ?_
  refine g_bipush (pc := 4) (v := nI 114) dX12_looks_4 (by decide) ?_
  refine g_dup2 (pc := 6) dX12_looks_6 rfl rfl ?_
  refine g_iald (pc := 7) 114 dX12_looks_7 a2 (IXn (by omega) (by omega)) ?_
  refine GP.ti (nI lk) q114 ?_
  refine g_iconst (pc := 8) (v := nI 1) dX12_looks_8 (by decide) ?_
  refine n_iadd (pc := 9) dX12_looks_9 ?_
  refine g_iast (pc := 10) 114 dX12_looks_10 a2 (IXn (by omega) (by omega)) ?_
  refine g_aload_n (pc := 11) 0 dX12_looks_11 rfl rfl ?_
  refine g_iload_n (pc := 12) 1 dX12_looks_12 rfl rfl ?_
  have hr1 : rowR (upd g2 114 (nI (lk + 1))) (S, (d, ia, lk + 1, on, min ia 30, E)) := row_cnt b2 (fun i hi => upd_n (by omega)) (by rw [upd_n (by decide)]; exact q112) (by rw [upd_n (by decide)]; exact q113) upd_s (by rw [upd_n (by decide)]; exact q115) (by omega) (by omega) (by omega)
  obtain ⟨hM1, hF1⟩ := hM.row a2 hr1
  have c18 : (w.set (Y + 2) (aI 0 626 (upd g2 114 (nI (lk + 1)))))[Y + 18]? = some (aI 0 13 b) := lk_ne (by omega) h18
  refine g_callV (pc := 13) [.int (nI d)] dX12_looks_13 cv_X12_306.1 cv_X12_306.2.1 cv_X12_306.2.2.1 cv_X12_306.2.2.2 (lk_ne (show (Y + 2) ≠ Y by omega) cY0) rfl rfl (Nat.le_of_ble_eq_true rfl) (by decide) (by decide) (mq_takeBox _ hM1 c18 hd hbb) ?_
  rintro _ w2 ⟨rfl, hA2, hM2, hF2⟩
  have c182 := hF2.lk (by unfold hdS; omega) c18
  obtain ⟨thA, ddA, ldA, beA, ibA, reA, igA, hA, cYA, c7A, hhA⟩ := id hA2
  refine g_aload_n (pc := 16) 0 dX12_looks_16 rfl rfl ?_
  have hG : hgO (bxc d h i) d := ⟨by omega, hokF.2.2.1, fun t ht => by have := bxc_3 (d := d) (i := i) (p := t) hh; omega⟩
  refine g_callV (pc := 17) [] dX12_looks_17 cv_X12_309.1 cv_X12_309.2.1 cv_X12_309.2.2.1 cv_X12_309.2.2.2 cYA rfl rfl (Nat.le_of_ble_eq_true rfl) (by decide) (by decide) (mq_isOne _ hM2 hA2 hG) ?_
  rintro _ w9 (⟨rfl, h1, hM3, hF3⟩ | ⟨rfl, h1, hM3, hF3⟩)
  · refine n_if_eq (pc := 20) 35 dX12_looks_20 (by decide) (by omega) (fun hd9 => ?_) (fun hd9 => ?_)
    · exact absurd hd9 (by decide)
    · obtain ⟨g3, a3, b3⟩ := hM3.2.1.2.1
      obtain ⟨r112, r113, r114, r115⟩ := b3.2.1
      simp only at r112 r113 r114 r115
      obtain ⟨thB, dgB, ddB, ldB, beB, ibB, reB, igB, cYB⟩ := id hM3.1
      refine g_aload_n (pc := 23) 0 dX12_looks_23 rfl rfl ?_
      refine g_get (pc := 24) dX12_looks_24 fk_X12_13 cYB rfl ?_
      refine g_bipush (pc := 27) (v := nI 115) dX12_looks_27 (by decide) ?_
      refine g_dup2 (pc := 29) dX12_looks_29 rfl rfl ?_
      refine g_iald (pc := 30) 115 dX12_looks_30 a3 (IXn (by omega) (by omega)) ?_
      refine GP.ti (nI on) r115 ?_
      refine g_iconst (pc := 31) (v := nI 1) dX12_looks_31 (by decide) ?_
      refine n_iadd (pc := 32) dX12_looks_32 ?_
      refine g_iast (pc := 33) 115 dX12_looks_33 a3 (IXn (by omega) (by omega)) ?_
      have hr4 : rowR (upd g3 115 (nI (on + 1))) (S, (d, ia, lk + 1, on + 1, min ia 30, E)) := row_cnt b3 (fun i hi => upd_n (by omega)) (by rw [upd_n (by decide)]; exact r112) (by rw [upd_n (by decide)]; exact r113) (by rw [upd_n (by decide)]; exact r114) upd_s (by omega) (by omega) (by omega)
      obtain ⟨hM4, hF4⟩ := hM3.row a3 hr4
      exact g_vret (pc := 34) dX12_looks_34 ⟨rfl, ia, on + 1, E, Or.inl ⟨h1, rfl, rfl, rfl⟩, by omega, by omega, hM4, hF1.tr ((hdm (hF2.tr hF3)).tr hF4)⟩
  · refine n_if_eq (pc := 20) 35 dX12_looks_20 (by decide) (by omega) (fun hd9 => ?_) (fun hd9 => ?_)
    · have c183 := hF3.lk (by unfold hdS; omega) c182
      obtain ⟨thB, dgB, ddB, ldB, beB, ibB, reB, igB, cYB⟩ := id hM3.1
      refine g_aload_n (pc := 35) 0 dX12_looks_35 rfl rfl ?_
      refine g_iload_n (pc := 36) 1 dX12_looks_36 rfl rfl ?_
      refine g_callV (pc := 37) [.int (nI d)] dX12_looks_37 cv_X12_306.1 cv_X12_306.2.1 cv_X12_306.2.2.1 cv_X12_306.2.2.2 cYB rfl rfl (Nat.le_of_ble_eq_true rfl) (by decide) (by decide) (mq_takeBox _ hM3 c183 hd hbb) ?_
      rintro _ w4 ⟨rfl, hA4, hM4, hF4⟩
      have c184 := hF4.lk (by unfold hdS; omega) c183
      obtain ⟨l12, c12⟩ := md_12 hM4
      have hF40 := hF1.tr (hdm (hF2.tr (hF3.tr hF4)))
      obtain ⟨thC, ddC, ldC, beC, ibC, reC, igC, hC, cYC, c7C, hhC⟩ := id hA4
      refine g_aload_n (pc := 40) 0 dX12_looks_40 rfl rfl ?_
      have hGG : ∀ j, j ≤ d → (hC j).toInt = bxc d h i j := fun j hj => by rw [hhC j (by omega), if_pos hj]
      refine g_callV (pc := 41) [] dX12_looks_41 cv_X12_303.1 cv_X12_303.2.1 cv_X12_303.2.2.1 cv_X12_303.2.2.2 cYC rfl rfl (Nat.le_of_ble_eq_true rfl) (by decide) (by decide) (mp_layLevels _ (F := bxc d h i) cYC c7C c12 hd hGG) ?_
      rintro _ w9 ⟨rfl, T, bb, l, hTT, hl, e9⟩
      refine GP.weq _ e9 ?_
      obtain ⟨w5, e5⟩ : ∃ wy : Wd, wy = ((w4.set (Y + 12) (aL 91 l)).set Y (.inr (11, .int thC :: .int st :: .ref (Y + 1) :: .ref (Y + 2) :: .ref (Y + 3) :: .ref (Y + 4) :: .int (nI pn) :: .ref (Y + 5) :: .ref (Y + 6) :: .ref (Y + 7) :: .int (nI d) :: .ref (Y + 8) :: .int ddC :: .ref (Y + 9) :: .ref (Y + 10) :: .ref (Y + 11) :: .ref (Y + 12) :: .int (nI d) :: .int (nI T) :: .int (nI bb) :: .ref (Y + 13) :: .ref (Y + 14) :: .ref (Y + 15) :: .ref (Y + 16) :: .ref (Y + 17) :: .int (nI tl) :: .int fa :: .int reC :: .int igC :: .ref (Y + 18) :: .ref (Y + 19) :: .ref (Y + 20) :: .ref (Y + 21) :: []))) := ⟨_, rfl⟩
      refine GP.weq w5 e5.symm ?_
      obtain ⟨hM5, hF5⟩ : mdC w5 Y tl tb fa st rf (S, (d, ia, lk + 1, on, min ia 30, E)) pn pk ps im ∧ FR (modS Y) w4 w5 := by rw [e5]; exact hM4.lv (FR.st (c' := .inr (11, .int thC :: .int st :: .ref (Y + 1) :: .ref (Y + 2) :: .ref (Y + 3) :: .ref (Y + 4) :: .int (nI pn) :: .ref (Y + 5) :: .ref (Y + 6) :: .ref (Y + 7) :: .int (nI d) :: .ref (Y + 8) :: .int ddC :: .ref (Y + 9) :: .ref (Y + 10) :: .ref (Y + 11) :: .ref (Y + 12) :: .int (nI d) :: .int (nI T) :: .int (nI bb) :: .ref (Y + 13) :: .ref (Y + 14) :: .ref (Y + 15) :: .ref (Y + 16) :: .ref (Y + 17) :: .int (nI tl) :: .int fa :: .int reC :: .int igC :: .ref (Y + 18) :: .ref (Y + 19) :: .ref (Y + 20) :: .ref (Y + 21) :: [])) (FR.st (c' := aL 91 l) FR.rf c12 rfl (by unfold lvS; omega)) (lk_ne (show (Y + 12) ≠ Y by omega) cYC) rfl (by unfold lvS; omega)) (lk_eq (lk_ne (show (Y + 12) ≠ Y by omega) cYC)) (lk_ne (show Y ≠ (Y + 12) by omega) (lk_eq c12))
      have cY5 : w5[Y]? = some (.inr (11, .int thC :: .int st :: .ref (Y + 1) :: .ref (Y + 2) :: .ref (Y + 3) :: .ref (Y + 4) :: .int (nI pn) :: .ref (Y + 5) :: .ref (Y + 6) :: .ref (Y + 7) :: .int (nI d) :: .ref (Y + 8) :: .int ddC :: .ref (Y + 9) :: .ref (Y + 10) :: .ref (Y + 11) :: .ref (Y + 12) :: .int (nI d) :: .int (nI T) :: .int (nI bb) :: .ref (Y + 13) :: .ref (Y + 14) :: .ref (Y + 15) :: .ref (Y + 16) :: .ref (Y + 17) :: .int (nI tl) :: .int fa :: .int reC :: .int igC :: .ref (Y + 18) :: .ref (Y + 19) :: .ref (Y + 20) :: .ref (Y + 21) :: [])) := by rw [e5]; exact (lk_eq (lk_ne (show (Y + 12) ≠ Y by omega) cYC))
      have c125 : w5[Y + 12]? = some (aL 91 l) := by rw [e5]; exact (lk_ne (show Y ≠ (Y + 12) by omega) (lk_eq c12))
      have c185 : w5[Y + 18]? = some (aI 0 13 b) := by rw [e5]; exact (lk_ne (show Y ≠ (Y + 18) by omega) (lk_ne (show (Y + 12) ≠ (Y + 18) by omega) c184))
      have hT6 := hTT.1
      have hon5 : onM w5 Y (d, bxc d h i) T := ⟨⟨_, _, _, _, _, _, _, _, _, _, cY5⟩, l, c125, hl⟩
      refine g_iload_n (pc := 44) 2 dX12_looks_44 rfl rfl ?_
      refine g_aload_n (pc := 45) 0 dX12_looks_45 rfl rfl ?_
      refine g_get (pc := 46) dX12_looks_46 fk_X12_196 cY5 rfl ?_
      refine n_icmp_ge (pc := 49) 56 dX12_looks_49 (by decide) (by omega) (by omega) (fun hcmp => ?_) (fun hcmp => ?_)
      · refine g_aload_n (pc := 56) 0 dX12_looks_56 rfl rfl ?_
        refine g_get (pc := 57) dX12_looks_57 fk_X12_196 cY5 rfl ?_
        refine g_istore (pc := 60) [(4, .int (nI T)), (0, .ref Y), (1, .int (nI d)), (2, .int (nI lv)), (3, .int (nI v))] dX12_looks_60 (by decide) rfl ?_
        refine g_aload_n (pc := 62) 1 dX12_looks_62 rfl rfl ?_
        refine g_iload (pc := 63) 0 dX12_looks_63 rfl ?_
        have htl : topL (bxc d h i) d lv T := by have h9 := top_min hTT hlv; rw [show min lv T = T by omega] at h9; exact h9
        have hkT : T ≤ T := by omega
        have hS9 : 1000 ^ (2 ^ (T + 1)) * sqN (lvA l T) (d + 1) = higS (bxc d h i) d T := by rw [sqN_cg (d + 1) (fun j hj => lvM_A hl hkT hd (by omega))]; rfl
        refine g_callV (pc := 65) [.int (nI T)] dX12_looks_65 cv_X12_243.1 cv_X12_243.2.1 cv_X12_243.2.2.1 cv_X12_243.2.2.2 cY5 rfl rfl (Nat.le_of_ble_eq_true rfl) (by decide) (by decide) (mp_laySquares _ cY5 c125 hd (show T ≤ 6 by omega) hM5.o) ?_
        rintro _ w6 ⟨rfl, hW6, hR6⟩
        rw [hS9] at hW6
        refine g_aload_n (pc := 68) 1 dX12_looks_68 rfl rfl ?_
        refine g_iload (pc := 69) 0 dX12_looks_69 rfl ?_
        refine g_iload_n (pc := 71) 4 dX12_looks_71 rfl rfl ?_
        have hcap : v ^ (2 ^ T) < 268435456 ^ 45 := Nat.lt_of_le_of_lt (Nat.pow_le_pow_left hv _) (v_cap T (by omega))
        refine g_callV (pc := 72) [.int (nI T), .int (nI v)] dX12_looks_72 cv_X12_246.1 cv_X12_246.2.1 cv_X12_246.2.2.1 cv_X12_246.2.2.2 (hR6.lk (by unfold nuS2; omega) cY5) rfl rfl (Nat.le_of_ble_eq_true rfl) (by decide) (by decide) (mp_isHigh _ (hR6.lk (by unfold nuS2; omega) cY5) (show T ≤ 6 by omega) (show v < 268435456 by omega) hcap hW6) ?_
        rintro _ w7 ⟨(⟨rfl, hq7⟩ | ⟨rfl, hq7⟩), hW7, hR7⟩
        · ·
            have hR67 := hR6.tr hR7
            obtain ⟨hM7, hF7⟩ := hM5.nu hR67 hW7.o
            have hF70 := hF40.tr (hF5.tr hF7)
            obtain ⟨g7, a7, b7⟩ := hM7.2.1.2.1
            obtain ⟨s112, s113, s114, s115⟩ := b7.2.1
            simp only at s112 s113 s114 s115
            have hon7 := hon5.nu hR67
            have c187 := hR67.lk (show ¬ nuS2 Y (Y + 18) by unfold nuS2; omega) c185
            refine n_if_ne (pc := 75) 79 dX12_looks_75 (by decide) (by omega) (fun hd9 => ?_) (fun hd9 => ?_)
            · refine g_aload_n (pc := 79) 1 dX12_looks_79 rfl rfl ?_
              refine g_get (pc := 80) dX12_looks_80 fk_X12_13 (hR67.lk (by unfold nuS2; omega) cY5) rfl ?_
              refine g_bipush (pc := 83) (v := nI 113) dX12_looks_83 (by decide) ?_
              refine g_dup2 (pc := 85) dX12_looks_85 rfl rfl ?_
              refine g_iald (pc := 86) 113 dX12_looks_86 a7 (IXn (by omega) (by omega)) ?_
              refine GP.ti (nI ia) s113 ?_
              refine g_iconst (pc := 87) (v := nI 1) dX12_looks_87 (by decide) ?_
              refine n_iadd (pc := 88) dX12_looks_88 ?_
              refine g_iast (pc := 89) 113 dX12_looks_89 a7 (IXn (by omega) (by omega)) ?_
              refine g_aload_n (pc := 90) 1 dX12_looks_90 rfl rfl ?_
              refine g_get (pc := 91) dX12_looks_91 fk_X12_13 (lk_ne (show (Y + 2) ≠ Y by omega) (hR67.lk (by unfold nuS2; omega) cY5)) rfl ?_
              refine g_bipush (pc := 94) (v := nI 112) dX12_looks_94 (by decide) ?_
              refine g_iald (pc := 96) 112 dX12_looks_96 (lk_eq a7) (IXn (by omega) (by omega)) ?_
              refine GP.ti (nI (min ia 30)) (by rw [upd_n (by decide)]; exact s112) ?_
              refine g_bipush (pc := 97) (v := nI 30) dX12_looks_97 (by decide) ?_
              refine n_icmp_ge (pc := 99) 225 dX12_looks_99 (by decide) (by omega) (by omega) (fun h30 => ?_) (fun h30 => ?_)
              · have hr8 : rowR (upd g7 113 (nI (ia + 1))) (S, (d, ia + 1, lk + 1, on, min ia 30, E)) := row_cnt b7 (fun i hi => upd_n (by omega)) (by rw [upd_n (by decide)]; exact s112) upd_s (by rw [upd_n (by decide)]; exact s114) (by rw [upd_n (by decide)]; exact s115) (by omega) (by omega) (by omega)
                have e30 : min ia 30 = min (ia + 1) 30 := by omega
                obtain ⟨hM8, hF8⟩ := hM7.row a7 (e30 ▸ hr8)
                exact g_vret (pc := 225) dX12_looks_225 ⟨rfl, ia + 1, on, E, Or.inr ⟨h1, T, htl, Or.inr ⟨hq7, rfl, rfl, Or.inr ⟨by omega, rfl⟩⟩⟩, by omega, by omega, hM8, hF70.tr hF8⟩
              · have hr8 : rowR (upd g7 113 (nI (ia + 1))) (S, (d, ia + 1, lk + 1, on, min ia 30, E)) := row_cnt b7 (fun i hi => upd_n (by omega)) (by rw [upd_n (by decide)]; exact s112) upd_s (by rw [upd_n (by decide)]; exact s114) (by rw [upd_n (by decide)]; exact s115) (by omega) (by omega) (by omega)
                have e30 : min ia 30 = ia := by omega
                rw [e30] at hr8
                have hia30 : ia < 30 := by omega
                refine g_bipush (pc := 102) (v := nI 116) dX12_looks_102 (by decide) ?_
                refine g_bipush (pc := 104) (v := nI 17) dX12_looks_104 (by decide) ?_
                refine g_aload_n (pc := 106) 1 dX12_looks_106 rfl rfl ?_
                refine g_get (pc := 107) dX12_looks_107 fk_X12_13 (lk_ne (show (Y + 2) ≠ Y by omega) (hR67.lk (by unfold nuS2; omega) cY5)) rfl ?_
                refine g_bipush (pc := 110) (v := nI 112) dX12_looks_110 (by decide) ?_
                refine g_iald (pc := 112) 112 dX12_looks_112 (lk_eq a7) (IXn (by omega) (by omega)) ?_
                refine GP.ti (nI ia) (by rw [upd_n (by decide), s112, e30]) ?_
                refine n_imul (pc := 113) dX12_looks_113 ?_
                refine n_iadd (pc := 114) dX12_looks_114 ?_
                refine g_istore (pc := 115) [(5, .int (nI (116 + (17 * ia)))), (4, .int (nI T)), (0, .ref Y), (1, .int (nI d)), (2, .int (nI lv)), (3, .int (nI v))] dX12_looks_115 (by decide) rfl ?_
                refine g_aload_n (pc := 117) 2 dX12_looks_117 rfl rfl ?_
                refine g_get (pc := 118) dX12_looks_118 fk_X12_13 (lk_ne (show (Y + 2) ≠ Y by omega) (hR67.lk (by unfold nuS2; omega) cY5)) rfl ?_
                refine g_iload (pc := 121) 0 dX12_looks_121 rfl ?_
                refine g_iload_n (pc := 123) 3 dX12_looks_123 rfl rfl ?_
                refine g_iast (pc := 124) (116 + (17 * ia)) dX12_looks_124 (lk_eq a7) (IXn (by omega) (by omega)) ?_
                refine GP.weq (w7.set (Y + 2) (aI 0 626 (upd (upd g7 113 (nI (ia + 1))) (116 + (17 * ia)) (nI d)))) (by rw [List.set_set]) ?_
                refine g_iconst (pc := 125) (v := nI 0) dX12_looks_125 (by decide) ?_
                refine g_istore (pc := 126) [(6, .int (nI 0)), (5, .int (nI (116 + (17 * ia)))), (4, .int (nI T)), (0, .ref Y), (1, .int (nI d)), (2, .int (nI lv)), (3, .int (nI v))] dX12_looks_126 (by decide) rfl ?_
                obtain ⟨w8, e8⟩ : ∃ wy : Wd, wy = w7.set (Y + 2) (aI 0 626 (upd (upd g7 113 (nI (ia + 1))) (116 + 17 * ia) (nI d))) := ⟨_, rfl⟩
                refine GP.weq w8 e8.symm ?_
                have a28 : w8[Y + 2]? = some (aI 0 626 (upd (upd g7 113 (nI (ia + 1))) (116 + 17 * ia) (nI d))) := by rw [e8]; exact lk_eq a7
                have cY8 : w8[Y]? = some (.inr (11, .int thC :: .int st :: .ref (Y + 1) :: .ref (Y + 2) :: .ref (Y + 3) :: .ref (Y + 4) :: .int (nI pn) :: .ref (Y + 5) :: .ref (Y + 6) :: .ref (Y + 7) :: .int (nI d) :: .ref (Y + 8) :: .int ddC :: .ref (Y + 9) :: .ref (Y + 10) :: .ref (Y + 11) :: .ref (Y + 12) :: .int (nI d) :: .int (nI T) :: .int (nI bb) :: .ref (Y + 13) :: .ref (Y + 14) :: .ref (Y + 15) :: .ref (Y + 16) :: .ref (Y + 17) :: .int (nI tl) :: .int fa :: .int reC :: .int igC :: .ref (Y + 18) :: .ref (Y + 19) :: .ref (Y + 20) :: .ref (Y + 21) :: [])) := by rw [e8]; exact lk_ne (by omega) (hR67.lk (by unfold nuS2; omega) cY5)
                have c188 : w8[Y + 18]? = some (aI 0 13 b) := by rw [e8]; exact lk_ne (by omega) c187
                refine GP.weq (w8.set (Y + 2) (aI 0 626 (upd (upd g7 113 (nI (ia + 1))) (116 + 17 * ia) (nI d)))) (set_same a28).symm ?_
                refine GP.lsub _ (by simp) (lk_row (kk := T) (v := v) (lv := lv) cY8 a28 c188 hd hia30 (fun cur hcur => ?_) 13 0 _ (by omega) ⟨fun i hi => rfl, fun t ht => absurd ht (by omega)⟩)
                have hcu : ∀ i, i < 116 + 17 * ia → cur i = (upd g7 113 (nI (ia + 1))) i := fun i hi => by rw [hcur.1 i (by omega), upd_n (by omega)]
                have hr9 : rowR cur (S, (d, ia + 1, lk + 1, on, ia, E)) := row_cnt hr8 (fun i hi => hcu i (by omega)) (by rw [hcu 112 (by omega)]; exact hr8.2.1.1) (by rw [hcu 113 (by omega)]; exact hr8.2.1.2.1) (by rw [hcu 114 (by omega)]; exact hr8.2.1.2.2.1) (by rw [hcu 115 (by omega)]; exact hr8.2.1.2.2.2) (by omega) (by omega) (by omega)
                obtain ⟨w9, e9w⟩ : ∃ wy : Wd, wy = w8.set (Y + 2) (aI 0 626 cur) := ⟨_, rfl⟩
                refine GP.weq w9 e9w.symm ?_
                have e9x : w9 = w7.set (Y + 2) (aI 0 626 cur) := by rw [e9w, e8, List.set_set]
                obtain ⟨hM9, hF9⟩ : mdC w9 Y tl tb fa st rf (S, (d, ia + 1, lk + 1, on, ia, E)) pn pk ps im ∧ FR (modS Y) w7 w9 := by rw [e9x]; exact hM7.row a7 hr9
                have a29 : w9[Y + 2]? = some (aI 0 626 cur) := by rw [e9w]; exact lk_eq a28
                have cY9 : w9[Y]? = some (.inr (11, .int thC :: .int st :: .ref (Y + 1) :: .ref (Y + 2) :: .ref (Y + 3) :: .ref (Y + 4) :: .int (nI pn) :: .ref (Y + 5) :: .ref (Y + 6) :: .ref (Y + 7) :: .int (nI d) :: .ref (Y + 8) :: .int ddC :: .ref (Y + 9) :: .ref (Y + 10) :: .ref (Y + 11) :: .ref (Y + 12) :: .int (nI d) :: .int (nI T) :: .int (nI bb) :: .ref (Y + 13) :: .ref (Y + 14) :: .ref (Y + 15) :: .ref (Y + 16) :: .ref (Y + 17) :: .int (nI tl) :: .int fa :: .int reC :: .int igC :: .ref (Y + 18) :: .ref (Y + 19) :: .ref (Y + 20) :: .ref (Y + 21) :: [])) := by rw [e9w]; exact lk_ne (by omega) cY8
                have hon9 : onM w9 Y (d, bxc d h i) T := by
                  obtain ⟨⟨_, _, _, _, _, _, _, _, _, _, k1⟩, l2, k2, k3⟩ := hon7
                  rw [e9x]
                  exact ⟨⟨_, _, _, _, _, _, _, _, _, _, lk_ne (by omega) k1⟩, l2, lk_ne (by omega) k2, k3⟩
                refine g_aload_n (pc := 170) 5 dX12_looks_170 rfl rfl ?_
                refine g_get (pc := 171) dX12_looks_171 fk_X12_13 cY9 rfl ?_
                refine g_iload (pc := 174) 0 dX12_looks_174 rfl ?_
                refine g_bipush (pc := 176) (v := nI 14) dX12_looks_176 (by decide) ?_
                refine n_iadd (pc := 178) dX12_looks_178 ?_
                refine g_aload_n (pc := 179) 5 dX12_looks_179 rfl rfl ?_
                refine g_iload (pc := 180) 1 dX12_looks_180 rfl ?_
                refine g_callV (pc := 182) [.int (nI T)] dX12_looks_182 cv_X12_312.1 cv_X12_312.2.1 cv_X12_312.2.2.1 cv_X12_312.2.2.2 cY9 rfl rfl (Nat.le_of_ble_eq_true rfl) (by decide) (by decide) (onM_highOf _ hM9.o hon9 hokF hT6 hkT) ?_
                rintro _ wa ⟨hi9, rfl, hhi, hhb, hOa, hRa⟩
                obtain ⟨hMa, hFa⟩ := hM9.nu hRa hOa
                have hona := hon9.nu hRa
                refine g_iast (pc := 185) ((116 + 17 * ia) + 14) dX12_looks_185 (hRa.lk (by unfold nuS2; omega) a29) (IXn (by omega) (by omega)) ?_
                have hr10 : rowR (upd cur (116 + 17 * ia + 14) (nI hi9)) (S, (d, ia + 1, lk + 1, on, ia, E)) := row_cnt hr9 (fun i hi => upd_n (by omega)) (by rw [upd_n (by omega)]; exact hr9.2.1.1) (by rw [upd_n (by omega)]; exact hr9.2.1.2.1) (by rw [upd_n (by omega)]; exact hr9.2.1.2.2.1) (by rw [upd_n (by omega)]; exact hr9.2.1.2.2.2) (by omega) (by omega) (by omega)
                obtain ⟨wb, ewb⟩ : ∃ wy : Wd, wy = wa.set (Y + 2) (aI 0 626 (upd cur (116 + 17 * ia + 14) (nI hi9))) := ⟨_, rfl⟩
                refine GP.weq wb ewb.symm ?_
                have a2a : wa[Y + 2]? = some (aI 0 626 cur) := (hRa.lk (by unfold nuS2; omega) a29)
                obtain ⟨hMb, hFb⟩ : mdC wb Y tl tb fa st rf (S, (d, ia + 1, lk + 1, on, ia, E)) pn pk ps im ∧ FR (modS Y) wa wb := by rw [ewb]; exact hMa.row a2a hr10
                have a2b : wb[Y + 2]? = some (aI 0 626 (upd cur (116 + 17 * ia + 14) (nI hi9))) := by rw [ewb]; exact lk_eq a2a
                have cYb : wb[Y]? = some (.inr (11, .int thC :: .int st :: .ref (Y + 1) :: .ref (Y + 2) :: .ref (Y + 3) :: .ref (Y + 4) :: .int (nI pn) :: .ref (Y + 5) :: .ref (Y + 6) :: .ref (Y + 7) :: .int (nI d) :: .ref (Y + 8) :: .int ddC :: .ref (Y + 9) :: .ref (Y + 10) :: .ref (Y + 11) :: .ref (Y + 12) :: .int (nI d) :: .int (nI T) :: .int (nI bb) :: .ref (Y + 13) :: .ref (Y + 14) :: .ref (Y + 15) :: .ref (Y + 16) :: .ref (Y + 17) :: .int (nI tl) :: .int fa :: .int reC :: .int igC :: .ref (Y + 18) :: .ref (Y + 19) :: .ref (Y + 20) :: .ref (Y + 21) :: [])) := by rw [ewb]; exact lk_ne (by omega) (hRa.lk (by unfold nuS2; omega) cY9)
                have honb : onM wb Y (d, bxc d h i) T := by
                  obtain ⟨⟨_, _, _, _, _, _, _, _, _, _, k1⟩, l2, k2, k3⟩ := hona
                  rw [ewb]
                  exact ⟨⟨_, _, _, _, _, _, _, _, _, _, lk_ne (by omega) k1⟩, l2, lk_ne (by omega) k2, k3⟩
                refine g_aload_n (pc := 186) 5 dX12_looks_186 rfl rfl ?_
                refine g_get (pc := 187) dX12_looks_187 fk_X12_13 cYb rfl ?_
                refine g_iload (pc := 190) 0 dX12_looks_190 rfl ?_
                refine g_bipush (pc := 192) (v := nI 15) dX12_looks_192 (by decide) ?_
                refine n_iadd (pc := 194) dX12_looks_194 ?_
                refine g_aload_n (pc := 195) 5 dX12_looks_195 rfl rfl ?_
                refine g_iload (pc := 196) 1 dX12_looks_196 rfl ?_
                refine g_callV (pc := 198) [.int (nI T)] dX12_looks_198 cv_X12_315.1 cv_X12_315.2.1 cv_X12_315.2.2.1 cv_X12_315.2.2.2 cYb rfl rfl (Nat.le_of_ble_eq_true rfl) (by decide) (by decide) (onM_lowOf _ hMb.o honb hokF hT6 hkT) ?_
                rintro _ wc ⟨lw9, rfl, hlw, hlb, hOc, hRc⟩
                obtain ⟨hMc, hFc⟩ := hMb.nu hRc hOc
                refine g_iast (pc := 201) ((116 + 17 * ia) + 15) dX12_looks_201 (hRc.lk (by unfold nuS2; omega) a2b) (IXn (by omega) (by omega)) ?_
                refine g_aload_n (pc := 202) 5 dX12_looks_202 rfl rfl ?_
                refine g_get (pc := 203) dX12_looks_203 fk_X12_13 (lk_ne (show (Y + 2) ≠ Y by omega) (hRc.lk (by unfold nuS2; omega) cYb)) rfl ?_
                refine g_iload (pc := 206) 0 dX12_looks_206 rfl ?_
                refine g_bipush (pc := 208) (v := nI 16) dX12_looks_208 (by decide) ?_
                refine n_iadd (pc := 210) dX12_looks_210 ?_
                refine g_iload (pc := 211) 1 dX12_looks_211 rfl ?_
                refine g_iast (pc := 213) ((116 + 17 * ia) + 16) dX12_looks_213 (lk_eq (hRc.lk (by unfold nuS2; omega) a2b)) (IXn (by omega) (by omega)) ?_
                refine GP.weq (wc.set (Y + 2) (aI 0 626 (upd (upd (upd cur (116 + 17 * ia + 14) (nI hi9)) ((116 + 17 * ia) + 15) (nI lw9)) ((116 + 17 * ia) + 16) (nI T)))) (by rw [List.set_set]) ?_
                refine g_aload_n (pc := 214) 5 dX12_looks_214 rfl rfl ?_
                refine g_get (pc := 215) dX12_looks_215 fk_X12_13 (lk_ne (show (Y + 2) ≠ Y by omega) (hRc.lk (by unfold nuS2; omega) cYb)) rfl ?_
                refine g_bipush (pc := 218) (v := nI 112) dX12_looks_218 (by decide) ?_
                refine g_dup2 (pc := 220) dX12_looks_220 rfl rfl ?_
                refine g_iald (pc := 221) 112 dX12_looks_221 (lk_eq (hRc.lk (by unfold nuS2; omega) a2b)) (IXn (by omega) (by omega)) ?_
                refine GP.ti (nI ia) (by rw [upd_n (by omega), upd_n (by omega), upd_n (by omega)]; exact hr9.2.1.1) ?_
                refine g_iconst (pc := 222) (v := nI 1) dX12_looks_222 (by decide) ?_
                refine n_iadd (pc := 223) dX12_looks_223 ?_
                refine g_iast (pc := 224) 112 dX12_looks_224 (lk_eq (hRc.lk (by unfold nuS2; omega) a2b)) (IXn (by omega) (by omega)) ?_
                refine GP.weq (wc.set (Y + 2) (aI 0 626 (upd (upd (upd (upd cur (116 + 17 * ia + 14) (nI hi9)) ((116 + 17 * ia) + 15) (nI lw9)) ((116 + 17 * ia) + 16) (nI T)) 112 (nI (ia + 1))))) (by rw [List.set_set]) ?_
                have hrE : rowR (upd (upd (upd (upd cur (116 + 17 * ia + 14) (nI hi9)) (116 + 17 * ia + 15) (nI lw9)) (116 + 17 * ia + 16) (nI T)) 112 (nI (ia + 1))) (S, (d, ia + 1, lk + 1, on, ia + 1, entE d h i T hi9 lw9 ia E)) := by
                  refine row_new hr9 hia30 (fun i hi => by rw [upd_n (by omega), upd_n (by omega), upd_n (by omega), upd_n (by omega)]) upd_s ?_ (fun j hj => ?_) (fun j hj => if_pos hj) (fun p h7 h8 => by rw [entE_p h8]; exact bxc_z h7)
                  · rw [upd_n (by omega), upd_n (by omega), upd_n (by omega), upd_n (by omega), hcur.1 _ (by omega), upd_s]
                  · rw [upd_n (by omega)]
                    by_cases j15 : j = 15
                    · rw [j15, show 116 + 17 * ia + 1 + 15 = 116 + 17 * ia + 16 by omega, upd_s, nI_toInt (by omega)]
                      exact (entE_I (k := ia) (E := E) hhi hlw).2.2.choose_spec.choose_spec.2.2.2.2.symm
                    · rw [upd_n (by omega)]
                      by_cases j14 : j = 14
                      · rw [j14, show 116 + 17 * ia + 1 + 14 = 116 + 17 * ia + 15 by omega, upd_s, nI_toInt (by omega)]
                        unfold entE; rw [if_neg (by omega), if_neg (by omega), if_neg (by omega), if_pos rfl]
                      · rw [upd_n (by omega)]
                        by_cases j13 : j = 13
                        · rw [j13, show 116 + 17 * ia + 1 + 13 = 116 + 17 * ia + 14 by omega, upd_s, nI_toInt (by omega)]
                          unfold entE; rw [if_neg (by omega), if_neg (by omega), if_pos rfl]
                        · rw [upd_n (by omega), hcur.2 j (by omega), entE_p (by omega)]
                          by_cases g : j ≤ d
                          · rw [if_pos g]; exact hbb j g
                          · rw [if_neg g, bxc_z (by omega)]
                have a2c : wc[Y + 2]? = some (aI 0 626 (upd cur (116 + 17 * ia + 14) (nI hi9))) := hRc.lk (by unfold nuS2; omega) a2b
                have e31 : min (ia + 1) 30 = ia + 1 := by omega
                obtain ⟨hMd, hFd⟩ := hMc.row a2c hrE
                exact g_vret (pc := 225) dX12_looks_225 ⟨rfl, ia + 1, on, _, Or.inr ⟨h1, T, htl, Or.inr ⟨hq7, rfl, rfl, Or.inl ⟨hia30, entE_I hhi hlw⟩⟩⟩, by omega, by omega, by rw [e31]; exact hMd, hF70.tr (hF9.tr (hFa.tr (hFb.tr (hFc.tr hFd))))⟩
            · exact absurd hd9 (by decide)
        · ·
            have hR67 := hR6.tr hR7
            obtain ⟨hM7, hF7⟩ := hM5.nu hR67 hW7.o
            have hF70 := hF40.tr (hF5.tr hF7)
            refine n_if_ne (pc := 75) 79 dX12_looks_75 (by decide) (by omega) (fun hd9 => ?_) (fun hd9 => ?_)
            · exact absurd rfl hd9
            · exact g_vret (pc := 78) dX12_looks_78 ⟨rfl, ia, on, E, Or.inr ⟨h1, T, htl, Or.inl ⟨hq7, rfl, rfl, rfl⟩⟩, by omega, by omega, hM7, hF70⟩
      · refine g_iload_n (pc := 52) 2 dX12_looks_52 rfl rfl ?_
        refine g_goto (pc := 53) 60 dX12_looks_53 (by decide) ?_
        refine g_istore (pc := 60) [(4, .int (nI lv)), (0, .ref Y), (1, .int (nI d)), (2, .int (nI lv)), (3, .int (nI v))] dX12_looks_60 (by decide) rfl ?_
        refine g_aload_n (pc := 62) 1 dX12_looks_62 rfl rfl ?_
        refine g_iload (pc := 63) 0 dX12_looks_63 rfl ?_
        have htl : topL (bxc d h i) d lv lv := by have h9 := top_min hTT hlv; rw [show min lv T = lv by omega] at h9; exact h9
        have hkT : lv ≤ T := by omega
        have hS9 : 1000 ^ (2 ^ (lv + 1)) * sqN (lvA l lv) (d + 1) = higS (bxc d h i) d lv := by rw [sqN_cg (d + 1) (fun j hj => lvM_A hl hkT hd (by omega))]; rfl
        refine g_callV (pc := 65) [.int (nI lv)] dX12_looks_65 cv_X12_243.1 cv_X12_243.2.1 cv_X12_243.2.2.1 cv_X12_243.2.2.2 cY5 rfl rfl (Nat.le_of_ble_eq_true rfl) (by decide) (by decide) (mp_laySquares _ cY5 c125 hd (show lv ≤ 6 by omega) hM5.o) ?_
        rintro _ w6 ⟨rfl, hW6, hR6⟩
        rw [hS9] at hW6
        refine g_aload_n (pc := 68) 1 dX12_looks_68 rfl rfl ?_
        refine g_iload (pc := 69) 0 dX12_looks_69 rfl ?_
        refine g_iload_n (pc := 71) 4 dX12_looks_71 rfl rfl ?_
        have hcap : v ^ (2 ^ lv) < 268435456 ^ 45 := Nat.lt_of_le_of_lt (Nat.pow_le_pow_left hv _) (v_cap lv (by omega))
        refine g_callV (pc := 72) [.int (nI lv), .int (nI v)] dX12_looks_72 cv_X12_246.1 cv_X12_246.2.1 cv_X12_246.2.2.1 cv_X12_246.2.2.2 (hR6.lk (by unfold nuS2; omega) cY5) rfl rfl (Nat.le_of_ble_eq_true rfl) (by decide) (by decide) (mp_isHigh _ (hR6.lk (by unfold nuS2; omega) cY5) (show lv ≤ 6 by omega) (show v < 268435456 by omega) hcap hW6) ?_
        rintro _ w7 ⟨(⟨rfl, hq7⟩ | ⟨rfl, hq7⟩), hW7, hR7⟩
        · ·
            have hR67 := hR6.tr hR7
            obtain ⟨hM7, hF7⟩ := hM5.nu hR67 hW7.o
            have hF70 := hF40.tr (hF5.tr hF7)
            obtain ⟨g7, a7, b7⟩ := hM7.2.1.2.1
            obtain ⟨s112, s113, s114, s115⟩ := b7.2.1
            simp only at s112 s113 s114 s115
            have hon7 := hon5.nu hR67
            have c187 := hR67.lk (show ¬ nuS2 Y (Y + 18) by unfold nuS2; omega) c185
            refine n_if_ne (pc := 75) 79 dX12_looks_75 (by decide) (by omega) (fun hd9 => ?_) (fun hd9 => ?_)
            · refine g_aload_n (pc := 79) 1 dX12_looks_79 rfl rfl ?_
              refine g_get (pc := 80) dX12_looks_80 fk_X12_13 (hR67.lk (by unfold nuS2; omega) cY5) rfl ?_
              refine g_bipush (pc := 83) (v := nI 113) dX12_looks_83 (by decide) ?_
              refine g_dup2 (pc := 85) dX12_looks_85 rfl rfl ?_
              refine g_iald (pc := 86) 113 dX12_looks_86 a7 (IXn (by omega) (by omega)) ?_
              refine GP.ti (nI ia) s113 ?_
              refine g_iconst (pc := 87) (v := nI 1) dX12_looks_87 (by decide) ?_
              refine n_iadd (pc := 88) dX12_looks_88 ?_
              refine g_iast (pc := 89) 113 dX12_looks_89 a7 (IXn (by omega) (by omega)) ?_
              refine g_aload_n (pc := 90) 1 dX12_looks_90 rfl rfl ?_
              refine g_get (pc := 91) dX12_looks_91 fk_X12_13 (lk_ne (show (Y + 2) ≠ Y by omega) (hR67.lk (by unfold nuS2; omega) cY5)) rfl ?_
              refine g_bipush (pc := 94) (v := nI 112) dX12_looks_94 (by decide) ?_
              refine g_iald (pc := 96) 112 dX12_looks_96 (lk_eq a7) (IXn (by omega) (by omega)) ?_
              refine GP.ti (nI (min ia 30)) (by rw [upd_n (by decide)]; exact s112) ?_
              refine g_bipush (pc := 97) (v := nI 30) dX12_looks_97 (by decide) ?_
              refine n_icmp_ge (pc := 99) 225 dX12_looks_99 (by decide) (by omega) (by omega) (fun h30 => ?_) (fun h30 => ?_)
              · have hr8 : rowR (upd g7 113 (nI (ia + 1))) (S, (d, ia + 1, lk + 1, on, min ia 30, E)) := row_cnt b7 (fun i hi => upd_n (by omega)) (by rw [upd_n (by decide)]; exact s112) upd_s (by rw [upd_n (by decide)]; exact s114) (by rw [upd_n (by decide)]; exact s115) (by omega) (by omega) (by omega)
                have e30 : min ia 30 = min (ia + 1) 30 := by omega
                obtain ⟨hM8, hF8⟩ := hM7.row a7 (e30 ▸ hr8)
                exact g_vret (pc := 225) dX12_looks_225 ⟨rfl, ia + 1, on, E, Or.inr ⟨h1, lv, htl, Or.inr ⟨hq7, rfl, rfl, Or.inr ⟨by omega, rfl⟩⟩⟩, by omega, by omega, hM8, hF70.tr hF8⟩
              · have hr8 : rowR (upd g7 113 (nI (ia + 1))) (S, (d, ia + 1, lk + 1, on, min ia 30, E)) := row_cnt b7 (fun i hi => upd_n (by omega)) (by rw [upd_n (by decide)]; exact s112) upd_s (by rw [upd_n (by decide)]; exact s114) (by rw [upd_n (by decide)]; exact s115) (by omega) (by omega) (by omega)
                have e30 : min ia 30 = ia := by omega
                rw [e30] at hr8
                have hia30 : ia < 30 := by omega
                refine g_bipush (pc := 102) (v := nI 116) dX12_looks_102 (by decide) ?_
                refine g_bipush (pc := 104) (v := nI 17) dX12_looks_104 (by decide) ?_
                refine g_aload_n (pc := 106) 1 dX12_looks_106 rfl rfl ?_
                refine g_get (pc := 107) dX12_looks_107 fk_X12_13 (lk_ne (show (Y + 2) ≠ Y by omega) (hR67.lk (by unfold nuS2; omega) cY5)) rfl ?_
                refine g_bipush (pc := 110) (v := nI 112) dX12_looks_110 (by decide) ?_
                refine g_iald (pc := 112) 112 dX12_looks_112 (lk_eq a7) (IXn (by omega) (by omega)) ?_
                refine GP.ti (nI ia) (by rw [upd_n (by decide), s112, e30]) ?_
                refine n_imul (pc := 113) dX12_looks_113 ?_
                refine n_iadd (pc := 114) dX12_looks_114 ?_
                refine g_istore (pc := 115) [(5, .int (nI (116 + (17 * ia)))), (4, .int (nI lv)), (0, .ref Y), (1, .int (nI d)), (2, .int (nI lv)), (3, .int (nI v))] dX12_looks_115 (by decide) rfl ?_
                refine g_aload_n (pc := 117) 2 dX12_looks_117 rfl rfl ?_
                refine g_get (pc := 118) dX12_looks_118 fk_X12_13 (lk_ne (show (Y + 2) ≠ Y by omega) (hR67.lk (by unfold nuS2; omega) cY5)) rfl ?_
                refine g_iload (pc := 121) 0 dX12_looks_121 rfl ?_
                refine g_iload_n (pc := 123) 3 dX12_looks_123 rfl rfl ?_
                refine g_iast (pc := 124) (116 + (17 * ia)) dX12_looks_124 (lk_eq a7) (IXn (by omega) (by omega)) ?_
                refine GP.weq (w7.set (Y + 2) (aI 0 626 (upd (upd g7 113 (nI (ia + 1))) (116 + (17 * ia)) (nI d)))) (by rw [List.set_set]) ?_
                refine g_iconst (pc := 125) (v := nI 0) dX12_looks_125 (by decide) ?_
                refine g_istore (pc := 126) [(6, .int (nI 0)), (5, .int (nI (116 + (17 * ia)))), (4, .int (nI lv)), (0, .ref Y), (1, .int (nI d)), (2, .int (nI lv)), (3, .int (nI v))] dX12_looks_126 (by decide) rfl ?_
                obtain ⟨w8, e8⟩ : ∃ wy : Wd, wy = w7.set (Y + 2) (aI 0 626 (upd (upd g7 113 (nI (ia + 1))) (116 + 17 * ia) (nI d))) := ⟨_, rfl⟩
                refine GP.weq w8 e8.symm ?_
                have a28 : w8[Y + 2]? = some (aI 0 626 (upd (upd g7 113 (nI (ia + 1))) (116 + 17 * ia) (nI d))) := by rw [e8]; exact lk_eq a7
                have cY8 : w8[Y]? = some (.inr (11, .int thC :: .int st :: .ref (Y + 1) :: .ref (Y + 2) :: .ref (Y + 3) :: .ref (Y + 4) :: .int (nI pn) :: .ref (Y + 5) :: .ref (Y + 6) :: .ref (Y + 7) :: .int (nI d) :: .ref (Y + 8) :: .int ddC :: .ref (Y + 9) :: .ref (Y + 10) :: .ref (Y + 11) :: .ref (Y + 12) :: .int (nI d) :: .int (nI T) :: .int (nI bb) :: .ref (Y + 13) :: .ref (Y + 14) :: .ref (Y + 15) :: .ref (Y + 16) :: .ref (Y + 17) :: .int (nI tl) :: .int fa :: .int reC :: .int igC :: .ref (Y + 18) :: .ref (Y + 19) :: .ref (Y + 20) :: .ref (Y + 21) :: [])) := by rw [e8]; exact lk_ne (by omega) (hR67.lk (by unfold nuS2; omega) cY5)
                have c188 : w8[Y + 18]? = some (aI 0 13 b) := by rw [e8]; exact lk_ne (by omega) c187
                refine GP.weq (w8.set (Y + 2) (aI 0 626 (upd (upd g7 113 (nI (ia + 1))) (116 + 17 * ia) (nI d)))) (set_same a28).symm ?_
                refine GP.lsub _ (by simp) (lk_row (kk := lv) (v := v) (lv := lv) cY8 a28 c188 hd hia30 (fun cur hcur => ?_) 13 0 _ (by omega) ⟨fun i hi => rfl, fun t ht => absurd ht (by omega)⟩)
                have hcu : ∀ i, i < 116 + 17 * ia → cur i = (upd g7 113 (nI (ia + 1))) i := fun i hi => by rw [hcur.1 i (by omega), upd_n (by omega)]
                have hr9 : rowR cur (S, (d, ia + 1, lk + 1, on, ia, E)) := row_cnt hr8 (fun i hi => hcu i (by omega)) (by rw [hcu 112 (by omega)]; exact hr8.2.1.1) (by rw [hcu 113 (by omega)]; exact hr8.2.1.2.1) (by rw [hcu 114 (by omega)]; exact hr8.2.1.2.2.1) (by rw [hcu 115 (by omega)]; exact hr8.2.1.2.2.2) (by omega) (by omega) (by omega)
                obtain ⟨w9, e9w⟩ : ∃ wy : Wd, wy = w8.set (Y + 2) (aI 0 626 cur) := ⟨_, rfl⟩
                refine GP.weq w9 e9w.symm ?_
                have e9x : w9 = w7.set (Y + 2) (aI 0 626 cur) := by rw [e9w, e8, List.set_set]
                obtain ⟨hM9, hF9⟩ : mdC w9 Y tl tb fa st rf (S, (d, ia + 1, lk + 1, on, ia, E)) pn pk ps im ∧ FR (modS Y) w7 w9 := by rw [e9x]; exact hM7.row a7 hr9
                have a29 : w9[Y + 2]? = some (aI 0 626 cur) := by rw [e9w]; exact lk_eq a28
                have cY9 : w9[Y]? = some (.inr (11, .int thC :: .int st :: .ref (Y + 1) :: .ref (Y + 2) :: .ref (Y + 3) :: .ref (Y + 4) :: .int (nI pn) :: .ref (Y + 5) :: .ref (Y + 6) :: .ref (Y + 7) :: .int (nI d) :: .ref (Y + 8) :: .int ddC :: .ref (Y + 9) :: .ref (Y + 10) :: .ref (Y + 11) :: .ref (Y + 12) :: .int (nI d) :: .int (nI T) :: .int (nI bb) :: .ref (Y + 13) :: .ref (Y + 14) :: .ref (Y + 15) :: .ref (Y + 16) :: .ref (Y + 17) :: .int (nI tl) :: .int fa :: .int reC :: .int igC :: .ref (Y + 18) :: .ref (Y + 19) :: .ref (Y + 20) :: .ref (Y + 21) :: [])) := by rw [e9w]; exact lk_ne (by omega) cY8
                have hon9 : onM w9 Y (d, bxc d h i) T := by
                  obtain ⟨⟨_, _, _, _, _, _, _, _, _, _, k1⟩, l2, k2, k3⟩ := hon7
                  rw [e9x]
                  exact ⟨⟨_, _, _, _, _, _, _, _, _, _, lk_ne (by omega) k1⟩, l2, lk_ne (by omega) k2, k3⟩
                refine g_aload_n (pc := 170) 5 dX12_looks_170 rfl rfl ?_
                refine g_get (pc := 171) dX12_looks_171 fk_X12_13 cY9 rfl ?_
                refine g_iload (pc := 174) 0 dX12_looks_174 rfl ?_
                refine g_bipush (pc := 176) (v := nI 14) dX12_looks_176 (by decide) ?_
                refine n_iadd (pc := 178) dX12_looks_178 ?_
                refine g_aload_n (pc := 179) 5 dX12_looks_179 rfl rfl ?_
                refine g_iload (pc := 180) 1 dX12_looks_180 rfl ?_
                refine g_callV (pc := 182) [.int (nI lv)] dX12_looks_182 cv_X12_312.1 cv_X12_312.2.1 cv_X12_312.2.2.1 cv_X12_312.2.2.2 cY9 rfl rfl (Nat.le_of_ble_eq_true rfl) (by decide) (by decide) (onM_highOf _ hM9.o hon9 hokF hT6 hkT) ?_
                rintro _ wa ⟨hi9, rfl, hhi, hhb, hOa, hRa⟩
                obtain ⟨hMa, hFa⟩ := hM9.nu hRa hOa
                have hona := hon9.nu hRa
                refine g_iast (pc := 185) ((116 + 17 * ia) + 14) dX12_looks_185 (hRa.lk (by unfold nuS2; omega) a29) (IXn (by omega) (by omega)) ?_
                have hr10 : rowR (upd cur (116 + 17 * ia + 14) (nI hi9)) (S, (d, ia + 1, lk + 1, on, ia, E)) := row_cnt hr9 (fun i hi => upd_n (by omega)) (by rw [upd_n (by omega)]; exact hr9.2.1.1) (by rw [upd_n (by omega)]; exact hr9.2.1.2.1) (by rw [upd_n (by omega)]; exact hr9.2.1.2.2.1) (by rw [upd_n (by omega)]; exact hr9.2.1.2.2.2) (by omega) (by omega) (by omega)
                obtain ⟨wb, ewb⟩ : ∃ wy : Wd, wy = wa.set (Y + 2) (aI 0 626 (upd cur (116 + 17 * ia + 14) (nI hi9))) := ⟨_, rfl⟩
                refine GP.weq wb ewb.symm ?_
                have a2a : wa[Y + 2]? = some (aI 0 626 cur) := (hRa.lk (by unfold nuS2; omega) a29)
                obtain ⟨hMb, hFb⟩ : mdC wb Y tl tb fa st rf (S, (d, ia + 1, lk + 1, on, ia, E)) pn pk ps im ∧ FR (modS Y) wa wb := by rw [ewb]; exact hMa.row a2a hr10
                have a2b : wb[Y + 2]? = some (aI 0 626 (upd cur (116 + 17 * ia + 14) (nI hi9))) := by rw [ewb]; exact lk_eq a2a
                have cYb : wb[Y]? = some (.inr (11, .int thC :: .int st :: .ref (Y + 1) :: .ref (Y + 2) :: .ref (Y + 3) :: .ref (Y + 4) :: .int (nI pn) :: .ref (Y + 5) :: .ref (Y + 6) :: .ref (Y + 7) :: .int (nI d) :: .ref (Y + 8) :: .int ddC :: .ref (Y + 9) :: .ref (Y + 10) :: .ref (Y + 11) :: .ref (Y + 12) :: .int (nI d) :: .int (nI T) :: .int (nI bb) :: .ref (Y + 13) :: .ref (Y + 14) :: .ref (Y + 15) :: .ref (Y + 16) :: .ref (Y + 17) :: .int (nI tl) :: .int fa :: .int reC :: .int igC :: .ref (Y + 18) :: .ref (Y + 19) :: .ref (Y + 20) :: .ref (Y + 21) :: [])) := by rw [ewb]; exact lk_ne (by omega) (hRa.lk (by unfold nuS2; omega) cY9)
                have honb : onM wb Y (d, bxc d h i) T := by
                  obtain ⟨⟨_, _, _, _, _, _, _, _, _, _, k1⟩, l2, k2, k3⟩ := hona
                  rw [ewb]
                  exact ⟨⟨_, _, _, _, _, _, _, _, _, _, lk_ne (by omega) k1⟩, l2, lk_ne (by omega) k2, k3⟩
                refine g_aload_n (pc := 186) 5 dX12_looks_186 rfl rfl ?_
                refine g_get (pc := 187) dX12_looks_187 fk_X12_13 cYb rfl ?_
                refine g_iload (pc := 190) 0 dX12_looks_190 rfl ?_
                refine g_bipush (pc := 192) (v := nI 15) dX12_looks_192 (by decide) ?_
                refine n_iadd (pc := 194) dX12_looks_194 ?_
                refine g_aload_n (pc := 195) 5 dX12_looks_195 rfl rfl ?_
                refine g_iload (pc := 196) 1 dX12_looks_196 rfl ?_
                refine g_callV (pc := 198) [.int (nI lv)] dX12_looks_198 cv_X12_315.1 cv_X12_315.2.1 cv_X12_315.2.2.1 cv_X12_315.2.2.2 cYb rfl rfl (Nat.le_of_ble_eq_true rfl) (by decide) (by decide) (onM_lowOf _ hMb.o honb hokF hT6 hkT) ?_
                rintro _ wc ⟨lw9, rfl, hlw, hlb, hOc, hRc⟩
                obtain ⟨hMc, hFc⟩ := hMb.nu hRc hOc
                refine g_iast (pc := 201) ((116 + 17 * ia) + 15) dX12_looks_201 (hRc.lk (by unfold nuS2; omega) a2b) (IXn (by omega) (by omega)) ?_
                refine g_aload_n (pc := 202) 5 dX12_looks_202 rfl rfl ?_
                refine g_get (pc := 203) dX12_looks_203 fk_X12_13 (lk_ne (show (Y + 2) ≠ Y by omega) (hRc.lk (by unfold nuS2; omega) cYb)) rfl ?_
                refine g_iload (pc := 206) 0 dX12_looks_206 rfl ?_
                refine g_bipush (pc := 208) (v := nI 16) dX12_looks_208 (by decide) ?_
                refine n_iadd (pc := 210) dX12_looks_210 ?_
                refine g_iload (pc := 211) 1 dX12_looks_211 rfl ?_
                refine g_iast (pc := 213) ((116 + 17 * ia) + 16) dX12_looks_213 (lk_eq (hRc.lk (by unfold nuS2; omega) a2b)) (IXn (by omega) (by omega)) ?_
                refine GP.weq (wc.set (Y + 2) (aI 0 626 (upd (upd (upd cur (116 + 17 * ia + 14) (nI hi9)) ((116 + 17 * ia) + 15) (nI lw9)) ((116 + 17 * ia) + 16) (nI lv)))) (by rw [List.set_set]) ?_
                refine g_aload_n (pc := 214) 5 dX12_looks_214 rfl rfl ?_
                refine g_get (pc := 215) dX12_looks_215 fk_X12_13 (lk_ne (show (Y + 2) ≠ Y by omega) (hRc.lk (by unfold nuS2; omega) cYb)) rfl ?_
                refine g_bipush (pc := 218) (v := nI 112) dX12_looks_218 (by decide) ?_
                refine g_dup2 (pc := 220) dX12_looks_220 rfl rfl ?_
                refine g_iald (pc := 221) 112 dX12_looks_221 (lk_eq (hRc.lk (by unfold nuS2; omega) a2b)) (IXn (by omega) (by omega)) ?_
                refine GP.ti (nI ia) (by rw [upd_n (by omega), upd_n (by omega), upd_n (by omega)]; exact hr9.2.1.1) ?_
                refine g_iconst (pc := 222) (v := nI 1) dX12_looks_222 (by decide) ?_
                refine n_iadd (pc := 223) dX12_looks_223 ?_
                refine g_iast (pc := 224) 112 dX12_looks_224 (lk_eq (hRc.lk (by unfold nuS2; omega) a2b)) (IXn (by omega) (by omega)) ?_
                refine GP.weq (wc.set (Y + 2) (aI 0 626 (upd (upd (upd (upd cur (116 + 17 * ia + 14) (nI hi9)) ((116 + 17 * ia) + 15) (nI lw9)) ((116 + 17 * ia) + 16) (nI lv)) 112 (nI (ia + 1))))) (by rw [List.set_set]) ?_
                have hrE : rowR (upd (upd (upd (upd cur (116 + 17 * ia + 14) (nI hi9)) (116 + 17 * ia + 15) (nI lw9)) (116 + 17 * ia + 16) (nI lv)) 112 (nI (ia + 1))) (S, (d, ia + 1, lk + 1, on, ia + 1, entE d h i lv hi9 lw9 ia E)) := by
                  refine row_new hr9 hia30 (fun i hi => by rw [upd_n (by omega), upd_n (by omega), upd_n (by omega), upd_n (by omega)]) upd_s ?_ (fun j hj => ?_) (fun j hj => if_pos hj) (fun p h7 h8 => by rw [entE_p h8]; exact bxc_z h7)
                  · rw [upd_n (by omega), upd_n (by omega), upd_n (by omega), upd_n (by omega), hcur.1 _ (by omega), upd_s]
                  · rw [upd_n (by omega)]
                    by_cases j15 : j = 15
                    · rw [j15, show 116 + 17 * ia + 1 + 15 = 116 + 17 * ia + 16 by omega, upd_s, nI_toInt (by omega)]
                      exact (entE_I (k := ia) (E := E) hhi hlw).2.2.choose_spec.choose_spec.2.2.2.2.symm
                    · rw [upd_n (by omega)]
                      by_cases j14 : j = 14
                      · rw [j14, show 116 + 17 * ia + 1 + 14 = 116 + 17 * ia + 15 by omega, upd_s, nI_toInt (by omega)]
                        unfold entE; rw [if_neg (by omega), if_neg (by omega), if_neg (by omega), if_pos rfl]
                      · rw [upd_n (by omega)]
                        by_cases j13 : j = 13
                        · rw [j13, show 116 + 17 * ia + 1 + 13 = 116 + 17 * ia + 14 by omega, upd_s, nI_toInt (by omega)]
                          unfold entE; rw [if_neg (by omega), if_neg (by omega), if_pos rfl]
                        · rw [upd_n (by omega), hcur.2 j (by omega), entE_p (by omega)]
                          by_cases g : j ≤ d
                          · rw [if_pos g]; exact hbb j g
                          · rw [if_neg g, bxc_z (by omega)]
                have a2c : wc[Y + 2]? = some (aI 0 626 (upd cur (116 + 17 * ia + 14) (nI hi9))) := hRc.lk (by unfold nuS2; omega) a2b
                have e31 : min (ia + 1) 30 = ia + 1 := by omega
                obtain ⟨hMd, hFd⟩ := hMc.row a2c hrE
                exact g_vret (pc := 225) dX12_looks_225 ⟨rfl, ia + 1, on, _, Or.inr ⟨h1, lv, htl, Or.inr ⟨hq7, rfl, rfl, Or.inl ⟨hia30, entE_I hhi hlw⟩⟩⟩, by omega, by omega, by rw [e31]; exact hMd, hF70.tr (hF9.tr (hFa.tr (hFb.tr (hFc.tr hFd))))⟩
            · exact absurd hd9 (by decide)
        · ·
            have hR67 := hR6.tr hR7
            obtain ⟨hM7, hF7⟩ := hM5.nu hR67 hW7.o
            have hF70 := hF40.tr (hF5.tr hF7)
            refine n_if_ne (pc := 75) 79 dX12_looks_75 (by decide) (by omega) (fun hd9 => ?_) (fun hd9 => ?_)
            · exact absurd rfl hd9
            · exact g_vret (pc := 78) dX12_looks_78 ⟨rfl, ia, on, E, Or.inr ⟨h1, lv, htl, Or.inl ⟨hq7, rfl, rfl, rfl⟩⟩, by omega, by omega, hM7, hF70⟩
    · exact absurd rfl hd9
