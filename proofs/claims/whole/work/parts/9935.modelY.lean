/-! the reference: layBox, takeBox -/
theorem mdC.row {w : Wd} {Y tl : Nat} {tb : Nat → Int32} {fa st : Int32} {rf : Nat → Nat} {sh : SV} {pn : Nat} {pk : Nat → Nat} {ps : Nat → SV} {im : Nat → Option SV} (hM : mdC w Y tl tb fa st rf sh pn pk ps im) {g g' : Nat → Int32} {sh' : SV} (h2 : w[Y + 2]? = some (aI 0 626 g)) (hR : rowR g' sh') : mdC (w.set (Y + 2) (aI 0 626 g')) Y tl tb fa st rf sh' pn pk ps im ∧ FR (modS Y) w (w.set (Y + 2) (aI 0 626 g')) := by
  have L : ∀ i c, i ≠ 2 → w[Y + i]? = some c → (w.set (Y + 2) (aI 0 626 g'))[Y + i]? = some c := fun i c h hc => lk_ne (by omega) hc
  refine ⟨?_, FR.set h2 rfl (by unfold modS; omega)⟩
  obtain ⟨⟨th, dg, dd, ld, be, ib, re, ig, hY⟩, ⟨⟨g1, a1, b1⟩, -, ⟨g3, g4, a3, a4, b3, b4⟩, ⟨g5, g6, a5, a6, b5⟩, ⟨g11, a11, b11⟩, ⟨g17, a17, b17⟩⟩, ⟨g7, g8, g9, g10, g12, g13, g14, g18, g19, g20, g21, a7, a8, a9, a10, a12, a13, a14, a18, a19, a20, a21⟩, ⟨g15, g16, a15, a16, b15⟩⟩ := hM
  exact ⟨⟨_, _, _, _, _, _, _, _, L 0 _ (by omega) hY⟩, ⟨⟨g1, L 1 _ (by omega) a1, b1⟩, ⟨g', lk_eq h2, hR⟩, ⟨g3, g4, L 3 _ (by omega) a3, L 4 _ (by omega) a4, b3, b4⟩, ⟨g5, g6, L 5 _ (by omega) a5, L 6 _ (by omega) a6, b5⟩, ⟨g11, L 11 _ (by omega) a11, b11⟩, ⟨g17, L 17 _ (by omega) a17, b17⟩⟩, ⟨_, _, _, _, _, _, _, g18, g19, g20, g21, L 7 _ (by omega) a7, L 8 _ (by omega) a8, L 9 _ (by omega) a9, L 10 _ (by omega) a10, L 12 _ (by omega) a12, L 13 _ (by omega) a13, L 14 _ (by omega) a14, L 18 _ (by omega) a18, L 19 _ (by omega) a19, L 20 _ (by omega) a20, L 21 _ (by omega) a21⟩, ⟨g15, g16, L 15 _ (by omega) a15, L 16 _ (by omega) a16, b15⟩⟩
theorem mdC.bx {w : Wd} {Y tl : Nat} {tb : Nat → Int32} {fa st : Int32} {rf : Nat → Nat} {sh : SV} {pn : Nat} {pk : Nat → Nat} {ps : Nat → SV} {im : Nat → Option SV} (hM : mdC w Y tl tb fa st rf sh pn pk ps im) {b b' : Nat → Int32} (h2 : w[Y + 18]? = some (aI 0 13 b)) : mdC (w.set (Y + 18) (aI 0 13 b')) Y tl tb fa st rf sh pn pk ps im ∧ FR (modS Y) w (w.set (Y + 18) (aI 0 13 b')) := by
  have L : ∀ i c, i ≠ 18 → w[Y + i]? = some c → (w.set (Y + 18) (aI 0 13 b'))[Y + i]? = some c := fun i c h hc => lk_ne (by omega) hc
  refine ⟨?_, FR.set h2 rfl (by unfold modS; omega)⟩
  obtain ⟨⟨th, dg, dd, ld, be, ib, re, ig, hY⟩, ⟨⟨g1, a1, b1⟩, ⟨g2, a2, b2⟩, ⟨g3, g4, a3, a4, b3, b4⟩, ⟨g5, g6, a5, a6, b5⟩, ⟨g11, a11, b11⟩, ⟨g17, a17, b17⟩⟩, ⟨g7, g8, g9, g10, g12, g13, g14, g18, g19, g20, g21, a7, a8, a9, a10, a12, a13, a14, a18, a19, a20, a21⟩, ⟨g15, g16, a15, a16, b15⟩⟩ := hM
  exact ⟨⟨_, _, _, _, _, _, _, _, L 0 _ (by omega) hY⟩, ⟨⟨g1, L 1 _ (by omega) a1, b1⟩, ⟨g2, L 2 _ (by omega) a2, b2⟩, ⟨g3, g4, L 3 _ (by omega) a3, L 4 _ (by omega) a4, b3, b4⟩, ⟨g5, g6, L 5 _ (by omega) a5, L 6 _ (by omega) a6, b5⟩, ⟨g11, L 11 _ (by omega) a11, b11⟩, ⟨g17, L 17 _ (by omega) a17, b17⟩⟩, ⟨_, _, _, _, _, _, _, _, g19, g20, g21, L 7 _ (by omega) a7, L 8 _ (by omega) a8, L 9 _ (by omega) a9, L 10 _ (by omega) a10, L 12 _ (by omega) a12, L 13 _ (by omega) a13, L 14 _ (by omega) a14, lk_eq h2, L 19 _ (by omega) a19, L 20 _ (by omega) a20, L 21 _ (by omega) a21⟩, ⟨g15, g16, L 15 _ (by omega) a15, L 16 _ (by omega) a16, b15⟩⟩
theorem bxc_m {d h n p : Nat} (h0 : 0 < p) (h1 : p < d) : bxc d h n p = (n / (2 * h + 1) ^ (d / 2 - min p (d - p)) % (2 * h + 1) : Nat) - (h : Int) := by
  unfold bxc
  rw [if_neg (by omega), if_neg (by omega)]
  rfl
theorem bxc_e {d h n p : Nat} (h0 : p = 0 ∨ p = d) : bxc d h n p = 1 := by
  unfold bxc
  rw [if_neg (by omega), if_pos h0]
theorem bxc_3 {d h i p : Nat} (hh : h ≤ 3) : -9999 ≤ bxc d h i p ∧ bxc d h i p ≤ 9999 := by
  unfold bxc
  split
  · omega
  · split
    · omega
    · have := dgt_lt (B := 2 * h + 1) (k := d / 2 - min p (d - p)) (i := i) (by omega)
      omega
theorem bxc_z {d h i p : Nat} (hp : d < p) : bxc d h i p = 0 := by
  unfold bxc
  rw [if_pos hp]
theorem bxc_ok {d h i : Nat} (hd : d ≤ 12) (hh : h ≤ 3) : okP (d, bxc d h i) := ⟨hd, fun j _ => bxc_3 hh, by show bxc d h i d ≠ 0; rw [bxc_e (Or.inr rfl)]; decide, fun j hj => bxc_z hj⟩
abbrev BX12_layBox (w0 : Wd) (Post : Option Value → Wd → Prop) (w : Wd) (pc : Nat) (ls : List (Nat × Value)) (st : List Value) : Prop := GP "layBox" RX12 cX12_layBox 6 none 0 0 none w0 Post w pc ls st
abbrev EX12_layBox (As : List Value) (w : Wd) (Post : Option Value → Wd → Prop) : Prop := EP yX12_layBox cX12_layBox 6 none 0 As w Post
theorem lb_box {w0 w : Wd} {Y n d h : Nat} {th st nu dg dd ld be ib ta fa re ig : Int32} {b : Nat → Int32} (hY : w[Y]? = some (oM Y th st nu dg dd ld be ib ta fa re ig)) (h18 : w[Y + 18]? = some (aI 0 13 b)) (hd : d ≤ 12) (hde : d % 2 = 0) (hh : h ≤ 3) (hn : n ≤ 3125) : ∀ (p lf : Nat) (cur : Nat → Int32), p ≤ d / 2 → lf = n / (2 * h + 1) ^ (d / 2 - p) → (∀ t, t ≤ d → (t = 0 ∨ t = d ∨ p < min t (d - t)) → (cur t).toInt = bxc d h n t) → BX12_layBox w0 (fun r w' => r = none ∧ ∃ b' : Nat → Int32, (∀ t, t ≤ d → (b' t).toInt = bxc d h n t) ∧ w' = w.set (Y + 18) (aI 0 13 b')) (w.set (Y + 18) (aI 0 13 cur)) 22 [(5, .int (nI p)), (4, .int (nI lf)), (3, .int (nI h)), (2, .int (nI d)), (1, .int (nI n)), (0, .ref Y)] [] := by
  intro p
  induction p with
  | zero =>
    intro lf cur hp hl hc
    refine g_iload (pc := 22) 0 dX12_layBox_22 rfl ?_
    refine n_if_le (pc := 24) 76 dX12_layBox_24 (by decide) (by omega) (fun hb9 => ?_) (fun hb9 => ?_)
    · exact g_vret (pc := 76) dX12_layBox_76 ⟨rfl, cur, fun t ht => hc t ht (by omega), rfl⟩
    · exact absurd rfl hb9
  | succ p ih =>
    intro lf cur hp hl hc
    have hlf : lf ≤ 3125 := by rw [hl]; exact Nat.le_trans (Nat.div_le_self _ _) hn
    have hmd : lf % (2 * h + 1) < 2 * h + 1 := Nat.mod_lt _ (by omega)
    obtain ⟨md, hme⟩ : ∃ md, md = lf % (2 * h + 1) := ⟨_, rfl⟩
    rw [← hme] at hmd
    have e1 : (nI md).toInt = md := nI_toInt (by omega)
    have e2 : (nI h).toInt = h := nI_toInt (by omega)
    have e3 : (nI md - nI h).toInt = (md : Int) - h := by rw [I_sub (by omega) (by omega), e1, e2]
    have hnext : lf / (2 * h + 1) = n / (2 * h + 1) ^ (d / 2 - p) := by rw [hl, Nat.div_div_eq_div_mul, ← Nat.pow_succ, show (d / 2 - (p + 1)).succ = d / 2 - p by omega]
    have hval : ∀ t, (t = p + 1 ∨ t = d - (p + 1)) → bxc d h n t = (md : Int) - h := fun t ht => by
      rw [bxc_m (by omega) (by omega), show min t (d - t) = p + 1 by omega, ← hl, ← hme]
    refine g_iload (pc := 22) 0 dX12_layBox_22 rfl ?_
    refine n_if_le (pc := 24) 76 dX12_layBox_24 (by decide) (by omega) (fun hb9 => ?_) (fun hb9 => ?_)
    · exact absurd hb9 (by omega)
    · refine g_aload_n (pc := 27) 5 dX12_layBox_27 rfl rfl ?_
      refine g_get (pc := 28) dX12_layBox_28 fk_X12_68 (lk_ne (show (Y + 18) ≠ Y by omega) hY) rfl ?_
      refine g_iload (pc := 31) 0 dX12_layBox_31 rfl ?_
      refine g_iload (pc := 33) 1 dX12_layBox_33 rfl ?_
      refine g_iconst (pc := 35) (v := nI 2) dX12_layBox_35 (by decide) ?_
      refine g_iload_n (pc := 36) 2 dX12_layBox_36 rfl rfl ?_
      refine n_imul (pc := 37) dX12_layBox_37 ?_
      refine g_iconst (pc := 38) (v := nI 1) dX12_layBox_38 (by decide) ?_
      refine n_iadd (pc := 39) dX12_layBox_39 ?_
      refine n_irem (pc := 40) dX12_layBox_40 (by omega) (by omega) (by omega) ?_
      refine GP.ti (nI md) (by rw [hme]) ?_
      refine g_iload_n (pc := 41) 2 dX12_layBox_41 rfl rfl ?_
      refine g_isub (pc := 42) dX12_layBox_42 ?_
      refine g_iast (pc := 43) (p + 1) dX12_layBox_43 (lk_eq h18) (IXn (by omega) (by omega)) ?_
      refine GP.weq (w.set (Y + 18) (aI 0 13 (upd cur (p + 1) ((nI md) - (nI h))))) (by rw [List.set_set]) ?_
      refine g_aload_n (pc := 44) 5 dX12_layBox_44 rfl rfl ?_
      refine g_get (pc := 45) dX12_layBox_45 fk_X12_68 (lk_ne (show (Y + 18) ≠ Y by omega) hY) rfl ?_
      refine g_iload_n (pc := 48) 3 dX12_layBox_48 rfl rfl ?_
      refine g_iload (pc := 49) 0 dX12_layBox_49 rfl ?_
      refine n_isub (pc := 51) dX12_layBox_51 (by omega) ?_
      refine g_aload_n (pc := 52) 5 dX12_layBox_52 rfl rfl ?_
      refine g_get (pc := 53) dX12_layBox_53 fk_X12_68 (lk_ne (show (Y + 18) ≠ Y by omega) hY) rfl ?_
      refine g_iload (pc := 56) 0 dX12_layBox_56 rfl ?_
      refine g_iald (pc := 58) (p + 1) dX12_layBox_58 (lk_eq h18) (IXn (by omega) (by omega)) ?_
      refine g_iast (pc := 59) (d - (p + 1)) dX12_layBox_59 (lk_eq h18) (IXn (by omega) (by omega)) ?_
      refine GP.weq (w.set (Y + 18) (aI 0 13 (upd (upd cur (p + 1) ((nI md) - (nI h))) (d - (p + 1)) ((upd cur (p + 1) ((nI md) - (nI h))) (p + 1))))) (by rw [List.set_set]) ?_
      refine g_iload (pc := 60) 1 dX12_layBox_60 rfl ?_
      refine g_iconst (pc := 62) (v := nI 2) dX12_layBox_62 (by decide) ?_
      refine g_iload_n (pc := 63) 2 dX12_layBox_63 rfl rfl ?_
      refine n_imul (pc := 64) dX12_layBox_64 ?_
      refine g_iconst (pc := 65) (v := nI 1) dX12_layBox_65 (by decide) ?_
      refine n_iadd (pc := 66) dX12_layBox_66 ?_
      refine n_idiv (pc := 67) dX12_layBox_67 (by omega) (by omega) (by omega) ?_
      refine g_istore (pc := 68) [(4, .int (nI (lf / ((2 * h) + 1)))), (5, .int (nI (p + 1))), (3, .int (nI h)), (2, .int (nI d)), (1, .int (nI n)), (0, .ref Y)] dX12_layBox_68 (by decide) rfl ?_
      refine n_idec (pc := 70) (c := 1) [(5, .int (nI ((p + 1) - 1))), (4, .int (nI (lf / ((2 * h) + 1)))), (3, .int (nI h)), (2, .int (nI d)), (1, .int (nI n)), (0, .ref Y)] 1 dX12_layBox_70 rfl (by decide) (by omega) (by decide) rfl ?_
      refine g_goto (pc := 73) 22 dX12_layBox_73 (by decide) ?_
      rw [hnext]
      refine GP.lsub _ (by simp) (ih (n / (2 * h + 1) ^ (d / 2 - p)) _ (by omega) rfl (fun t ht hq => ?_))
      by_cases g1 : t = d - (p + 1)
      · rw [g1, upd_s, upd_s, e3, hval _ (Or.inr rfl)]
      · rw [upd_n g1]
        by_cases g2 : t = p + 1
        · rw [g2, upd_s, e3, hval _ (Or.inl rfl)]
        · rw [upd_n g2]
          exact hc t ht (by omega)
theorem mp_layBox (w : Wd) {Y n d h : Nat} {th st nu dg dd ld be ib ta fa re ig : Int32} {b : Nat → Int32} (hY : w[Y]? = some (oM Y th st nu dg dd ld be ib ta fa re ig)) (h18 : w[Y + 18]? = some (aI 0 13 b)) (hd : d ≤ 12) (hde : d % 2 = 0) (hh : h ≤ 3) (hn : n ≤ 3125) : EX12_layBox [.ref Y, .int (nI n), .int (nI d), .int (nI h)] w (fun r w' => r = none ∧ ∃ b' : Nat → Int32, (∀ t, t ≤ d → (b' t).toInt = bxc d h n t) ∧ w' = w.set (Y + 18) (aI 0 13 b')) := by
  refine EP.of (plainFor_of_name (by decide)) [(0, .ref Y), (1, .int (nI n)), (2, .int (nI d)), (3, .int (nI h))] rfl (Nat.le_of_ble_eq_true rfl) (fun r wf h => by obtain ⟨rfl, -⟩ := h; trivial) ?_
  show BX12_layBox w _ w 0 [(0, .ref Y), (1, .int (nI n)), (2, .int (nI d)), (3, .int (nI h))] []
  refine g_iload_n (pc := 0) 1 dX12_layBox_0 rfl rfl ?_
  refine g_istore (pc := 1) [(4, .int (nI n)), (0, .ref Y), (1, .int (nI n)), (2, .int (nI d)), (3, .int (nI h))] dX12_layBox_1 (by decide) rfl ?_
  refine g_aload_n (pc := 3) 1 dX12_layBox_3 rfl rfl ?_
  refine g_get (pc := 4) dX12_layBox_4 fk_X12_68 hY rfl ?_
  refine g_iconst (pc := 7) (v := nI 0) dX12_layBox_7 (by decide) ?_
  refine g_iconst (pc := 8) (v := nI 1) dX12_layBox_8 (by decide) ?_
  refine g_iast (pc := 9) 0 dX12_layBox_9 h18 (IXn (by omega) (by omega)) ?_
  refine g_aload_n (pc := 10) 1 dX12_layBox_10 rfl rfl ?_
  refine g_get (pc := 11) dX12_layBox_11 fk_X12_68 (lk_ne (show (Y + 18) ≠ Y by omega) hY) rfl ?_
  refine g_iload_n (pc := 14) 3 dX12_layBox_14 rfl rfl ?_
  refine g_iconst (pc := 15) (v := nI 1) dX12_layBox_15 (by decide) ?_
  refine g_iast (pc := 16) d dX12_layBox_16 (lk_eq h18) (IXn (by omega) (by omega)) ?_
  refine GP.weq (w.set (Y + 18) (aI 0 13 (upd (upd b 0 (nI 1)) d (nI 1)))) (by rw [List.set_set]) ?_
  refine g_iload_n (pc := 17) 3 dX12_layBox_17 rfl rfl ?_
  refine g_iconst (pc := 18) (v := nI 2) dX12_layBox_18 (by decide) ?_
  refine n_idiv (pc := 19) dX12_layBox_19 (by omega) (by omega) (by omega) ?_
  refine g_istore (pc := 20) [(5, .int (nI (d / 2))), (4, .int (nI n)), (0, .ref Y), (1, .int (nI n)), (2, .int (nI d)), (3, .int (nI h))] dX12_layBox_20 (by decide) rfl ?_
  refine GP.lsub _ (by simp) (lb_box hY h18 hd hde hh hn (d / 2) n _ (Nat.le_refl _) (by rw [Nat.sub_self, Nat.pow_zero, Nat.div_one]) (fun t ht hq => ?_))
  have hq2 : t = 0 ∨ t = d := by omega
  rw [bxc_e hq2]
  rcases hq2 with g | g
  · rw [g]
    by_cases g2 : 0 = d
    · rw [← g2, upd_s]; rfl
    · rw [upd_n g2, upd_s]; rfl
  · rw [g, upd_s]; rfl
abbrev BX12_takeBox (w0 : Wd) (Post : Option Value → Wd → Prop) (w : Wd) (pc : Nat) (ls : List (Nat × Value)) (st : List Value) : Prop := GP "takeBox" RX12 cX12_takeBox 3 none 1 39 none w0 Post w pc ls st
abbrev EX12_takeBox (As : List Value) (w : Wd) (Post : Option Value → Wd → Prop) : Prop := EP yX12_takeBox cX12_takeBox 3 none 1 As w Post
theorem tb_loop {w0 w : Wd} {Y d : Nat} {th st nu dg dd ld be ib ta fa re ig : Int32} {h7 : Nat → Int64} {b : Nat → Int32} (hY : w[Y]? = some (oM Y th st nu dg dd ld be ib ta fa re ig)) (a7 : w[Y + 7]? = some (aL 60 h7)) (h18 : w[Y + 18]? = some (aI 0 13 b)) (hd : d ≤ 12) : ∀ (z k : Nat) (h : Nat → Int64), d + 1 = k + z → (∀ i, i < 60 → (h i).toInt = if i < k then (b i).toInt else 0) → BX12_takeBox w0 (fun r w' => r = none ∧ ∃ h : Nat → Int64, haF h (fun p => (b p).toInt) d ∧ w' = (w.set (Y + 7) (aL 60 h)).set Y (oM Y th st nu (nI d) dd ld be ib ta fa re ig)) ((w.set (Y + 7) (aL 60 h)).set Y (.inr (11, .int th :: .int st :: .ref (Y + 1) :: .ref (Y + 2) :: .ref (Y + 3) :: .ref (Y + 4) :: .int nu :: .ref (Y + 5) :: .ref (Y + 6) :: .ref (Y + 7) :: .int (-1) :: .ref (Y + 8) :: .int dd :: .ref (Y + 9) :: .ref (Y + 10) :: .ref (Y + 11) :: .ref (Y + 12) :: .int ld :: .int be :: .int ib :: .ref (Y + 13) :: .ref (Y + 14) :: .ref (Y + 15) :: .ref (Y + 16) :: .ref (Y + 17) :: .int ta :: .int fa :: .int re :: .int ig :: .ref (Y + 18) :: .ref (Y + 19) :: .ref (Y + 20) :: .ref (Y + 21) :: []))) 6 [(2, .int (nI k)), (1, .int (nI d)), (0, .ref Y)] [] := by
  intro z
  induction z with
  | zero =>
    intro k h hz hh
    refine g_iload_n (pc := 6) 0 dX12_takeBox_6 rfl rfl ?_
    refine g_iload_n (pc := 7) 1 dX12_takeBox_7 rfl rfl ?_
    refine n_icmp_gt (pc := 8) 30 dX12_takeBox_8 (by decide) (by omega) (by omega) (fun hb9 => ?_) (fun hb9 => ?_)
    · refine g_aload_n (pc := 30) 2 dX12_takeBox_30 rfl rfl ?_
      refine g_iload_n (pc := 31) 1 dX12_takeBox_31 rfl rfl ?_
      refine g_put (pc := 32) (.int th :: .int st :: .ref (Y + 1) :: .ref (Y + 2) :: .ref (Y + 3) :: .ref (Y + 4) :: .int nu :: .ref (Y + 5) :: .ref (Y + 6) :: .ref (Y + 7) :: .int (nI d) :: .ref (Y + 8) :: .int dd :: .ref (Y + 9) :: .ref (Y + 10) :: .ref (Y + 11) :: .ref (Y + 12) :: .int ld :: .int be :: .int ib :: .ref (Y + 13) :: .ref (Y + 14) :: .ref (Y + 15) :: .ref (Y + 16) :: .ref (Y + 17) :: .int ta :: .int fa :: .int re :: .int ig :: .ref (Y + 18) :: .ref (Y + 19) :: .ref (Y + 20) :: .ref (Y + 21) :: []) dX12_takeBox_32 fk_X12_113 (lk_eq (lk_ne (show (Y + 7) ≠ Y by omega) hY)) (Nat.le_of_ble_eq_true rfl) rfl rfl ?_
      refine GP.weq ((w.set (Y + 7) (aL 60 h)).set Y (.inr (11, .int th :: .int st :: .ref (Y + 1) :: .ref (Y + 2) :: .ref (Y + 3) :: .ref (Y + 4) :: .int nu :: .ref (Y + 5) :: .ref (Y + 6) :: .ref (Y + 7) :: .int (nI d) :: .ref (Y + 8) :: .int dd :: .ref (Y + 9) :: .ref (Y + 10) :: .ref (Y + 11) :: .ref (Y + 12) :: .int ld :: .int be :: .int ib :: .ref (Y + 13) :: .ref (Y + 14) :: .ref (Y + 15) :: .ref (Y + 16) :: .ref (Y + 17) :: .int ta :: .int fa :: .int re :: .int ig :: .ref (Y + 18) :: .ref (Y + 19) :: .ref (Y + 20) :: .ref (Y + 21) :: []))) (by rw [List.set_set]) ?_
      exact g_vret (pc := 35) dX12_takeBox_35 ⟨rfl, h, fun i hi => by rw [hh i hi]; by_cases e : i ≤ d; · { rw [if_pos e, if_pos (by omega)] }; · { rw [if_neg e, if_neg (by omega)] }, rfl⟩
    · exact absurd (show d < k by omega) hb9
  | succ z ih =>
    intro k h hz hh
    refine g_iload_n (pc := 6) 0 dX12_takeBox_6 rfl rfl ?_
    refine g_iload_n (pc := 7) 1 dX12_takeBox_7 rfl rfl ?_
    refine n_icmp_gt (pc := 8) 30 dX12_takeBox_8 (by decide) (by omega) (by omega) (fun hb9 => ?_) (fun hb9 => ?_)
    · exact absurd hb9 (by omega)
    · refine g_aload_n (pc := 11) 2 dX12_takeBox_11 rfl rfl ?_
      refine g_get (pc := 12) dX12_takeBox_12 fk_X12_29 (lk_eq (lk_ne (show (Y + 7) ≠ Y by omega) hY)) rfl ?_
      refine g_iload_n (pc := 15) 0 dX12_takeBox_15 rfl rfl ?_
      refine g_aload_n (pc := 16) 2 dX12_takeBox_16 rfl rfl ?_
      refine g_get (pc := 17) dX12_takeBox_17 fk_X12_68 (lk_eq (lk_ne (show (Y + 7) ≠ Y by omega) hY)) rfl ?_
      refine g_iload_n (pc := 20) 0 dX12_takeBox_20 rfl rfl ?_
      refine g_iald (pc := 21) k dX12_takeBox_21 (lk_ne (show Y ≠ (Y + 18) by omega) (lk_ne (show (Y + 7) ≠ (Y + 18) by omega) h18)) (IXn (by omega) (by omega)) ?_
      refine g_i2l (pc := 22) dX12_takeBox_22 ?_
      refine g_last (pc := 23) k dX12_takeBox_23 (lk_ne (show Y ≠ (Y + 7) by omega) (lk_eq a7)) (IXn (by omega) (by omega)) ?_
      refine GP.weq ((w.set (Y + 7) (aL 60 (vp_updL h k ((b k).toInt64)))).set Y (.inr (11, .int th :: .int st :: .ref (Y + 1) :: .ref (Y + 2) :: .ref (Y + 3) :: .ref (Y + 4) :: .int nu :: .ref (Y + 5) :: .ref (Y + 6) :: .ref (Y + 7) :: .int (-1) :: .ref (Y + 8) :: .int dd :: .ref (Y + 9) :: .ref (Y + 10) :: .ref (Y + 11) :: .ref (Y + 12) :: .int ld :: .int be :: .int ib :: .ref (Y + 13) :: .ref (Y + 14) :: .ref (Y + 15) :: .ref (Y + 16) :: .ref (Y + 17) :: .int ta :: .int fa :: .int re :: .int ig :: .ref (Y + 18) :: .ref (Y + 19) :: .ref (Y + 20) :: .ref (Y + 21) :: []))) (by rw [List.set_comm _ _ (show Y ≠ (Y + 7) by omega), List.set_set]) ?_
      refine n_iinc (pc := 24) (c := 1) [(2, .int (nI (k + 1))), (1, .int (nI d)), (0, .ref Y)] 0 dX12_takeBox_24 rfl (by decide) (by decide) rfl ?_
      refine g_goto (pc := 27) 6 dX12_takeBox_27 (by decide) ?_
      refine GP.lsub _ (by simp) (ih (k + 1) _ (by omega) (fun i hi => ?_))
      by_cases e : i = k
      · rw [e, upL_s, if_pos (by omega), IL]
      · rw [upL_n e, hh i hi]
        by_cases e2 : i < k
        · rw [if_pos e2, if_pos (by omega)]
        · rw [if_neg e2, if_neg (by omega)]
theorem mp_takeBox (w : Wd) {Y d : Nat} {th st nu dg dd ld be ib ta fa re ig : Int32} {h7 : Nat → Int64} {b : Nat → Int32} (hY : w[Y]? = some (oM Y th st nu dg dd ld be ib ta fa re ig)) (a7 : w[Y + 7]? = some (aL 60 h7)) (h18 : w[Y + 18]? = some (aI 0 13 b)) (hd : d ≤ 12) : EX12_takeBox [.ref Y, .int (nI d)] w (fun r w' => r = none ∧ ∃ h : Nat → Int64, haF h (fun p => (b p).toInt) d ∧ w' = (w.set (Y + 7) (aL 60 h)).set Y (oM Y th st nu (nI d) dd ld be ib ta fa re ig)) := by
  refine EP.of (plainFor_of_name (by decide)) [(0, .ref Y), (1, .int (nI d))] rfl (Nat.le_of_ble_eq_true rfl) (fun r wf h => by obtain ⟨rfl, -⟩ := h; trivial) ?_
  show BX12_takeBox w _ w 0 [(0, .ref Y), (1, .int (nI d))] []
  refine g_aload_n (pc := 0) 0 dX12_takeBox_0 rfl rfl ?_
  refine g_callV (pc := 1) [] dX12_takeBox_1 cv_X12_116.1 cv_X12_116.2.1 cv_X12_116.2.2.1 cv_X12_116.2.2.2 hY rfl rfl (Nat.le_of_ble_eq_true rfl) (by decide) (by decide) (mp_empty _ hY a7) ?_
  rintro _ w9 ⟨rfl, e9⟩
  refine GP.weq _ e9 ?_
  refine g_iconst (pc := 4) (v := nI 0) dX12_takeBox_4 (by decide) ?_
  refine g_istore_n (pc := 5) [(2, .int (nI 0)), (0, .ref Y), (1, .int (nI d))] dX12_takeBox_5 rfl (by decide) rfl ?_
  exact GP.lsub _ (by simp) (tb_loop hY a7 h18 hd (d + 1) 0 _ (by omega) (fun i hi => by rw [zrF_t hi, if_neg (by omega)]; rfl))
theorem mq_takeBox (w : Wd) {Y tl : Nat} {tb : Nat → Int32} {fa st : Int32} {rf : Nat → Nat} {sh : SV} {pn : Nat} {pk : Nat → Nat} {ps : Nat → SV} {im : Nat → Option SV} (hM : mdC w Y tl tb fa st rf sh pn pk ps im) {d : Nat} {b : Nat → Int32} {F : Nat → Int} (h18 : w[Y + 18]? = some (aI 0 13 b)) (hd : d ≤ 12) (hF : ∀ t, t ≤ d → (b t).toInt = F t) : EX12_takeBox [.ref Y, .int (nI d)] w (fun r w' => r = none ∧ haO w' Y tl fa st pn F d ∧ mdC w' Y tl tb fa st rf sh pn pk ps im ∧ FR (hdS Y) w w') := by
  have hM0 := id hM
  obtain ⟨⟨f8, c8⟩, ⟨f9, c9⟩, ⟨f10, c10⟩, -⟩ := md_hd hM
  obtain ⟨⟨th, dg, dd, ld, be, ib, re, ig, hY⟩, -, ⟨g7, -, -, -, -, -, -, -, -, -, -, a7, -⟩, -⟩ := hM
  refine EP.mono (mp_takeBox w hY a7 h18 hd) ?_
  rintro r w' ⟨rfl, h, hh, rfl⟩
  have l7 : ((w.set (Y + 7) (aL 60 h)).set Y (oM Y th st (nI pn) (nI d) dd ld be ib (nI tl) fa re ig))[Y + 7]? = some (aL 60 h) := lk_ne (by omega) (lk_eq a7)
  have lY : ((w.set (Y + 7) (aL 60 h)).set Y (oM Y th st (nI pn) (nI d) dd ld be ib (nI tl) fa re ig))[Y]? = some (oM Y th st (nI pn) (nI d) dd ld be ib (nI tl) fa re ig) := lk_eq (lk_ne (by omega) hY)
  refine ⟨rfl, ⟨_, _, _, _, _, _, _, h, lY, l7, fun k hk => ?_⟩, hM0.hd (FR.st (FR.st FR.rf a7 rfl (by unfold hdS; omega)) (lk_ne (by omega) hY) rfl (by unfold hdS; omega)) lY l7 (lk_ne (by omega) (lk_ne (by omega) c8)) (lk_ne (by omega) (lk_ne (by omega) c9)) (lk_ne (by omega) (lk_ne (by omega) c10))⟩
  rw [hh k hk]
  by_cases e : k ≤ d
  · rw [if_pos e, if_pos e]; exact hF k e
  · rw [if_neg e, if_neg e]
