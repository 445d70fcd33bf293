/-! Hunt: goOn -/
def goI (n h i c : Nat) (cur : Nat → Int64) : Prop := ∀ p, p < 13 → (cur p).toInt = if p ≤ n ∧ c < min p (n - p) then -(h : Int) else bxc n h i p
theorem bxc_mid {d h i p : Nat} (h1 : 0 < p) (h2 : p < d) : bxc d h i p = (dgt (2 * h + 1) (d / 2 - min p (d - p)) i : Int) - h := by
  unfold bxc
  rw [if_neg (by omega), if_neg (by omega)]
theorem bxc_out {d h i j p : Nat} (hp : p = 0 ∨ d ≤ p) : bxc d h i p = bxc d h j p := by
  unfold bxc
  by_cases c1 : d < p
  · rw [if_pos c1, if_pos c1]
  · rw [if_neg c1, if_neg c1, if_pos (by omega), if_pos (by omega)]
theorem goI_carry {n h i c : Nat} {cur : Nat → Int64} {x : Int64} (hx : x.toInt = -(h : Int)) (hc : c + 1 ≤ n / 2) (H : goI n h i (c + 1) cur) : goI n h i c (vp_updL (vp_updL cur (c + 1) x) (n - (c + 1)) x) := by
  intro p hp
  by_cases e1 : p = n - (c + 1)
  · rw [e1, upL_s, hx, if_pos (by omega)]
  · rw [upL_n e1]
    by_cases e2 : p = c + 1
    · rw [e2, upL_s, hx, if_pos (by omega)]
    · rw [upL_n e2, H p hp]
      by_cases e3 : p ≤ n ∧ c + 1 < min p (n - p)
      · rw [if_pos e3, if_pos (by omega)]
      · rw [if_neg e3, if_neg (by omega)]
theorem goI_all {n h i : Nat} {cur : Nat → Int64} (hev : n % 2 = 0) (hq : ∃ q, i + 1 = q * (2 * h + 1) ^ (n / 2)) (H : goI n h i 0 cur) {p : Nat} (hp : p < 13) : (cur p).toInt = bxc n h (i + 1) p := by
  rw [H p hp]
  by_cases e3 : p ≤ n ∧ 0 < min p (n - p)
  · rw [if_pos e3, bxc_mid (by omega) (by omega), dgt_0 (by omega) hq (by omega)]
    simp
  · rw [if_neg e3]
    exact bxc_out (by omega)
theorem goI_next {n h i c : Nat} {cur : Nat → Int64} {x : Int64} (hev : n % 2 = 0) (hh : 1 ≤ h) (hc0 : 0 < c) (hc : c ≤ n / 2) (hq : ∃ q, i + 1 = q * (2 * h + 1) ^ (n / 2 - c)) (hd : dgt (2 * h + 1) (n / 2 - c) i < 2 * h + 1 - 1) (hx : x.toInt = bxc n h i c + 1) (H : goI n h i c cur) {p : Nat} (hp : p < 13) : (vp_updL (vp_updL cur c x) (n - c) x p).toInt = bxc n h (i + 1) p := by
  obtain ⟨g1, g2⟩ := dgt_next (by omega) hq hd
  have hmin : min c (n - c) = c := by omega
  have hxc : x.toInt = bxc n h (i + 1) c := by
    rw [hx, bxc_mid hc0 (by omega), bxc_mid hc0 (by omega), hmin, g1]
    omega
  have hxn : x.toInt = bxc n h (i + 1) (n - c) := by
    rw [hxc, bxc_mid hc0 (by omega), bxc_mid (by omega) (by omega), hmin, show min (n - c) (n - (n - c)) = c by omega]
  by_cases e1 : p = n - c
  · rw [e1, upL_s]
    exact hxn
  · rw [upL_n e1]
    by_cases e2 : p = c
    · rw [e2, upL_s]
      exact hxc
    · rw [upL_n e2, H p hp]
      by_cases e3 : p ≤ n ∧ c < min p (n - p)
      · rw [if_pos e3, bxc_mid (by omega) (by omega), dgt_0 (by omega) hq (by omega)]
        simp
      · rw [if_neg e3]
        by_cases e4 : p = 0 ∨ n ≤ p
        · exact bxc_out e4
        · rw [bxc_mid (by omega) (by omega), bxc_mid (by omega) (by omega), g2 _ (by omega)]
abbrev BX3_goOn (w0 : Wd) (Post : Option Value → Wd → Prop) (w : Wd) (pc : Nat) (ls : List (Nat × Value)) (st : List Value) : Prop := GP "goOn" RX3 cX3_goOn 2 none 1 39 none w0 Post w pc ls st
abbrev EX3_goOn (As : List Value) (w : Wd) (Post : Option Value → Wd → Prop) : Prop := EP yX3_goOn cX3_goOn 2 none 1 As w Post
theorem go_loop {w0 w : Wd} {H n h lv ia lk on : Nat} {rw9 : Nat → Int64} (hH : w[H]? = some (oH H n h lv ia lk on)) (hr : w[H + 4]? = some (aL 13 rw9)) (hn : n ≤ 12) (hev : n % 2 = 0) (hh : 1 ≤ h) (hh3 : h ≤ 3) {i : Nat} : ∀ (c : Nat) (cur : Nat → Int64), c ≤ n / 2 → goI n h i c cur → (∃ q, i + 1 = q * (2 * h + 1) ^ (n / 2 - c)) → BX3_goOn w0 (fun r w' => r = none ∧ ∃ rw' : Nat → Int64, (∀ p, p < 13 → (rw' p).toInt = bxc n h (i + 1) p) ∧ w' = w.set (H + 4) (aL 13 rw')) (w.set (H + 4) (aL 13 cur)) 7 [(1, .int (nI c)), (0, .ref H)] [] := by
  intro c
  induction c with
  | zero =>
    intro cur hc hG hq
    refine g_iload_n (pc := 7) 0 dX3_goOn_7 rfl rfl ?_
    refine n_if_le (pc := 8) 43 dX3_goOn_8 (by decide) (by omega) (fun hb => ?_) (fun hb => ?_)
    · refine g_iload_n (pc := 43) 0 dX3_goOn_43 rfl rfl ?_
      refine n_if_le (pc := 44) 60 dX3_goOn_44 (by decide) (by omega) (fun hb2 => ?_) (fun hb2 => ?_)
      · exact g_vret (pc := 60) dX3_goOn_60 ⟨rfl, cur, fun p hp => goI_all hev hq hG hp, rfl⟩
      · exact absurd rfl hb2
    · exact absurd rfl hb
  | succ c ih =>
    intro cur hc hG hq
    have hzh : ((nI h).toInt64).toInt = h := by rw [IL, nI_toInt (by omega)]
    have hcc : (cur (c + 1)).toInt = bxc n h i (c + 1) := by rw [hG (c + 1) (by omega), if_neg (by omega)]
    have hmid := bxc_mid (d := n) (h := h) (i := i) (p := c + 1) (by omega) (by omega)
    rw [show min (c + 1) (n - (c + 1)) = c + 1 by omega] at hmid
    have hdl := dgt_lt (B := 2 * h + 1) (k := n / 2 - (c + 1)) (i := i) (by omega)
    obtain ⟨hv, hhv⟩ : ∃ z : Int64, (nI h).toInt64 = z := ⟨_, rfl⟩
    rw [hhv] at hzh
    obtain ⟨mh, hmh⟩ : ∃ z : Int64, (-(nI h)).toInt64 = z := ⟨_, rfl⟩
    have hmh2 : mh.toInt = -(h : Int) := by rw [← hmh, IL, I_neg (by rw [nI_toInt (by omega)]; omega), nI_toInt (by omega)]
    refine g_iload_n (pc := 7) 0 dX3_goOn_7 rfl rfl ?_
    refine n_if_le (pc := 8) 43 dX3_goOn_8 (by decide) (by omega) (fun hb => ?_) (fun hb => ?_)
    · exact absurd hb (by omega)
    · refine g_aload_n (pc := 11) 1 dX3_goOn_11 rfl rfl ?_
      refine g_get (pc := 12) dX3_goOn_12 fk_X3_24 (lk_ne (by omega) hH) rfl ?_
      refine g_iload_n (pc := 15) 0 dX3_goOn_15 rfl rfl ?_
      refine g_lald (pc := 16) (c + 1) dX3_goOn_16 (lk_eq hr) (IXn (by omega) (by omega)) ?_
      refine g_aload_n (pc := 17) 1 dX3_goOn_17 rfl rfl ?_
      refine g_get (pc := 18) dX3_goOn_18 fk_X3_38 (lk_ne (by omega) hH) rfl ?_
      refine g_i2l (pc := 21) dX3_goOn_21 ?_
      refine GP.tl hv hhv ?_
      refine g_lcmp_lt (pc := 22) 43 dX3_goOn_22 dX3_goOn_23 (by decide) (fun hb2 => ?_) (fun hb2 => ?_)
      · rw [Int64.lt_iff_toInt_lt, hzh, hcc, hmid] at hb2
        obtain ⟨x, hx⟩ : ∃ z : Int64, cur (c + 1) + 1 = z := ⟨_, rfl⟩
        have hx2 : x.toInt = bxc n h i (c + 1) + 1 := by
          have z1 : (1 : Int64).toInt = 1 := by decide
          rw [← hx, L_add (by rw [hcc, z1, hmid]; omega) (by rw [hcc, z1, hmid]; omega), hcc, z1]
        refine g_iload_n (pc := 43) 0 dX3_goOn_43 rfl rfl ?_
        refine n_if_le (pc := 44) 60 dX3_goOn_44 (by decide) (by omega) (fun hb3 => ?_) (fun hb3 => ?_)
        · exact absurd hb3 (by omega)
        · refine g_aload_n (pc := 47) 1 dX3_goOn_47 rfl rfl ?_
          refine g_iload_n (pc := 48) 0 dX3_goOn_48 rfl rfl ?_
          refine g_aload_n (pc := 49) 1 dX3_goOn_49 rfl rfl ?_
          refine g_get (pc := 50) dX3_goOn_50 fk_X3_24 (lk_ne (by omega) hH) rfl ?_
          refine g_iload_n (pc := 53) 0 dX3_goOn_53 rfl rfl ?_
          refine g_lald (pc := 54) (c + 1) dX3_goOn_54 (lk_eq hr) (IXn (by omega) (by omega)) ?_
          refine g_lconst (pc := 55) (v := 1) dX3_goOn_55 (by decide) ?_
          refine g_ladd (pc := 56) dX3_goOn_56 ?_
          refine GP.tl x hx ?_
          refine g_callV (pc := 57) [.int (nI (c + 1)), .long x] dX3_goOn_57 cv_X3_71.1 cv_X3_71.2.1 cv_X3_71.2.2.1 cv_X3_71.2.2.2 (lk_ne (by omega) hH) rfl rfl (Nat.le_of_ble_eq_true rfl) (by decide) (by decide) (sp_putBoth _ (lk_ne (by omega) hH) (lk_eq hr) hn (by omega)) ?_
          rintro _ w9 ⟨rfl, e9⟩
          refine GP.weq _ e9 ?_
          refine GP.weq (w.set (H + 4) (aL 13 (vp_updL (vp_updL cur (c + 1) x) (n - (c + 1)) x))) (by rw [List.set_set]) ?_
          exact g_vret (pc := 60) dX3_goOn_60 ⟨rfl, _, fun p hp => goI_next hev hh (by omega) hc hq (by omega) hx2 hG hp, rfl⟩
      · rw [Int64.lt_iff_toInt_lt, hzh, hcc, hmid] at hb2
        refine g_aload_n (pc := 26) 1 dX3_goOn_26 rfl rfl ?_
        refine g_iload_n (pc := 27) 0 dX3_goOn_27 rfl rfl ?_
        refine g_aload_n (pc := 28) 1 dX3_goOn_28 rfl rfl ?_
        refine g_get (pc := 29) dX3_goOn_29 fk_X3_38 (lk_ne (by omega) hH) rfl ?_
        refine g_ineg (pc := 32) dX3_goOn_32 ?_
        refine g_i2l (pc := 33) dX3_goOn_33 ?_
        refine GP.tl mh hmh ?_
        refine g_callV (pc := 34) [.int (nI (c + 1)), .long mh] dX3_goOn_34 cv_X3_71.1 cv_X3_71.2.1 cv_X3_71.2.2.1 cv_X3_71.2.2.2 (lk_ne (by omega) hH) rfl rfl (Nat.le_of_ble_eq_true rfl) (by decide) (by decide) (sp_putBoth _ (lk_ne (by omega) hH) (lk_eq hr) hn (by omega)) ?_
        rintro _ w9 ⟨rfl, e9⟩
        refine GP.weq _ e9 ?_
        refine GP.weq (w.set (H + 4) (aL 13 (vp_updL (vp_updL cur (c + 1) mh) (n - (c + 1)) mh))) (by rw [List.set_set]) ?_
        refine n_idec (pc := 37) (c := 1) [(1, .int (nI ((c + 1) - 1))), (0, .ref H)] 0 dX3_goOn_37 rfl (by decide) (by omega) (by decide) rfl ?_
        refine g_goto (pc := 40) 7 dX3_goOn_40 (by decide) ?_
        have hq2 := dgt_carry (by omega) hq (show dgt (2 * h + 1) (n / 2 - (c + 1)) i = 2 * h + 1 - 1 by omega)
        rw [show n / 2 - (c + 1) + 1 = n / 2 - c by omega] at hq2
        exact GP.lsub _ (by simp) (ih _ (by omega) (goI_carry hmh2 hc hG) hq2)
theorem sp_goOn (w : Wd) {H n h lv ia lk on : Nat} {rw9 : Nat → Int64} (hH : w[H]? = some (oH H n h lv ia lk on)) (hr : w[H + 4]? = some (aL 13 rw9)) (hn : n ≤ 12) (hev : n % 2 = 0) (hh : 1 ≤ h) (hh3 : h ≤ 3) {i : Nat} (hb : ∀ p, p < 13 → (rw9 p).toInt = bxc n h i p) : EX3_goOn [.ref H] w (fun r w' => r = none ∧ ∃ rw' : Nat → Int64, (∀ p, p < 13 → (rw' p).toInt = bxc n h (i + 1) p) ∧ w' = w.set (H + 4) (aL 13 rw')) := by
  refine EP.of (plainFor_of_name (by decide)) [(0, .ref H)] rfl (Nat.le_of_ble_eq_true rfl) (fun r wf h => by obtain ⟨rfl, -⟩ := h; trivial) ?_
  show BX3_goOn w _ w 0 [(0, .ref H)] []
  refine g_aload_n (pc := 0) 0 dX3_goOn_0 rfl rfl ?_
  refine g_get (pc := 1) dX3_goOn_1 fk_X3_34 hH rfl ?_
  refine g_iconst (pc := 4) (v := nI 2) dX3_goOn_4 (by decide) ?_
  refine n_idiv (pc := 5) dX3_goOn_5 (by omega) (by omega) (by omega) ?_
  refine g_istore_n (pc := 6) [(1, .int (nI (n / 2))), (0, .ref H)] dX3_goOn_6 rfl (by decide) rfl ?_
  refine GP.weq (w.set (H + 4) (aL 13 rw9)) (set_same hr).symm ?_
  refine GP.lsub _ (by simp) (go_loop hH hr hn hev hh hh3 (i := i) (n / 2) rw9 (Nat.le_refl _) (fun p hp => ?_) ⟨i + 1, by rw [Nat.sub_self, Nat.pow_zero, Nat.mul_one]⟩)
  rw [hb p hp]
  by_cases e3 : p ≤ n ∧ n / 2 < min p (n - p)
  · exact absurd e3 (by omega)
  · rw [if_neg e3]
