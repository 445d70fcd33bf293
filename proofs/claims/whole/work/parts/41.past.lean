/-! Past -/
abbrev oA (s k sz : Nat) : Ce := .inr (5, [.ref s, .ref k, .int (nI sz)])
theorem vaup_s {f : Nat → Option Nat} {k : Nat} {x : Option Nat} : va_up f k x k = x := by simp [va_up]
theorem vaup_n {f : Nat → Option Nat} {k j : Nat} {x : Option Nat} (h : j ≠ k) : va_up f k x j = f j := by simp [va_up, h]
/-- a place that holds a Shelf -/
def isSh (w : Wd) (v : Nat) : Prop := ∃ fs, w[v]? = some (.inr (7, fs))
theorem isSh_ne {w : Wd} {v i : Nat} {c : Ce} (h : isSh w v) (hc : w[i]? = some c) (hk : ∀ fs, c ≠ .inr (7, fs)) : i ≠ v := fun g => by
  obtain ⟨fs, h⟩ := h
  rw [g, h] at hc
  cases hc
  exact hk fs rfl
abbrev BX5_latestKind (w0 : Wd) (Post : Option Value → Wd → Prop) (w : Wd) (pc : Nat) (ls : List (Nat × Value)) (st : List Value) : Prop := GP "latestKind" RX5 cX5_latestKind 1 (some .int) 0 0 none w0 Post w pc ls st
abbrev EX5_latestKind (As : List Value) (w : Wd) (Post : Option Value → Wd → Prop) : Prop := EP yX5_latestKind cX5_latestKind 1 (some .int) 0 As w Post
theorem sp_latestKind (w : Wd) {o s k sz : Nat} {h : Nat → Option Nat} {g : Nat → Int32} (ho : w[o]? = some (oA s k sz)) (hs : w[s]? = some (aR 5 8 h)) (hk : w[k]? = some (aI 0 8 g)) (hos : o ≠ s) (hok : o ≠ k) (hsk : s ≠ k) (h0 : 0 < sz) (h8 : sz ≤ 8) : EX5_latestKind [.ref o] w (fun r w' => r = some (.int (g (sz - 1))) ∧ w' = w) := by
  refine EP.of (plainFor_of_name (by decide)) [(0, .ref o)] rfl (Nat.le_of_ble_eq_true rfl) (fun r wf h => by obtain ⟨rfl, -⟩ := h; trivial) ?_
  show BX5_latestKind w _ w 0 [(0, .ref o)] []
  refine g_aload_n (pc := 0) 0 dX5_latestKind_0 rfl rfl ?_
  refine g_get (pc := 1) dX5_latestKind_1 fk_X5_21 ho rfl ?_
  refine n_if_le (pc := 4) 21 dX5_latestKind_4 (by decide) (by omega) (fun h1 => ?_) (fun h1 => ?_)
  · exact absurd h1 (by omega)
  · refine g_aload_n (pc := 7) 0 dX5_latestKind_7 rfl rfl ?_
    refine g_get (pc := 8) dX5_latestKind_8 fk_X5_17 ho rfl ?_
    refine g_aload_n (pc := 11) 0 dX5_latestKind_11 rfl rfl ?_
    refine g_get (pc := 12) dX5_latestKind_12 fk_X5_21 ho rfl ?_
    refine g_iconst (pc := 15) (v := nI 1) dX5_latestKind_15 (by decide) ?_
    refine n_isub (pc := 16) dX5_latestKind_16 (by omega) ?_
    refine g_iald (pc := 17) (sz - 1) dX5_latestKind_17 hk (IXn (by omega) (by omega)) ?_
    refine g_goto (pc := 18) 22 dX5_latestKind_18 (by decide) ?_
    exact g_iret (pc := 22) dX5_latestKind_22 ⟨rfl, rfl⟩
abbrev BX5_keep (w0 : Wd) (Post : Option Value → Wd → Prop) (w : Wd) (pc : Nat) (ls : List (Nat × Value)) (st : List Value) : Prop := GP "keep" RX5 cX5_keep 4 none 0 0 none w0 Post w pc ls st
abbrev EX5_keep (As : List Value) (w : Wd) (Post : Option Value → Wd → Prop) : Prop := EP yX5_keep cX5_keep 4 none 0 As w Post
theorem kp_end {w0 w : Wd} {o s k sz : Nat} {h : Nat → Option Nat} {g : Nat → Int32} (ho : w[o]? = some (oA s k sz)) (hs : w[s]? = some (aR 5 8 h)) (hk : w[k]? = some (aI 0 8 g)) (hos : o ≠ s) (hok : o ≠ k) (hsk : s ≠ k) {x : Nat} {y : Int32} {fs : List Value} (hx : w[x]? = some (.inr (7, fs))) (hox : o ≠ x) (hsx : s ≠ x) (hkx : k ≠ x) {ch : Nat → Option Nat} {cg : Nat → Int32} {c : Nat} (hc : c < 8) : BX5_keep w0 (fun r w' => r = none ∧ w' = ((w.set s (aR 5 8 (va_up ch c (some x)))).set k (aI 0 8 (upd cg c y))).set o (oA s k (c + 1))) (((w.set s (aR 5 8 ch)).set k (aI 0 8 cg)).set o (oA s k c)) 61 [(0, .ref o), (1, .int y), (2, .ref x)] [] := by
  refine g_aload_n (pc := 61) 0 dX5_keep_61 rfl rfl ?_
  refine g_get (pc := 62) dX5_keep_62 fk_X5_13 (lk_eq (lk_ne (Ne.symm hok) (lk_ne (Ne.symm hos) ho))) rfl ?_
  refine g_aload_n (pc := 65) 0 dX5_keep_65 rfl rfl ?_
  refine g_get (pc := 66) dX5_keep_66 fk_X5_21 (lk_eq (lk_ne (Ne.symm hok) (lk_ne (Ne.symm hos) ho))) rfl ?_
  refine g_aload_n (pc := 69) 2 dX5_keep_69 rfl rfl ?_
  refine g_aast (pc := 70) c dX5_keep_70 (lk_ne hos (lk_ne (Ne.symm hsk) (lk_eq hs))) (by decide) (IXn (by omega) (by omega)) (lk_ne hox (lk_ne hkx (lk_ne hsx hx))) rfl ?_
  refine GP.weq (((w.set s (aR 5 8 (va_up ch c (some x)))).set k (aI 0 8 cg)).set o (.inr (5, [.ref s, .ref k, .int (nI c)]))) (by rw [List.set_comm _ _ hos, List.set_comm _ _ (Ne.symm hsk), List.set_set]) ?_
  refine g_aload_n (pc := 71) 0 dX5_keep_71 rfl rfl ?_
  refine g_get (pc := 72) dX5_keep_72 fk_X5_17 (lk_eq (lk_ne (Ne.symm hok) (lk_ne (Ne.symm hos) ho))) rfl ?_
  refine g_aload_n (pc := 75) 0 dX5_keep_75 rfl rfl ?_
  refine g_get (pc := 76) dX5_keep_76 fk_X5_21 (lk_eq (lk_ne (Ne.symm hok) (lk_ne (Ne.symm hos) ho))) rfl ?_
  refine g_iload_n (pc := 79) 1 dX5_keep_79 rfl rfl ?_
  refine g_iast (pc := 80) c dX5_keep_80 (lk_ne hok (lk_eq (lk_ne hsk hk))) (IXn (by omega) (by omega)) ?_
  refine GP.weq (((w.set s (aR 5 8 (va_up ch c (some x)))).set k (aI 0 8 (upd cg c y))).set o (.inr (5, [.ref s, .ref k, .int (nI c)]))) (by rw [List.set_comm _ _ hok, List.set_set]) ?_
  refine g_aload_n (pc := 81) 0 dX5_keep_81 rfl rfl ?_
  refine g_dup (pc := 82) dX5_keep_82 rfl ?_
  refine g_get (pc := 83) dX5_keep_83 fk_X5_21 (lk_eq (lk_ne (Ne.symm hok) (lk_ne (Ne.symm hos) ho))) rfl ?_
  refine g_iconst (pc := 86) (v := nI 1) dX5_keep_86 (by decide) ?_
  refine n_iadd (pc := 87) dX5_keep_87 ?_
  refine g_put (pc := 88) [.ref s, .ref k, .int (nI (c + 1))] dX5_keep_88 fk_X5_21 (lk_eq (lk_ne (Ne.symm hok) (lk_ne (Ne.symm hos) ho))) (Nat.le_of_ble_eq_true rfl) rfl rfl ?_
  refine GP.weq (((w.set s (aR 5 8 (va_up ch c (some x)))).set k (aI 0 8 (upd cg c y))).set o (.inr (5, [.ref s, .ref k, .int (nI (c + 1))]))) (by rw [List.set_set]) ?_
  exact g_vret (pc := 91) dX5_keep_91 ⟨rfl, rfl⟩
theorem kp_loop {w0 w : Wd} {o s k sz : Nat} {h : Nat → Option Nat} {g : Nat → Int32} (ho : w[o]? = some (oA s k sz)) (hs : w[s]? = some (aR 5 8 h)) (hk : w[k]? = some (aI 0 8 g)) (hos : o ≠ s) (hok : o ≠ k) (hsk : s ≠ k) {x : Nat} {y : Int32} {fs : List Value} (hx : w[x]? = some (.inr (7, fs))) (hox : o ≠ x) (hsx : s ≠ x) (hkx : k ≠ x) (hall : ∀ i, i < 8 → ∃ v, h i = some v ∧ isSh w v) : ∀ (z i : Nat) (ch : Nat → Option Nat) (cg : Nat → Int32), 8 = i + z → 0 < i → (∀ j, j < 8 → ch j = if j + 1 < i then h (j + 1) else h j) → (∀ j, j < 8 → cg j = if j + 1 < i then g (j + 1) else g j) → BX5_keep w0 (fun r w' => r = none ∧ ∃ h' g', (∀ j, j < 8 → h' j = if j < 7 then h (j + 1) else some x) ∧ (∀ j, j < 8 → g' j = if j < 7 then g (j + 1) else y) ∧ w' = ((w.set s (aR 5 8 h')).set k (aI 0 8 g')).set o (oA s k 8)) (((w.set s (aR 5 8 ch)).set k (aI 0 8 cg)).set o (oA s k 8)) 11 [(3, .int (nI i)), (0, .ref o), (1, .int y), (2, .ref x)] [] := by
  intro z
  induction z with
  | zero =>
    intro i ch cg hi h0 h1 h2
    refine g_iload_n (pc := 11) 0 dX5_keep_11 rfl rfl ?_
    refine g_bipush (pc := 12) (v := nI 8) dX5_keep_12 (by decide) ?_
    refine n_icmp_ge (pc := 14) 51 dX5_keep_14 (by decide) (by omega) (by omega) (fun hb => ?_) (fun hb => ?_)
    · refine g_aload_n (pc := 51) 1 dX5_keep_51 rfl rfl ?_
      refine g_dup (pc := 52) dX5_keep_52 rfl ?_
      refine g_get (pc := 53) dX5_keep_53 fk_X5_21 (lk_eq (lk_ne (Ne.symm hok) (lk_ne (Ne.symm hos) ho))) rfl ?_
      refine g_iconst (pc := 56) (v := nI 1) dX5_keep_56 (by decide) ?_
      refine n_isub (pc := 57) dX5_keep_57 (by omega) ?_
      refine g_put (pc := 58) [.ref s, .ref k, .int (nI (8 - 1))] dX5_keep_58 fk_X5_21 (lk_eq (lk_ne (Ne.symm hok) (lk_ne (Ne.symm hos) ho))) (Nat.le_of_ble_eq_true rfl) rfl rfl ?_
      refine GP.weq (((w.set s (aR 5 8 ch)).set k (aI 0 8 cg)).set o (.inr (5, [.ref s, .ref k, .int (nI (8 - 1))]))) (by rw [List.set_set]) ?_
      refine GP.post ?_ (GP.lsub _ (by simp) (kp_end ho hs hk hos hok hsk hx hox hsx hkx (y := y) (ch := ch) (cg := cg) (c := 8 - 1) (by decide)))
      rintro _ _ ⟨rfl, rfl⟩
      refine ⟨rfl, _, _, fun j hj => ?_, fun j hj => ?_, rfl⟩
      · by_cases hj7 : j = 8 - 1
        · subst hj7; rw [vaup_s, if_neg (by omega)]
        · rw [vaup_n hj7, h1 j hj, if_pos (by omega), if_pos (by omega)]
      · by_cases hj7 : j = 8 - 1
        · subst hj7; rw [upd_s, if_neg (by omega)]
        · rw [upd_n hj7, h2 j hj, if_pos (by omega), if_pos (by omega)]
    · exact absurd hb (by omega)
  | succ z ih =>
    intro i ch cg hi h0 h1 h2
    obtain ⟨v, hhv, hvS⟩ := hall i (by omega)
    have hov : o ≠ v := isSh_ne hvS ho (fun _ g9 => by cases g9)
    have hsv : s ≠ v := isSh_ne hvS hs (fun _ g9 => by cases g9)
    have hkv : k ≠ v := isSh_ne hvS hk (fun _ g9 => by cases g9)
    obtain ⟨fv, hv⟩ := hvS
    have hci : rfV (ch i) = .ref v := by rw [h1 i (by omega), if_neg (by omega), hhv]; rfl
    refine g_iload_n (pc := 11) 0 dX5_keep_11 rfl rfl ?_
    refine g_bipush (pc := 12) (v := nI 8) dX5_keep_12 (by decide) ?_
    refine n_icmp_ge (pc := 14) 51 dX5_keep_14 (by decide) (by omega) (by omega) (fun hb => ?_) (fun hb => ?_)
    · exact absurd hb (by omega)
    · refine g_aload_n (pc := 17) 1 dX5_keep_17 rfl rfl ?_
      refine g_get (pc := 18) dX5_keep_18 fk_X5_13 (lk_eq (lk_ne (Ne.symm hok) (lk_ne (Ne.symm hos) ho))) rfl ?_
      refine g_iload_n (pc := 21) 0 dX5_keep_21 rfl rfl ?_
      refine g_iconst (pc := 22) (v := nI 1) dX5_keep_22 (by decide) ?_
      refine n_isub (pc := 23) dX5_keep_23 (by omega) ?_
      refine g_aload_n (pc := 24) 1 dX5_keep_24 rfl rfl ?_
      refine g_get (pc := 25) dX5_keep_25 fk_X5_13 (lk_eq (lk_ne (Ne.symm hok) (lk_ne (Ne.symm hos) ho))) rfl ?_
      refine g_iload_n (pc := 28) 0 dX5_keep_28 rfl rfl ?_
      refine g_aald (pc := 29) (v := .ref v) i dX5_keep_29 (lk_ne hos (lk_ne (Ne.symm hsk) (lk_eq hs))) (by decide) (IXn (by omega) (by omega)) hci ?_
      refine g_aast (pc := 30) (i - 1) dX5_keep_30 (lk_ne hos (lk_ne (Ne.symm hsk) (lk_eq hs))) (by decide) (IXn (by omega) (by omega)) (lk_ne hov (lk_ne hkv (lk_ne hsv hv))) rfl ?_
      refine GP.weq (((w.set s (aR 5 8 (va_up ch (i - 1) (some v)))).set k (aI 0 8 cg)).set o (.inr (5, [.ref s, .ref k, .int (nI 8)]))) (by rw [List.set_comm _ _ hos, List.set_comm _ _ (Ne.symm hsk), List.set_set]) ?_
      refine g_aload_n (pc := 31) 1 dX5_keep_31 rfl rfl ?_
      refine g_get (pc := 32) dX5_keep_32 fk_X5_17 (lk_eq (lk_ne (Ne.symm hok) (lk_ne (Ne.symm hos) ho))) rfl ?_
      refine g_iload_n (pc := 35) 0 dX5_keep_35 rfl rfl ?_
      refine g_iconst (pc := 36) (v := nI 1) dX5_keep_36 (by decide) ?_
      refine n_isub (pc := 37) dX5_keep_37 (by omega) ?_
      refine g_aload_n (pc := 38) 1 dX5_keep_38 rfl rfl ?_
      refine g_get (pc := 39) dX5_keep_39 fk_X5_17 (lk_eq (lk_ne (Ne.symm hok) (lk_ne (Ne.symm hos) ho))) rfl ?_
      refine g_iload_n (pc := 42) 0 dX5_keep_42 rfl rfl ?_
      refine g_iald (pc := 43) i dX5_keep_43 (lk_ne hok (lk_eq (lk_ne hsk hk))) (IXn (by omega) (by omega)) ?_
      refine g_iast (pc := 44) (i - 1) dX5_keep_44 (lk_ne hok (lk_eq (lk_ne hsk hk))) (IXn (by omega) (by omega)) ?_
      refine GP.weq (((w.set s (aR 5 8 (va_up ch (i - 1) (some v)))).set k (aI 0 8 (upd cg (i - 1) (cg i)))).set o (.inr (5, [.ref s, .ref k, .int (nI 8)]))) (by rw [List.set_comm _ _ hok, List.set_set]) ?_
      refine n_iinc (pc := 45) (c := 1) [(3, .int (nI (i + 1))), (0, .ref o), (1, .int y), (2, .ref x)] 0 dX5_keep_45 rfl (by decide) (by decide) rfl ?_
      refine g_goto (pc := 48) 11 dX5_keep_48 (by decide) ?_
      refine GP.lsub _ (by simp) (ih (i + 1) _ _ (by omega) (by omega) (fun j hj => ?_) (fun j hj => ?_))
      · by_cases hji : j = i - 1
        · subst hji; rw [vaup_s, if_pos (by omega), show i - 1 + 1 = i by omega, hhv]
        · rw [vaup_n hji, h1 j hj]
          by_cases hc : j + 1 < i
          · rw [if_pos hc, if_pos (by omega)]
          · rw [if_neg hc, if_neg (by omega)]
      · by_cases hji : j = i - 1
        · subst hji; rw [upd_s, if_pos (by omega), show i - 1 + 1 = i by omega, h2 i (by omega), if_neg (by omega)]
        · rw [upd_n hji, h2 j hj]
          by_cases hc : j + 1 < i
          · rw [if_pos hc, if_pos (by omega)]
          · rw [if_neg hc, if_neg (by omega)]
theorem sp_keep (w : Wd) {o s k sz : Nat} {h : Nat → Option Nat} {g : Nat → Int32} (ho : w[o]? = some (oA s k sz)) (hs : w[s]? = some (aR 5 8 h)) (hk : w[k]? = some (aI 0 8 g)) (hos : o ≠ s) (hok : o ≠ k) (hsk : s ≠ k) {x : Nat} {y : Int32} {fs : List Value} (hx : w[x]? = some (.inr (7, fs))) (hox : o ≠ x) (hsx : s ≠ x) (hkx : k ≠ x) (h8 : sz < 8) : EX5_keep [.ref o, .int y, .ref x] w (fun r w' => r = none ∧ w' = ((w.set s (aR 5 8 (va_up h sz (some x)))).set k (aI 0 8 (upd g sz y))).set o (oA s k (sz + 1))) := by
  refine EP.of (plainFor_of_name (by decide)) [(0, .ref o), (1, .int y), (2, .ref x)] rfl (Nat.le_of_ble_eq_true rfl) (fun r wf h => by obtain ⟨rfl, -⟩ := h; trivial) ?_
  show BX5_keep w _ w 0 [(0, .ref o), (1, .int y), (2, .ref x)] []
  refine GP.weq (((w.set s (aR 5 8 h)).set k (aI 0 8 g)).set o (oA s k sz)) (by rw [set_same hs, set_same hk, set_same ho]) ?_
  refine g_aload_n (pc := 0) 0 dX5_keep_0 rfl rfl ?_
  refine g_get (pc := 1) dX5_keep_1 fk_X5_21 (lk_eq (lk_ne (Ne.symm hok) (lk_ne (Ne.symm hos) ho))) rfl ?_
  refine g_bipush (pc := 4) (v := nI 8) dX5_keep_4 (by decide) ?_
  refine n_icmp_ne (pc := 6) 61 dX5_keep_6 (by decide) (by omega) (by omega) (fun h1 => ?_) (fun h1 => ?_)
  · exact GP.lsub _ (by intro q hq; exact hq) (kp_end ho hs hk hos hok hsk hx hox hsx hkx h8)
  · exact absurd h1 (by omega)
theorem sp_keepFull (w : Wd) {o s k sz : Nat} {h : Nat → Option Nat} {g : Nat → Int32} (ho : w[o]? = some (oA s k sz)) (hs : w[s]? = some (aR 5 8 h)) (hk : w[k]? = some (aI 0 8 g)) (hos : o ≠ s) (hok : o ≠ k) (hsk : s ≠ k) {x : Nat} {y : Int32} {fs : List Value} (hx : w[x]? = some (.inr (7, fs))) (hox : o ≠ x) (hsx : s ≠ x) (hkx : k ≠ x) (h8 : sz = 8) (hall : ∀ i, i < 8 → ∃ v, h i = some v ∧ isSh w v) : EX5_keep [.ref o, .int y, .ref x] w (fun r w' => r = none ∧ ∃ h' g', (∀ j, j < 8 → h' j = if j < 7 then h (j + 1) else some x) ∧ (∀ j, j < 8 → g' j = if j < 7 then g (j + 1) else y) ∧ w' = ((w.set s (aR 5 8 h')).set k (aI 0 8 g')).set o (oA s k 8)) := by
  refine EP.of (plainFor_of_name (by decide)) [(0, .ref o), (1, .int y), (2, .ref x)] rfl (Nat.le_of_ble_eq_true rfl) (fun r wf h => by obtain ⟨rfl, -⟩ := h; trivial) ?_
  show BX5_keep w _ w 0 [(0, .ref o), (1, .int y), (2, .ref x)] []
  subst h8
  refine GP.weq (((w.set s (aR 5 8 h)).set k (aI 0 8 g)).set o (oA s k 8)) (by rw [set_same hs, set_same hk, set_same ho]) ?_
  refine g_aload_n (pc := 0) 0 dX5_keep_0 rfl rfl ?_
  refine g_get (pc := 1) dX5_keep_1 fk_X5_21 (lk_eq (lk_ne (Ne.symm hok) (lk_ne (Ne.symm hos) ho))) rfl ?_
  refine g_bipush (pc := 4) (v := nI 8) dX5_keep_4 (by decide) ?_
  refine n_icmp_ne (pc := 6) 61 dX5_keep_6 (by decide) (by omega) (by omega) (fun h1 => ?_) (fun h1 => ?_)
  · exact absurd rfl h1
  · refine g_iconst (pc := 9) (v := nI 1) dX5_keep_9 (by decide) ?_
    refine g_istore_n (pc := 10) [(3, .int (nI 1)), (0, .ref o), (1, .int y), (2, .ref x)] dX5_keep_10 rfl (by decide) rfl ?_
    exact GP.lsub _ (by simp) (kp_loop ho hs hk hos hok hsk hx hox hsx hkx hall 7 1 h g (by omega) (by omega) (fun j hj => by rw [if_neg (by omega)]) (fun j hj => by rw [if_neg (by omega)]))
