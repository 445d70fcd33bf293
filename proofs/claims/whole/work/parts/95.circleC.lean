/-! Circle: its constructor -/
theorem EX.trn {S S' : Nat → Prop} {w w1 w2 : Wd} {k1 k2 s1 s2 : Nat} (h1 : EX S k1 s1 w w1) (h2 : EX S' k2 s2 w1 w2) (hS : ∀ i, S' i → S i ∨ w.length ≤ i) : EX S (k1 + k2) (s1 + s2) w w2 := by
  obtain ⟨a1, a2, a3, a4, a5⟩ := h1
  obtain ⟨b1, b2, b3, b4, b5⟩ := h2
  refine ⟨by omega, by omega, by omega, by omega, fun i hi hn => ?_⟩
  rw [b5 i (by omega) (fun g => by
    rcases hS i g with g9 | g9
    · exact hn g9
    · omega)]
  exact a5 i hi hn
theorem EX.lkn {S : Nat → Prop} {w w1 w2 : Wd} {k s i : Nat} {c : Ce} (h : EX S k s w w1) (hi : ¬ S i) (hc : w[i]? = some c) : w1[i]? = some c := h.lk hi hc
def cyN : Nat → Nat
  | 0 => 0
  | n + 1 => cyN n + if (cyL.getD n []).isEmpty then 0 else 1
theorem cyN_27 : cyN 43 = 27 := by decide +kernel
theorem cyN_y {n : Nat} (h : cyIs n) : cyN (n + 1) = cyN n + 1 := by
  have e : (cyL.getD n []).isEmpty = false := by
    cases e9 : cyL.getD n [] with
    | nil => exact absurd e9 h
    | cons a l => rfl
  show cyN n + (if (cyL.getD n []).isEmpty = true then 0 else 1) = _
  rw [e]
  rfl
theorem cyN_n {n : Nat} (h : ¬ cyIs n) : cyN (n + 1) = cyN n := by
  have e : cyL.getD n [] = [] := Decidable.not_not.mp h
  show cyN n + (if (cyL.getD n []).isEmpty = true then 0 else 1) = _
  rw [e]
  rfl
def cirI (C k : Nat) (w : Wd) : Prop := w.length = C + 6 + 2 * cyN k ∧ w[C]? = some (oC (C + 1) (C + 2) (C + 3) (C + 4) (C + 5) 0 0) ∧ (∃ lf, w[C + 3]? = some (aL 13 lf)) ∧ (∃ rs, w[C + 4]? = some (aL 13 rs)) ∧ (∃ qs, w[C + 5]? = some (aL 13 qs)) ∧ ∃ pf mf, w[C + 1]? = some (aR 4 43 pf) ∧ w[C + 2]? = some (aL 43 mf) ∧ ∀ n, n < 43 → (¬ (cyIs n ∧ n < k) → pf n = none ∧ (mf n).toInt = 0) ∧ (cyIs n ∧ n < k → ∃ v b f, pf n = some v ∧ (C + 5 < v ∧ v < w.length) ∧ (C + 5 < b ∧ b < w.length) ∧ w[v]? = some (oP (cyDg n) b) ∧ w[b]? = some (aI 0 (cyDg n + 1) f) ∧ (∀ j, j ≤ cyDg n → (f j).toInt = cyG n j) ∧ (mf n).toInt = hev (cyG n) 4 (cyDg n) (cyDg n + 1))
theorem cirI.skip {C k : Nat} {w : Wd} (h : cirI C k w) (hc : ¬ cyIs k) : cirI C (k + 1) w := by
  obtain ⟨h1, h2, h3, h4, h5, pf, mf, h6, h7, h8⟩ := h
  refine ⟨by rw [cyN_n hc]; exact h1, h2, h3, h4, h5, pf, mf, h6, h7, fun n hn => ⟨fun g => (h8 n hn).1 (fun g9 => g ⟨g9.1, by omega⟩), fun g => (h8 n hn).2 ⟨g.1, ?_⟩⟩⟩
  have hne : n ≠ k := fun e => hc (e ▸ g.1)
  have := g.2
  omega
theorem cirI.row {C k : Nat} {w : Wd} {g : Nat → Int64} (h : cirI C k w) : cirI C k (w.set (C + 3) (aL 13 g)) := by
  obtain ⟨h1, h2, ⟨lf, h3⟩, ⟨rs, h4⟩, ⟨qs, h5⟩, pf, mf, h6, h7, h8⟩ := h
  have L : ∀ i c, i ≠ C + 3 → w[i]? = some c → (w.set (C + 3) (aL 13 g))[i]? = some c := fun i c a b => lk_ne (Ne.symm a) b
  refine ⟨by rw [List.length_set]; exact h1, L _ _ (by omega) h2, ⟨g, lk_eq h3⟩, ⟨rs, L _ _ (by omega) h4⟩, ⟨qs, L _ _ (by omega) h5⟩, pf, mf, L _ _ (by omega) h6, L _ _ (by omega) h7, fun n hn => ⟨(h8 n hn).1, fun g9 => ?_⟩⟩
  obtain ⟨v, b, f, a1, a2, a3, a4, a5, a6, a7⟩ := (h8 n hn).2 g9
  exact ⟨v, b, f, a1, by rw [List.length_set]; exact a2, by rw [List.length_set]; exact a3, L _ _ (by omega) a4, L _ _ (by omega) a5, a6, a7⟩
theorem hev_cg {F G : Nat → Int} {x : Int} {n : Nat} (h : ∀ j, j ≤ n → F j = G j) : ∀ m, m ≤ n + 1 → hev F x n m = hev G x n m
  | 0, _ => rfl
  | m + 1, hm => by
    show hev F x n m * x + F (n - m) = hev G x n m * x + G (n - m)
    rw [hev_cg h m (by omega), h (n - m) (by omega)]
theorem cirI.put {C k : Nat} {w w' : Wd} {pf : Nat → Option Nat} {mf : Nat → Int64} {f : Nat → Int32} {v : Int64} (h : cirI C k w) (hk : k < 43) (hc : cyIs k) (h6 : w[C + 1]? = some (aR 4 43 pf)) (h7 : w[C + 2]? = some (aL 43 mf)) (hf : ∀ j, j ≤ cyDg k → (f j).toInt = cyG k j) (hv : v.toInt = hev (cyG k) 4 (cyDg k) (cyDg k + 1)) (hl : w'.length = w.length + 2) (n1 : w'[w.length]? = some (oP (cyDg k) (w.length + 1))) (n2 : w'[w.length + 1]? = some (aI 0 (cyDg k + 1) f)) (n3 : w'[C + 1]? = some (aR 4 43 (va_up pf k (some w.length)))) (n4 : w'[C + 2]? = some (aL 43 (vp_updL mf k v))) (hE : EX (fun i => i = C + 1 ∨ i = C + 2) 2 15 w w') : cirI C (k + 1) w' := by
  obtain ⟨h1, h2, ⟨lf, h3⟩, ⟨rs, h4⟩, ⟨qs, h5⟩, pf9, mf9, h69, h79, h8⟩ := h
  have q3 : C + 3 < w.length := (List.getElem?_eq_some_iff.mp h3).1
  have q5 : C + 5 < w.length := (List.getElem?_eq_some_iff.mp h5).1
  have e6 : pf9 = pf := by
    have := h69.symm.trans h6
    simpa using this
  have e7 : mf9 = mf := by
    have := h79.symm.trans h7
    simpa using this
  rw [e6, e7] at h8
  have L : ∀ i c, i ≠ C + 1 → i ≠ C + 2 → w[i]? = some c → w'[i]? = some c := fun i c a b g => hE.lk (fun g9 => by rcases g9 with g9 | g9; exact a g9; exact b g9) g
  refine ⟨by rw [cyN_y hc]; omega, L _ _ (by omega) (by omega) h2, ⟨lf, L _ _ (by omega) (by omega) h3⟩, ⟨rs, L _ _ (by omega) (by omega) h4⟩, ⟨qs, L _ _ (by omega) (by omega) h5⟩, _, _, n3, n4, fun n hn => ?_⟩
  by_cases e : n = k
  · subst e
    refine ⟨fun g => absurd ⟨hc, Nat.lt_succ_self _⟩ g, fun _ => ⟨w.length, w.length + 1, f, by rw [vaup_s], by omega, by omega, n1, n2, hf, ?_⟩⟩
    rw [upL_s]
    exact hv
  · refine ⟨fun g => ?_, fun g => ?_⟩
    · rw [vaup_n e, upL_n e]
      exact (h8 n hn).1 (fun g9 => g ⟨g9.1, by have := g9.2; omega⟩)
    · rw [vaup_n e, upL_n e]
      obtain ⟨v, b, f, a1, a2, a3, a4, a5, a6, a7⟩ := (h8 n hn).2 ⟨g.1, by have := g.2; omega⟩
      exact ⟨v, b, f, a1, by omega, by omega, L _ _ (by omega) (by omega) a4, L _ _ (by omega) (by omega) a5, a6, a7⟩
theorem cirI.all {C : Nat} {w : Wd} (h : cirI C 43 w) : w.length = C + 60 ∧ cirA w C := by
  obtain ⟨h1, h2, ⟨lf, h3⟩, ⟨rs, h4⟩, ⟨qs, h5⟩, pf, mf, h6, h7, h8⟩ := h
  rw [cyN_27] at h1
  have h19 : w.length = C + 60 := h1
  refine ⟨h19, 0, 0, lf, h2, ⟨pf, mf, h6, h7, fun n hn => ⟨fun g => (h8 n hn).1 (fun g9 => g g9.1), fun g => ?_⟩⟩, h3, ⟨rs, h4⟩, ⟨qs, h5⟩⟩
  obtain ⟨v, b, f, a1, a2, a3, a4, a5, a6, a7⟩ := (h8 n hn).2 ⟨g, hn⟩
  exact ⟨v, b, f, a1, by omega, by omega, a4, a5, a6, a7⟩
theorem cy_bd {k dg : Nat} {lf : Nat → Int64} (hk : k < 43) (hd : dg ≤ 12) (h : ∀ j, j ≤ dg → (lf j).toInt = cyG k j) : ∀ j, j ≤ dg → -1000000000 ≤ (lf j).toInt ∧ (lf j).toInt ≤ 1000000000 := by
  intro j hj
  rw [h j hj]
  obtain ⟨p1, p2⟩ := cy_sm ⟨k, hk⟩ ⟨j, by omega⟩
  have p3 : -9999 ≤ cyG k j := p1
  have p4 : cyG k j ≤ 9999 := p2
  omega
theorem cy_nI {n : Nat} {v : Int32} (h : v.toInt = (n : Int)) (hn : n ≤ 12) : v = nI n := Int32.toInt.inj (h.trans (show (n : Int) = (nI n).toInt from (nI_toInt (by omega)).symm))
abbrev BX0_init (w0 : Wd) (Post : Option Value → Wd → Prop) (w : Wd) (pc : Nat) (ls : List (Nat × Value)) (st : List Value) : Prop := GP "<init>" RX0 cX0_init 3 none 3 117 none w0 Post w pc ls st
abbrev EX0_init (As : List Value) (w : Wd) (Post : Option Value → Wd → Prop) : Prop := EP yX0_init cX0_init 3 none 3 As w Post
theorem ci_loop {w0 w : Wd} {o : Nat} (ho : o + 1 = w.length) : ∀ (z k : Nat) (w1 : Wd), 43 = k + z → 1 ≤ k → cirI o k w1 → EX (fun i => i = o) (5 + 2 * cyN k) (125 + 15 * cyN k) w w1 → BX0_init w0 (fun r w' => r = none ∧ w'.length = o + 60 ∧ EX (fun i => i = o) 59 530 w w' ∧ cirA w' o) w1 70 [(1, .int (nI k)), (0, .ref o)] [] := by
  intro z
  induction z with
  | zero =>
    intro k w1 hz hk hI hE
    refine g_iload_n (pc := 70) 0 dX0_init_70 rfl rfl ?_
    refine g_bipush (pc := 71) (v := nI 42) dX0_init_71 (by decide) ?_
    refine n_icmp_gt (pc := 73) 100 dX0_init_73 (by decide) (by omega) (by omega) (fun hb9 => ?_) (fun hb9 => ?_)
    · have hk9 : k = 43 := by omega
      subst hk9
      rw [cyN_27] at hE
      obtain ⟨hl, hA⟩ := hI.all
      exact g_vret (pc := 100) dX0_init_100 ⟨rfl, hl, hE, hA⟩
    · exact absurd hb9 (by omega)
  | succ z ih =>
    intro k w1 hz hk hI hE
    have hI9 := hI
    obtain ⟨hl, h2, ⟨lf, h3⟩, h4, h5, pf, mf, h6, h7, h8⟩ := hI9
    refine g_iload_n (pc := 70) 0 dX0_init_70 rfl rfl ?_
    refine g_bipush (pc := 71) (v := nI 42) dX0_init_71 (by decide) ?_
    refine n_icmp_gt (pc := 73) 100 dX0_init_73 (by decide) (by omega) (by omega) (fun hb9 => ?_) (fun hb9 => ?_)
    · exact absurd hb9 (by omega)
    · refine g_aload_n (pc := 76) 1 dX0_init_76 rfl rfl ?_
      refine g_iload_n (pc := 77) 0 dX0_init_77 rfl rfl ?_
      refine g_callV (pc := 78) [.int (nI k)] dX0_init_78 cv_X0_42.1 cv_X0_42.2.1 cv_X0_42.2.2.1 cv_X0_42.2.2.2 h2 rfl rfl (Nat.le_of_ble_eq_true rfl) (by decide) (by decide) (sp_writeCyclotomic _ (n := k) h2 h3 (by omega)) ?_
      rintro _ w9 ⟨v, g, rfl, hw, e9⟩
      obtain ⟨w2, hw2⟩ : ∃ w2 : Wd, w2 = w1.set (o + 3) (aL 13 g) := ⟨_, rfl⟩
      refine GP.weq w2 (e9.trans hw2.symm) ?_
      have hI2 : cirI o k w2 := by rw [hw2]; exact hI.row
      have hE2 : EX (fun i => i = o) (5 + 2 * cyN k) (125 + 15 * cyN k) w w2 := by rw [hw2]; exact hE.stp h3 rfl (Or.inr (by omega))
      have L2 : ∀ i c, i ≠ o + 3 → w1[i]? = some c → w2[i]? = some c := fun i c a b => by rw [hw2]; exact lk_ne (Ne.symm a) b
      have h32 : w2[o + 3]? = some (aL 13 g) := by rw [hw2]; exact lk_eq h3
      obtain ⟨ta, tb⟩ := wc_table hk (by omega) hw
      by_cases hc : cyIs k
      · · obtain ⟨tc, td⟩ := tb hc
          have hd : cyDg k ≤ 12 := (cy_dg ⟨k, by omega⟩ hc).2.1
          rw [cy_nI tc hd]
          refine g_istore_n (pc := 81) [(2, .int (nI (cyDg k))), (1, .int (nI k)), (0, .ref o)] dX0_init_81 rfl (by decide) rfl ?_
          refine g_iload_n (pc := 82) 0 dX0_init_82 rfl rfl ?_
          refine g_bipush (pc := 83) (v := nI 12) dX0_init_83 (by decide) ?_
          refine n_icmp_gt (pc := 85) 94 dX0_init_85 (by decide) (by omega) (by omega) (fun hb8 => ?_) (fun hb8 => ?_)
          · exact absurd hb8 (by omega)
          · refine g_aload_n (pc := 88) 2 dX0_init_88 rfl rfl ?_
            refine g_iload_n (pc := 89) 1 dX0_init_89 rfl rfl ?_
            refine g_iload_n (pc := 90) 0 dX0_init_90 rfl rfl ?_
            refine g_callV (pc := 91) [.int (nI k), .int (nI (cyDg k))] dX0_init_91 cv_X0_38.1 cv_X0_38.2.1 cv_X0_38.2.2.1 cv_X0_38.2.2.2 (L2 _ _ (by omega) h2) rfl rfl (Nat.le_of_ble_eq_true rfl) (by decide) (by decide) (sp_cput _ (n := k) (dg := cyDg k) (L2 _ _ (by omega) h2) (L2 _ _ (by omega) h6) (L2 _ _ (by omega) h7) h32 (by omega) hd (cy_bd (by omega) hd td)) ?_
            rintro _ w3 ⟨rfl, f, v, hf, hv, c1, c2, c3, c4, c5, c6⟩
            have hI3 := hI2.put (by omega) hc (L2 _ _ (by omega) h6) (L2 _ _ (by omega) h7) (fun j hj => (hf j hj).trans (td j hj)) (hv.trans (hev_cg td _ (Nat.le_refl _))) c1 c2 c3 c4 c5 c6
            have hE3 : EX (fun i => i = o) (5 + 2 * cyN (k + 1)) (125 + 15 * cyN (k + 1)) w w3 := by
              rw [cyN_y hc]
              exact (hE2.trn c6 (fun i hi => Or.inr (by omega))).le (by omega) (by omega)
            refine n_iinc (pc := 94) (c := 1) [(1, .int (nI (k + 1))), (2, .int (nI (cyDg k))), (0, .ref o)] 1 dX0_init_94 rfl (by decide) (by decide) rfl ?_
            refine g_goto (pc := 97) 70 dX0_init_97 (by decide) ?_
            exact GP.lsub _ (by simp) (ih (k + 1) w3 (by omega) (by omega) hI3 hE3)
      · · have t9 := ta hc
          refine g_istore_n (pc := 81) [(2, .int v), (1, .int (nI k)), (0, .ref o)] dX0_init_81 rfl (by decide) rfl ?_
          refine g_iload_n (pc := 82) 0 dX0_init_82 rfl rfl ?_
          refine g_bipush (pc := 83) (v := nI 12) dX0_init_83 (by decide) ?_
          refine g_icmp_gt (pc := 85) 94 dX0_init_85 (by decide) (fun hb8 => ?_) (fun hb8 => ?_)
          · refine n_iinc (pc := 94) (c := 1) [(1, .int (nI (k + 1))), (2, .int v), (0, .ref o)] 1 dX0_init_94 rfl (by decide) (by decide) rfl ?_
            refine g_goto (pc := 97) 70 dX0_init_97 (by decide) ?_
            exact GP.lsub _ (by simp) (ih (k + 1) w2 (by omega) (by omega) (hI2.skip hc) (by rw [cyN_n hc]; exact hE2))
          · exact absurd (Int32.lt_iff_toInt_lt.mpr (show (12 : Int32).toInt < v.toInt from t9)) hb8
theorem sp_newCircle (w : Wd) {o : Nat} (ho : o + 1 = w.length) (hH : w[o]? = some (.inr (0, [.null, .null, .null, .null, .null, .int 0, .long 0]))) : EX0_init [.ref o] w (fun r w' => r = none ∧ w'.length = o + 60 ∧ EX (fun i => i = o) 59 530 w w' ∧ cirA w' o) := by
  refine EP.of (plainFor_of_name (by decide)) [(0, .ref o)] rfl (Nat.le_of_ble_eq_true rfl) (fun r wf h => by obtain ⟨rfl, -⟩ := h; trivial) ?_
  show BX0_init w _ w 0 [(0, .ref o)] []
  refine g_aload_n (pc := 0) 0 dX0_init_0 rfl rfl ?_
  refine g_oinit (pc := 1) dX0_init_1 ol_X0_3 oi_in oi_co (by decide) (Nat.le_of_ble_eq_true rfl) (by decide) ?_
  refine g_aload_n (pc := 4) 0 dX0_init_4 rfl rfl ?_
  refine g_bipush (pc := 5) (v := nI 43) dX0_init_5 (by decide) ?_
  refine g_newq (pc := 7) (k := 4) 43 dX0_init_7 cl_X0_9 (Or.inl ⟨rfl, rfl⟩) (by decide) (by decide) ?_
  refine GP.tr (o + 1) ho.symm ?_
  refine g_putF (pc := 10) [.ref (o + 1), .null, .null, .null, .null, .int 0, .long 0] dX0_init_10 fk_X0_11 (fun _ _ _ h => by cases h; rfl) rfl (lk_app hH) (Nat.le_of_ble_eq_true rfl) rfl rfl ?_
  obtain ⟨w1, hw1⟩ : ∃ w9 : Wd, w9 = ((w ++ [aR 4 43 (fun _ => none)]).set o (.inr (0, [.ref (o + 1), .null, .null, .null, .null, .int 0, .long 0]))) := ⟨_, rfl⟩
  refine GP.weq w1 hw1.symm ?_
  have hl1 : w1.length = o + 2 := by rw [hw1, List.length_set, List.length_append]; show w.length + 1 = _; omega
  have hE1 : EX (fun i => i = o) 1 43 w w1 := by rw [hw1]; exact EX.stp (EX.le (k' := 1) (s' := 43) (EX.apd [aR 4 43 (fun _ => none)] (EX.rf (S := fun i => i = o))) (by simp) (by simp [slW, slE])) (lk_app hH) rfl (Or.inl rfl)
  have hH1 : w1[o]? = some (.inr (0, [.ref (o + 1), .null, .null, .null, .null, .int 0, .long 0])) := by rw [hw1]; exact lk_eq (lk_app hH)
  have L1 : ∀ i c, i ≠ o → w[i]? = some c → w1[i]? = some c := fun i c a b => by rw [hw1]; exact lk_ne (Ne.symm a) (lk_app b)
  have a1 : w1[o + 1]? = some (aR 4 43 (fun _ => none)) := by rw [hw1, ho]; exact lk_ne (by omega) lk_new
  refine g_aload_n (pc := 13) 0 dX0_init_13 rfl rfl ?_
  refine g_bipush (pc := 14) (v := nI 43) dX0_init_14 (by decide) ?_
  refine g_newaL (pc := 16) 43 dX0_init_16 acL (by decide) (by decide) ?_
  refine GP.tr (o + 2) hl1 ?_
  refine g_putF (pc := 18) [.ref (o + 1), .ref (o + 2), .null, .null, .null, .int 0, .long 0] dX0_init_18 fk_X0_17 (fun _ _ _ h => by cases h; rfl) rfl (lk_app hH1) (Nat.le_of_ble_eq_true rfl) rfl rfl ?_
  obtain ⟨w2, hw2⟩ : ∃ w9 : Wd, w9 = ((w1 ++ [aL 43 (fun _ => 0)]).set o (.inr (0, [.ref (o + 1), .ref (o + 2), .null, .null, .null, .int 0, .long 0]))) := ⟨_, rfl⟩
  refine GP.weq w2 hw2.symm ?_
  have hl2 : w2.length = o + 3 := by rw [hw2, List.length_set, List.length_append]; show w1.length + 1 = _; omega
  have hE2 : EX (fun i => i = o) 2 86 w w2 := by rw [hw2]; exact EX.stp (EX.le (k' := 2) (s' := 86) (EX.apd [aL 43 (fun _ => 0)] hE1) (by simp) (by simp [slW, slE])) (lk_app hH1) rfl (Or.inl rfl)
  have hH2 : w2[o]? = some (.inr (0, [.ref (o + 1), .ref (o + 2), .null, .null, .null, .int 0, .long 0])) := by rw [hw2]; exact lk_eq (lk_app hH1)
  have L2 : ∀ i c, i ≠ o → w1[i]? = some c → w2[i]? = some c := fun i c a b => by rw [hw2]; exact lk_ne (Ne.symm a) (lk_app b)
  have a2 : w2[o + 2]? = some (aL 43 (fun _ => 0)) := by rw [hw2, ← hl1]; exact lk_ne (by omega) lk_new
  refine g_aload_n (pc := 21) 0 dX0_init_21 rfl rfl ?_
  refine g_bipush (pc := 22) (v := nI 13) dX0_init_22 (by decide) ?_
  refine g_newaL (pc := 24) 13 dX0_init_24 acL (by decide) (by decide) ?_
  refine GP.tr (o + 3) hl2 ?_
  refine g_putF (pc := 26) [.ref (o + 1), .ref (o + 2), .ref (o + 3), .null, .null, .int 0, .long 0] dX0_init_26 fk_X0_21 (fun _ _ _ h => by cases h; rfl) rfl (lk_app hH2) (Nat.le_of_ble_eq_true rfl) rfl rfl ?_
  obtain ⟨w3, hw3⟩ : ∃ w9 : Wd, w9 = ((w2 ++ [aL 13 (fun _ => 0)]).set o (.inr (0, [.ref (o + 1), .ref (o + 2), .ref (o + 3), .null, .null, .int 0, .long 0]))) := ⟨_, rfl⟩
  refine GP.weq w3 hw3.symm ?_
  have hl3 : w3.length = o + 4 := by rw [hw3, List.length_set, List.length_append]; show w2.length + 1 = _; omega
  have hE3 : EX (fun i => i = o) 3 99 w w3 := by rw [hw3]; exact EX.stp (EX.le (k' := 3) (s' := 99) (EX.apd [aL 13 (fun _ => 0)] hE2) (by simp) (by simp [slW, slE])) (lk_app hH2) rfl (Or.inl rfl)
  have hH3 : w3[o]? = some (.inr (0, [.ref (o + 1), .ref (o + 2), .ref (o + 3), .null, .null, .int 0, .long 0])) := by rw [hw3]; exact lk_eq (lk_app hH2)
  have L3 : ∀ i c, i ≠ o → w2[i]? = some c → w3[i]? = some c := fun i c a b => by rw [hw3]; exact lk_ne (Ne.symm a) (lk_app b)
  have a3 : w3[o + 3]? = some (aL 13 (fun _ => 0)) := by rw [hw3, ← hl2]; exact lk_ne (by omega) lk_new
  refine g_aload_n (pc := 29) 0 dX0_init_29 rfl rfl ?_
  refine g_bipush (pc := 30) (v := nI 13) dX0_init_30 (by decide) ?_
  refine g_newaL (pc := 32) 13 dX0_init_32 acL (by decide) (by decide) ?_
  refine GP.tr (o + 4) hl3 ?_
  refine g_putF (pc := 34) [.ref (o + 1), .ref (o + 2), .ref (o + 3), .ref (o + 4), .null, .int 0, .long 0] dX0_init_34 fk_X0_24 (fun _ _ _ h => by cases h; rfl) rfl (lk_app hH3) (Nat.le_of_ble_eq_true rfl) rfl rfl ?_
  obtain ⟨w4, hw4⟩ : ∃ w9 : Wd, w9 = ((w3 ++ [aL 13 (fun _ => 0)]).set o (.inr (0, [.ref (o + 1), .ref (o + 2), .ref (o + 3), .ref (o + 4), .null, .int 0, .long 0]))) := ⟨_, rfl⟩
  refine GP.weq w4 hw4.symm ?_
  have hl4 : w4.length = o + 5 := by rw [hw4, List.length_set, List.length_append]; show w3.length + 1 = _; omega
  have hE4 : EX (fun i => i = o) 4 112 w w4 := by rw [hw4]; exact EX.stp (EX.le (k' := 4) (s' := 112) (EX.apd [aL 13 (fun _ => 0)] hE3) (by simp) (by simp [slW, slE])) (lk_app hH3) rfl (Or.inl rfl)
  have hH4 : w4[o]? = some (.inr (0, [.ref (o + 1), .ref (o + 2), .ref (o + 3), .ref (o + 4), .null, .int 0, .long 0])) := by rw [hw4]; exact lk_eq (lk_app hH3)
  have L4 : ∀ i c, i ≠ o → w3[i]? = some c → w4[i]? = some c := fun i c a b => by rw [hw4]; exact lk_ne (Ne.symm a) (lk_app b)
  have a4 : w4[o + 4]? = some (aL 13 (fun _ => 0)) := by rw [hw4, ← hl3]; exact lk_ne (by omega) lk_new
  refine g_aload_n (pc := 37) 0 dX0_init_37 rfl rfl ?_
  refine g_bipush (pc := 38) (v := nI 13) dX0_init_38 (by decide) ?_
  refine g_newaL (pc := 40) 13 dX0_init_40 acL (by decide) (by decide) ?_
  refine GP.tr (o + 5) hl4 ?_
  refine g_putF (pc := 42) [.ref (o + 1), .ref (o + 2), .ref (o + 3), .ref (o + 4), .ref (o + 5), .int 0, .long 0] dX0_init_42 fk_X0_27 (fun _ _ _ h => by cases h; rfl) rfl (lk_app hH4) (Nat.le_of_ble_eq_true rfl) rfl rfl ?_
  obtain ⟨w5, hw5⟩ : ∃ w9 : Wd, w9 = ((w4 ++ [aL 13 (fun _ => 0)]).set o (.inr (0, [.ref (o + 1), .ref (o + 2), .ref (o + 3), .ref (o + 4), .ref (o + 5), .int 0, .long 0]))) := ⟨_, rfl⟩
  refine GP.weq w5 hw5.symm ?_
  have hl5 : w5.length = o + 6 := by rw [hw5, List.length_set, List.length_append]; show w4.length + 1 = _; omega
  have hE5 : EX (fun i => i = o) 5 125 w w5 := by rw [hw5]; exact EX.stp (EX.le (k' := 5) (s' := 125) (EX.apd [aL 13 (fun _ => 0)] hE4) (by simp) (by simp [slW, slE])) (lk_app hH4) rfl (Or.inl rfl)
  have hH5 : w5[o]? = some (.inr (0, [.ref (o + 1), .ref (o + 2), .ref (o + 3), .ref (o + 4), .ref (o + 5), .int 0, .long 0])) := by rw [hw5]; exact lk_eq (lk_app hH4)
  have L5 : ∀ i c, i ≠ o → w4[i]? = some c → w5[i]? = some c := fun i c a b => by rw [hw5]; exact lk_ne (Ne.symm a) (lk_app b)
  have a5 : w5[o + 5]? = some (aL 13 (fun _ => 0)) := by rw [hw5, ← hl4]; exact lk_ne (by omega) lk_new
  refine g_aload_n (pc := 45) 0 dX0_init_45 rfl rfl ?_
  refine g_iconst (pc := 46) (v := nI 0) dX0_init_46 (by decide) ?_
  refine g_put (pc := 47) [.ref (o + 1), .ref (o + 2), .ref (o + 3), .ref (o + 4), .ref (o + 5), .int (nI 0), .long 0] dX0_init_47 fk_X0_30 hH5 (Nat.le_of_ble_eq_true rfl) rfl rfl ?_
  refine g_aload_n (pc := 50) 0 dX0_init_50 rfl rfl ?_
  refine g_lconst (pc := 51) (v := 0) dX0_init_51 (by decide) ?_
  refine g_put (pc := 52) [.ref (o + 1), .ref (o + 2), .ref (o + 3), .ref (o + 4), .ref (o + 5), .int (nI 0), .long 0] dX0_init_52 fk_X0_34 (lk_eq hH5) (Nat.le_of_ble_eq_true rfl) rfl rfl ?_
  refine GP.weq (w5.set o (.inr (0, [.ref (o + 1), .ref (o + 2), .ref (o + 3), .ref (o + 4), .ref (o + 5), .int (nI 0), .long 0]))) (by rw [List.set_set]) ?_
  refine g_aload_n (pc := 55) 0 dX0_init_55 rfl rfl ?_
  refine g_get (pc := 56) dX0_init_56 fk_X0_21 (lk_eq hH5) rfl ?_
  refine g_iconst (pc := 59) (v := nI 1) dX0_init_59 (by decide) ?_
  refine g_lconst (pc := 60) (v := 1) dX0_init_60 (by decide) ?_
  refine g_last (pc := 61) 1 dX0_init_61 (lk_ne (by omega) (L5 _ _ (by omega) (L4 _ _ (by omega) a3))) (IXn (by omega) (by omega)) ?_
  refine g_aload_n (pc := 62) 0 dX0_init_62 rfl rfl ?_
  refine g_iconst (pc := 63) (v := nI 0) dX0_init_63 (by decide) ?_
  refine g_iconst (pc := 64) (v := nI 1) dX0_init_64 (by decide) ?_
  obtain ⟨w6, hw6⟩ : ∃ w9 : Wd, w9 = ((w5.set o (.inr (0, [.ref (o + 1), .ref (o + 2), .ref (o + 3), .ref (o + 4), .ref (o + 5), .int (nI 0), .long 0]))).set (o + 3) (aL 13 (vp_updL (fun _ => 0) 1 1))) := ⟨_, rfl⟩
  refine GP.weq w6 hw6.symm ?_
  have hC6 : w6[o]? = some (oC (o + 1) (o + 2) (o + 3) (o + 4) (o + 5) 0 0) := by rw [hw6]; exact lk_ne (by omega) (lk_eq hH5)
  have L6 : ∀ i c, i ≠ o → i ≠ o + 3 → w5[i]? = some c → w6[i]? = some c := fun i c a b g => by rw [hw6]; exact lk_ne (Ne.symm b) (lk_ne (Ne.symm a) g)
  have h36 : w6[o + 3]? = some (aL 13 (vp_updL (fun _ => 0) 1 1)) := by rw [hw6]; exact lk_eq (lk_ne (by omega) (L5 _ _ (by omega) (L4 _ _ (by omega) a3)))
  have hl6 : w6.length = o + 6 := by rw [hw6]; simp only [List.length_set]; exact hl5
  have hE6 : EX (fun i => i = o) 5 125 w w6 := by rw [hw6]; exact EX.stp (EX.stp hE5 hH5 rfl (Or.inl rfl)) (lk_ne (by omega) (L5 _ _ (by omega) (L4 _ _ (by omega) a3))) rfl (Or.inr (by omega))
  have h16 := L6 _ _ (by omega) (by omega) (L5 _ _ (by omega) (L4 _ _ (by omega) (L3 _ _ (by omega) (L2 _ _ (by omega) a1))))
  have h26 := L6 _ _ (by omega) (by omega) (L5 _ _ (by omega) (L4 _ _ (by omega) (L3 _ _ (by omega) a2)))
  have h46 := L6 _ _ (by omega) (by omega) (L5 _ _ (by omega) a4)
  have h56 := L6 _ _ (by omega) (by omega) a5
  have hI6 : cirI o 0 w6 := ⟨hl6, hC6, ⟨_, h36⟩, ⟨_, h46⟩, ⟨_, h56⟩, _, _, h16, h26, fun n hn => ⟨fun _ => ⟨rfl, by decide⟩, fun g => absurd g.2 (Nat.not_lt_zero _)⟩⟩
  have td : ∀ j, j ≤ cyDg 0 → (vp_updL (fun _ => (0 : Int64)) 1 1 j).toInt = cyG 0 j := by
    intro j hj
    have hj9 : j ≤ 1 := hj
    have : j = 0 ∨ j = 1 := by omega
    rcases this with e | e <;> (rw [e]; decide)
  refine g_callV (pc := 65) [.int (nI 0), .int (nI 1)] dX0_init_65 cv_X0_38.1 cv_X0_38.2.1 cv_X0_38.2.2.1 cv_X0_38.2.2.2 hC6 rfl rfl (Nat.le_of_ble_eq_true rfl) (by decide) (by decide) (sp_cput _ (n := 0) (dg := 1) hC6 h16 h26 h36 (by omega) (by omega) (cy_bd (k := 0) (by omega) (by omega) td)) ?_
  rintro _ w7 ⟨rfl, f, v, hf, hv, c1, c2, c3, c4, c5, c6⟩
  have hy0 : cyIs 0 := by show cyL.getD 0 [] ≠ []; decide
  have hI7 := hI6.put (by omega) hy0 h16 h26 (fun j hj => (hf j hj).trans (td j hj)) (hv.trans (hev_cg td _ (Nat.le_refl _))) c1 c2 c3 c4 c5 c6
  have hE7 : EX (fun i => i = o) (5 + 2 * cyN (0 + 1)) (125 + 15 * cyN (0 + 1)) w w7 := by
    rw [cyN_y hy0]
    exact (hE6.trn c6 (fun i hi => Or.inr (by omega))).le (by decide) (by decide)
  refine g_iconst (pc := 68) (v := nI 1) dX0_init_68 (by decide) ?_
  refine g_istore_n (pc := 69) [(1, .int (nI 1)), (0, .ref o)] dX0_init_69 rfl (by decide) rfl ?_
  exact GP.lsub _ (by simp) (ci_loop ho 42 1 w7 (by omega) (by omega) hI7 hE7)
