/-! MahlerBox: plus, turn, cyclotomic -/
abbrev BX11_plus (w0 : Wd) (Post : Option Value → Wd → Prop) (w : Wd) (pc : Nat) (ls : List (Nat × Value)) (st : List Value) : Prop := GP "plus" RX11 cX11_plus 7 (some .int) 4 156 none w0 Post w pc ls st
abbrev EX11_plus (As : List Value) (w : Wd) (Post : Option Value → Wd → Prop) : Prop := EP yX11_plus cX11_plus 7 (some .int) 4 As w Post
theorem pl_loop {w0 w : Wd} {Post : Option Value → Wd → Prop} {X s k vv b n : Nat} {ho9 : Int32} {fa st : Int32} {g : Nat → Int64} {c : Nat → Int32} {A C : Nat → Int} (hX : w[X]? = some (oB X s fa st)) (hr : w[X + 136]? = some (aL 25 g)) (hv : w[vv]? = some (oP n b)) (hb : w[b]? = some (aI 0 (n + 1) c)) (hv0 : X + 139 ≤ vv) (hb0 : X + 139 ≤ b) (hn : n ≤ 12) (hc : ∀ j, j ≤ n → (c j).toInt = C j) (hcb : ∀ j, j ≤ n → -9999 ≤ C j ∧ C j ≤ 9999) (hA : ∀ j, j < 25 → -9999 ≤ A j ∧ A j ≤ 9999) (hhow : ho9 = nI 0 ∨ ho9 = nI 1) (hx : ∀ cur, (∀ t, t < 25 → (cur t).toInt = A t + if t ≤ n then (if ho9 = nI 0 then C t else -C t) else 0) → BX11_plus w0 Post (w.set (X + 136) (aL 25 cur)) 124 [(0, .ref X), (4, .int (nI k))] []) : ∀ (z i : Nat) (cur : Nat → Int64), n + 1 = i + z → (∀ t, t < 25 → (cur t).toInt = A t + if t < i then (if ho9 = nI 0 then C t else -C t) else 0) → BX11_plus w0 Post (w.set (X + 136) (aL 25 cur)) 72 [(6, .int (nI i)), (5, .ref vv), (0, .ref X), (1, .int ho9), (4, .int (nI k))] [] := by
  intro z
  induction z with
  | zero =>
    intro i cur hz hcur
    refine g_iload (pc := 72) 0 dX11_plus_72 rfl ?_
    refine g_aload (pc := 74) 1 dX11_plus_74 rfl ?_
    refine g_get (pc := 76) dX11_plus_76 fk_X11_132 (lk_ne (show X + 136 ≠ vv by omega) hv) rfl ?_
    refine n_icmp_gt (pc := 79) 124 dX11_plus_79 (by decide) (by omega) (by omega) (fun hb9 => ?_) (fun hb9 => ?_)
    · refine GP.lsub _ (by simp) (hx cur (fun t ht => ?_))
      rw [hcur t ht]
      by_cases e : t ≤ n
      · rw [if_pos e, if_pos (show t < i by omega)]
      · rw [if_neg e, if_neg (show ¬ t < i by omega)]
    · exact absurd hb9 (by omega)
  | succ z ih =>
    intro i cur hz hcur
    have hci := hc i (by omega)
    have hcbi := hcb i (by omega)
    have hAi := hA i (by omega)
    have hcu := hcur i (by omega)
    rw [if_neg (show ¬ i < i by omega)] at hcu
    refine g_iload (pc := 72) 0 dX11_plus_72 rfl ?_
    refine g_aload (pc := 74) 1 dX11_plus_74 rfl ?_
    refine g_get (pc := 76) dX11_plus_76 fk_X11_132 (lk_ne (show X + 136 ≠ vv by omega) hv) rfl ?_
    refine n_icmp_gt (pc := 79) 124 dX11_plus_79 (by decide) (by omega) (by omega) (fun hb9 => ?_) (fun hb9 => ?_)
    · exact absurd hb9 (by omega)
    · refine g_aload_n (pc := 82) 2 dX11_plus_82 rfl rfl ?_
      refine g_get (pc := 83) dX11_plus_83 fk_X11_57 (lk_ne (by omega) hX) rfl ?_
      refine g_iload (pc := 86) 0 dX11_plus_86 rfl ?_
      refine g_dup2 (pc := 88) dX11_plus_88 rfl rfl ?_
      refine g_lald (pc := 89) i dX11_plus_89 (lk_eq hr) (IXn (by omega) (by omega)) ?_
      refine g_iload_n (pc := 90) 3 dX11_plus_90 rfl rfl ?_
      refine g_if_ne (pc := 91) 106 dX11_plus_91 (by decide) (fun hw => ?_) (fun hw => ?_)
      · obtain ⟨y, hy⟩ : ∃ y : Int64, (-(c i)).toInt64 = y := ⟨_, rfl⟩
        have hy2 : y.toInt = -C i := by rw [← hy, IL, I_neg (by rw [hci]; omega), hci]
        obtain ⟨z9, hz9⟩ : ∃ z9 : Int64, cur i + y = z9 := ⟨_, rfl⟩
        have hz2 : z9.toInt = A i + (if ho9 = nI 0 then C i else -C i) := by
          rw [← hz9, L_add (by rw [hcu, hy2]; omega) (by rw [hcu, hy2]; omega), hcu, hy2, if_neg (show ¬ ho9 = nI 0 from hw)]
          omega
        refine g_aload (pc := 106) 1 dX11_plus_106 rfl ?_
        refine g_get (pc := 108) dX11_plus_108 fk_X11_139 (lk_ne (show X + 136 ≠ vv by omega) hv) rfl ?_
        refine g_iload (pc := 111) 0 dX11_plus_111 rfl ?_
        refine g_iald (pc := 113) i dX11_plus_113 (lk_ne (show X + 136 ≠ b by omega) hb) (IXn (by omega) (by omega)) ?_
        refine g_ineg (pc := 114) dX11_plus_114 ?_
        refine g_i2l (pc := 115) dX11_plus_115 ?_
        refine GP.tl y hy ?_
        refine g_ladd (pc := 116) dX11_plus_116 ?_
        refine GP.tl z9 hz9 ?_
        refine g_last (pc := 117) i dX11_plus_117 (lk_eq hr) (IXn (by omega) (by omega)) ?_
        refine GP.weq (w.set (X + 136) (aL 25 (vp_updL cur i z9))) (by rw [List.set_set]) ?_
        refine n_iinc (pc := 118) (c := 1) [(6, .int (nI (i + 1))), (5, .ref vv), (0, .ref X), (1, .int ho9), (4, .int (nI k))] 0 dX11_plus_118 rfl (by decide) (by decide) rfl ?_
        refine g_goto (pc := 121) 72 dX11_plus_121 (by decide) ?_
        refine GP.lsub _ (by simp) (ih (i + 1) _ (by omega) (fun t ht => ?_))
        by_cases e : t = i
        · rw [e, upL_s, if_pos (show i < i + 1 by omega)]
          exact hz2
        · rw [upL_n e, hcur t ht]
          by_cases e2 : t < i
          · rw [if_pos e2, if_pos (show t < i + 1 by omega)]
          · rw [if_neg e2, if_neg (show ¬ t < i + 1 by omega)]
      · obtain ⟨y, hy⟩ : ∃ y : Int64, (c i).toInt64 = y := ⟨_, rfl⟩
        have hy2 : y.toInt = C i := by rw [← hy, IL, hci]
        obtain ⟨z9, hz9⟩ : ∃ z9 : Int64, cur i + y = z9 := ⟨_, rfl⟩
        have hz2 : z9.toInt = A i + (if ho9 = nI 0 then C i else -C i) := by
          rw [← hz9, L_add (by rw [hcu, hy2]; omega) (by rw [hcu, hy2]; omega), hcu, hy2, if_pos (show ho9 = nI 0 from Decidable.not_not.mp hw)]
          omega
        refine g_aload (pc := 94) 1 dX11_plus_94 rfl ?_
        refine g_get (pc := 96) dX11_plus_96 fk_X11_139 (lk_ne (show X + 136 ≠ vv by omega) hv) rfl ?_
        refine g_iload (pc := 99) 0 dX11_plus_99 rfl ?_
        refine g_iald (pc := 101) i dX11_plus_101 (lk_ne (show X + 136 ≠ b by omega) hb) (IXn (by omega) (by omega)) ?_
        refine g_i2l (pc := 102) dX11_plus_102 ?_
        refine g_goto (pc := 103) 116 dX11_plus_103 (by decide) ?_
        refine GP.tl y hy ?_
        refine g_ladd (pc := 116) dX11_plus_116 ?_
        refine GP.tl z9 hz9 ?_
        refine g_last (pc := 117) i dX11_plus_117 (lk_eq hr) (IXn (by omega) (by omega)) ?_
        refine GP.weq (w.set (X + 136) (aL 25 (vp_updL cur i z9))) (by rw [List.set_set]) ?_
        refine n_iinc (pc := 118) (c := 1) [(6, .int (nI (i + 1))), (5, .ref vv), (0, .ref X), (1, .int ho9), (4, .int (nI k))] 0 dX11_plus_118 rfl (by decide) (by decide) rfl ?_
        refine g_goto (pc := 121) 72 dX11_plus_121 (by decide) ?_
        refine GP.lsub _ (by simp) (ih (i + 1) _ (by omega) (fun t ht => ?_))
        by_cases e : t = i
        · rw [e, upL_s, if_pos (show i < i + 1 by omega)]
          exact hz2
        · rw [upL_n e, hcur t ht]
          by_cases e2 : t < i
          · rw [if_pos e2, if_pos (show t < i + 1 by omega)]
          · rw [if_neg e2, if_neg (show ¬ t < i + 1 by omega)]
theorem sp_plus (w : Wd) {X tl : Nat} {tb : Nat → Int32} {fa st : Int32} {rf : Nat → Nat} {sh : SV} {pn : Nat} {pk : Nat → Nat} {ps : Nat → SV} {im : Nat → Option SV} (hB : bxC w X tl tb fa st rf sh pn pk ps im) {x y z u : Int32} : EX11_plus [.ref X, .int x, .int y, .int z, .int u] w (fun r w' => (¬ (0 ≤ x.toInt ∧ x.toInt ≤ 1) ∧ rfP (-1) 0 w X tl tb fa rf sh pn pk ps im r w') ∨ ((x = nI 0 ∨ x = nI 1) ∧ ¬ (isPl y ∧ isPl z ∧ isPl u) ∧ rfP (-2) 1 w X tl tb fa rf sh pn pk ps im r w') ∨ (∃ i j k, (x = nI 0 ∨ x = nI 1) ∧ y = nI i ∧ i < 8 ∧ z = nI j ∧ j < 8 ∧ u = nI k ∧ k < 8 ∧ putP (fun t => (sh.1 i).2 t + if x = nI 0 then (sh.1 j).2 t else -(sh.1 j).2 t) 3 k w X tl tb fa rf sh pn pk ps im r w')) := by
  refine EP.of (plainFor_of_name (by decide)) [(0, .ref X), (1, .int x), (2, .int y), (3, .int z), (4, .int u)] rfl (Nat.le_of_ble_eq_true rfl) (fun r wf h => by rcases h with ⟨-, h⟩ | ⟨-, -, h⟩ | ⟨i, j, k, -, -, -, -, -, -, -, h⟩; obtain ⟨x, rfl⟩ := rokR h; trivial; obtain ⟨x, rfl⟩ := rokR h; trivial; obtain ⟨x, rfl⟩ := rokP h; trivial) ?_
  show BX11_plus w _ w 0 [(0, .ref X), (1, .int x), (2, .int y), (3, .int z), (4, .int u)] []
  have hB0 := id hB
  obtain ⟨⟨s, hX, hs⟩, htp, hW, hpa, him, hrf⟩ := hB
  have hs0 := id hs
  obtain ⟨sp9, sf9, sh9, hs1, hs2, hs3, hs4, hs5, hs6⟩ := hs
  obtain ⟨htl, tpl, tf, ht1, ht2, ht3⟩ := id htp
  obtain ⟨row9, hrow9⟩ := hW.2.2.2.2.1
  obtain ⟨spa9, hspa9⟩ := hW.2.2.2.2.2
  have z0 : (0 : Int32).toInt = 0 := by decide
  have z1 : (nI 1).toInt = 1 := by decide
  refine g_iload_n (pc := 0) 1 dX11_plus_0 rfl rfl ?_
  refine g_if_lt (pc := 1) 9 dX11_plus_1 (by decide) (fun h1 => ?_) (fun h1 => ?_)
  · rw [Int32.lt_iff_toInt_lt, z0] at h1
    refine g_aload_n (pc := 9) 0 dX11_plus_9 rfl rfl ?_
    refine g_iconst (pc := 10) (v := -1) dX11_plus_10 (by decide) ?_
    refine g_callV (pc := 11) [.int (-1)] dX11_plus_11 cv_X11_98.1 cv_X11_98.2.1 cv_X11_98.2.2.1 cv_X11_98.2.2.2 hX rfl rfl (Nat.le_of_ble_eq_true rfl) (by decide) (by decide) (sp_refuse1 _ hB0) ?_
    rintro _ w5 ⟨rfl, hB5, hE5⟩
    exact g_iret (pc := 14) dX11_plus_14 (Or.inl ⟨by omega, rfl, hB5, hE5.le (by omega) (by omega)⟩)
  · rw [Int32.lt_iff_toInt_lt, z0] at h1
    refine g_iload_n (pc := 4) 1 dX11_plus_4 rfl rfl ?_
    refine g_iconst (pc := 5) (v := nI 1) dX11_plus_5 (by decide) ?_
    refine g_icmp_le (pc := 6) 15 dX11_plus_6 (by decide) (fun h2 => ?_) (fun h2 => ?_)
    · rw [Int32.le_iff_toInt_le, z1] at h2
      have hhow : x = nI 0 ∨ x = nI 1 := by
        rcases (show x.toInt = 0 ∨ x.toInt = 1 by omega) with e | e
        · exact Or.inl (Int32.toInt_inj.mp (e.trans z0.symm))
        · exact Or.inr (Int32.toInt_inj.mp (e.trans z1.symm))
      refine g_iload_n (pc := 15) 2 dX11_plus_15 rfl rfl ?_
      refine g_callS (pc := 16) [.int y] dX11_plus_16 cs_X11_95.1 cs_X11_95.2 rfl rfl (Nat.le_of_ble_eq_true rfl) (by decide) (by decide) (sp_isPlace _ (x := y)) ?_
      rintro _ w9 (⟨rfl, hpi, e9⟩ | ⟨rfl, hpi, e9⟩)
      · refine GP.weq _ e9 ?_
        refine n_if_eq (pc := 19) 37 dX11_plus_19 (by decide) (by omega) (fun hzi => ?_) (fun hzi => ?_)
        · exact absurd hzi (by decide)
        · obtain ⟨i, hie, hi⟩ : ∃ i : Nat, y = nI i ∧ i < 8 := ⟨y.toInt.toNat, nI_toNat (by omega), by omega⟩
          subst hie
          refine g_iload_n (pc := 22) 3 dX11_plus_22 rfl rfl ?_
          refine g_callS (pc := 23) [.int z] dX11_plus_23 cs_X11_95.1 cs_X11_95.2 rfl rfl (Nat.le_of_ble_eq_true rfl) (by decide) (by decide) (sp_isPlace _ (x := z)) ?_
          rintro _ w9 (⟨rfl, hpj, e9⟩ | ⟨rfl, hpj, e9⟩)
          · refine GP.weq _ e9 ?_
            refine n_if_eq (pc := 26) 37 dX11_plus_26 (by decide) (by omega) (fun hzj => ?_) (fun hzj => ?_)
            · exact absurd hzj (by decide)
            · obtain ⟨j, hje, hj⟩ : ∃ j : Nat, z = nI j ∧ j < 8 := ⟨z.toInt.toNat, nI_toNat (by omega), by omega⟩
              subst hje
              refine g_iload (pc := 29) 4 dX11_plus_29 rfl ?_
              refine g_callS (pc := 31) [.int u] dX11_plus_31 cs_X11_95.1 cs_X11_95.2 rfl rfl (Nat.le_of_ble_eq_true rfl) (by decide) (by decide) (sp_isPlace _ (x := u)) ?_
              rintro _ w9 (⟨rfl, hpk, e9⟩ | ⟨rfl, hpk, e9⟩)
              · refine GP.weq _ e9 ?_
                refine n_if_ne (pc := 34) 44 dX11_plus_34 (by decide) (by omega) (fun hzk => ?_) (fun hzk => ?_)
                · obtain ⟨k, hke, hk⟩ : ∃ k : Nat, u = nI k ∧ k < 8 := ⟨u.toInt.toNat, nI_toNat (by omega), by omega⟩
                  subst hke
                  obtain ⟨v1, hv1, b1, c1, ho1, hb1, hvB1, hbB1, hc1, hk1⟩ := hs5 i hi
                  obtain ⟨v2, hv2, b2, c2, ho2, hb2, hvB2, hbB2, hc2, hk2⟩ := hs5 j hj
                  refine g_aload_n (pc := 44) 0 dX11_plus_44 rfl rfl ?_
                  refine g_get (pc := 45) dX11_plus_45 fk_X11_69 hX rfl ?_
                  refine g_iload_n (pc := 48) 3 dX11_plus_48 rfl rfl ?_
                  refine g_callV (pc := 49) [.int (nI j)] dX11_plus_49 cv_X11_111.1 cv_X11_111.2.1 cv_X11_111.2.2.1 cv_X11_111.2.2.2 hs1 rfl rfl (Nat.le_of_ble_eq_true rfl) (by decide) (by decide) (sp_poly _ (i := j) hs1 hs2 hj hv2) ?_
                  rintro _ w9 ⟨rfl, e9⟩
                  refine GP.weq _ e9 ?_
                  refine g_astore (pc := 52) [(5, .ref v2), (0, .ref X), (1, .int x), (2, .int (nI i)), (3, .int (nI j)), (4, .int (nI k))] dX11_plus_52 (by decide) rfl ?_
                  refine g_aload_n (pc := 54) 1 dX11_plus_54 rfl rfl ?_
                  refine g_get (pc := 55) dX11_plus_55 fk_X11_69 hX rfl ?_
                  refine g_iload_n (pc := 58) 3 dX11_plus_58 rfl rfl ?_
                  refine g_callV (pc := 59) [.int (nI i)] dX11_plus_59 cv_X11_111.1 cv_X11_111.2.1 cv_X11_111.2.2.1 cv_X11_111.2.2.2 hs1 rfl rfl (Nat.le_of_ble_eq_true rfl) (by decide) (by decide) (sp_poly _ (i := i) hs1 hs2 hi hv1) ?_
                  rintro _ w9 ⟨rfl, e9⟩
                  refine GP.weq _ e9 ?_
                  refine g_aload_n (pc := 62) 1 dX11_plus_62 rfl rfl ?_
                  refine g_get (pc := 63) dX11_plus_63 fk_X11_57 hX rfl ?_
                  refine g_callV (pc := 66) [.ref (X + 136)] dX11_plus_66 cv_X11_128.1 cv_X11_128.2.1 cv_X11_128.2.2.1 cv_X11_128.2.2.2 ho1 rfl rfl (Nat.le_of_ble_eq_true rfl) (by decide) (by decide) (sp_writeTo _ ho1 hb1 hrow9 (by omega) (by omega) (by decide) (by have := hk1.1; omega)) ?_
                  rintro _ w1 ⟨rfl, e', he', e9⟩
                  have hr1 : w1[X + 136]? = some (aL 25 e') := by rw [e9]; exact lk_eq hrow9
                  have U1 : ∀ i c, w[i]? = some c → i ≠ X + 136 → w1[i]? = some c := fun i c h1 h2 => by rw [e9]; exact lk_ne (Ne.symm h2) h1
                  have hX1 := U1 _ _ hX (by omega)
                  have ho21 := U1 _ _ ho2 (by omega)
                  have hb21 := U1 _ _ hb2 (by omega)
                  obtain ⟨hB1, hE1⟩ := hB0.row e' hrow9
                  rw [← e9] at hB1 hE1
                  have hg1 : ∀ j, j < 25 → (e' j).toInt = (sh.1 i).2 j := fun j hj => by rw [he' j hj]; exact okP_ext hc1 hk1 j
                  refine g_iconst (pc := 69) (v := nI 0) dX11_plus_69 (by decide) ?_
                  refine g_istore (pc := 70) [(6, .int (nI 0)), (5, .ref v2), (0, .ref X), (1, .int x), (2, .int (nI i)), (3, .int (nI j)), (4, .int (nI k))] dX11_plus_70 (by decide) rfl ?_
                  refine GP.weq (w1.set (X + 136) (aL 25 e')) (set_same hr1).symm ?_
                  refine GP.lsub _ (by simp) (pl_loop (k := k) (A := (sh.1 i).2) (C := (sh.1 j).2) hX1 hr1 ho21 hb21 hvB2 hbB2.1 hk2.1 hc2 hk2.2.1 (fun t ht => ?_) hhow (fun cur hcur => ?_) ((sh.1 j).1 + 1) 0 e' (by omega) (fun t ht => by rw [hg1 t ht, if_neg (by omega)]; omega))
                  · by_cases e : t ≤ (sh.1 i).1
                    · exact hk1.2.1 t e
                    · rw [hk1.2.2.2 t (by omega)]
                      omega
                  · obtain ⟨hB2, hE2⟩ := hB1.row cur hr1
                    have hX2 : (w1.set (X + 136) (aL 25 cur))[X]? = some (oB X s fa st) := lk_ne (by omega) hX1
                    refine g_aload_n (pc := 124) 0 dX11_plus_124 rfl rfl ?_
                    refine g_iconst (pc := 125) (v := nI 3) dX11_plus_125 (by decide) ?_
                    refine g_iload (pc := 126) 1 dX11_plus_126 rfl ?_
                    refine g_callV (pc := 128) [.int (nI 3), .int (nI k)] dX11_plus_128 cv_X11_107.1 cv_X11_107.2.1 cv_X11_107.2.2.1 cv_X11_107.2.2.2 hX2 rfl rfl (Nat.le_of_ble_eq_true rfl) (by decide) (by decide) (sp_putRow _ (kd := 3) (k := k) (F := (fun t => (sh.1 i).2 t + if x = nI 0 then (sh.1 j).2 t else -(sh.1 j).2 t)) hB2 (lk_eq hr1) (fun t ht => by rw [hcur t ht]; by_cases e : t ≤ (sh.1 j).1; · { rw [if_pos e] }; · { rw [if_neg e, hk2.2.2.2 t (by omega)]; simp }) hk) ?_
                    rintro _ w4 hP
                    obtain ⟨x9, rfl⟩ := rokP hP
                    exact g_iret (pc := 131) dX11_plus_131 (Or.inr (Or.inr ⟨i, j, k, hhow, rfl, hi, rfl, hj, rfl, hk, hP.from ((hE1.tr hE2).le (by omega) (by omega))⟩))
                · exact absurd hzk (by decide)
              · refine GP.weq _ e9 ?_
                refine n_if_ne (pc := 34) 44 dX11_plus_34 (by decide) (by omega) (fun hzk => ?_) (fun hzk => ?_)
                · exact absurd rfl hzk
                · refine g_aload_n (pc := 37) 0 dX11_plus_37 rfl rfl ?_
                  refine g_bipush (pc := 38) (v := -2) dX11_plus_38 (by decide) ?_
                  refine g_callV (pc := 40) [.int (-2)] dX11_plus_40 cv_X11_98.1 cv_X11_98.2.1 cv_X11_98.2.2.1 cv_X11_98.2.2.2 hX rfl rfl (Nat.le_of_ble_eq_true rfl) (by decide) (by decide) (sp_refuse2 _ hB0) ?_
                  rintro _ w5 ⟨rfl, hB5, hE5⟩
                  exact g_iret (pc := 43) dX11_plus_43 (Or.inr (Or.inl ⟨hhow, fun h9 => hpk h9.2.2, rfl, hB5, hE5.le (by omega) (by omega)⟩))
          · refine GP.weq _ e9 ?_
            refine n_if_eq (pc := 26) 37 dX11_plus_26 (by decide) (by omega) (fun hzj => ?_) (fun hzj => ?_)
            · refine g_aload_n (pc := 37) 0 dX11_plus_37 rfl rfl ?_
              refine g_bipush (pc := 38) (v := -2) dX11_plus_38 (by decide) ?_
              refine g_callV (pc := 40) [.int (-2)] dX11_plus_40 cv_X11_98.1 cv_X11_98.2.1 cv_X11_98.2.2.1 cv_X11_98.2.2.2 hX rfl rfl (Nat.le_of_ble_eq_true rfl) (by decide) (by decide) (sp_refuse2 _ hB0) ?_
              rintro _ w5 ⟨rfl, hB5, hE5⟩
              exact g_iret (pc := 43) dX11_plus_43 (Or.inr (Or.inl ⟨hhow, fun h9 => hpj h9.2.1, rfl, hB5, hE5.le (by omega) (by omega)⟩))
            · exact absurd rfl hzj
      · refine GP.weq _ e9 ?_
        refine n_if_eq (pc := 19) 37 dX11_plus_19 (by decide) (by omega) (fun hzi => ?_) (fun hzi => ?_)
        · refine g_aload_n (pc := 37) 0 dX11_plus_37 rfl rfl ?_
          refine g_bipush (pc := 38) (v := -2) dX11_plus_38 (by decide) ?_
          refine g_callV (pc := 40) [.int (-2)] dX11_plus_40 cv_X11_98.1 cv_X11_98.2.1 cv_X11_98.2.2.1 cv_X11_98.2.2.2 hX rfl rfl (Nat.le_of_ble_eq_true rfl) (by decide) (by decide) (sp_refuse2 _ hB0) ?_
          rintro _ w5 ⟨rfl, hB5, hE5⟩
          exact g_iret (pc := 43) dX11_plus_43 (Or.inr (Or.inl ⟨hhow, fun h9 => hpi h9.1, rfl, hB5, hE5.le (by omega) (by omega)⟩))
        · exact absurd rfl hzi
    · rw [Int32.le_iff_toInt_le, z1] at h2
      refine g_aload_n (pc := 9) 0 dX11_plus_9 rfl rfl ?_
      refine g_iconst (pc := 10) (v := -1) dX11_plus_10 (by decide) ?_
      refine g_callV (pc := 11) [.int (-1)] dX11_plus_11 cv_X11_98.1 cv_X11_98.2.1 cv_X11_98.2.2.1 cv_X11_98.2.2.2 hX rfl rfl (Nat.le_of_ble_eq_true rfl) (by decide) (by decide) (sp_refuse1 _ hB0) ?_
      rintro _ w5 ⟨rfl, hB5, hE5⟩
      exact g_iret (pc := 14) dX11_plus_14 (Or.inl ⟨by omega, rfl, hB5, hE5.le (by omega) (by omega)⟩)
theorem sp_divisorX (w : Wd) {o D M l rr q tp : Nat} {x : Int32} {mk : Int64} {h : Nat → Option Nat} (ho : w[o]? = some (oC D M l rr q tp mk)) (hD : w[D]? = some (aR 4 43 h)) (hx : ¬ (0 ≤ x.toInt ∧ x.toInt ≤ 42)) : EX0_divisor [.ref o, .int x] w (fun r w' => r = some .null ∧ w' = w) := by
  refine EP.of (plainFor_of_name (by decide)) [(0, .ref o), (1, .int x)] rfl (Nat.le_of_ble_eq_true rfl) (fun r wf h => by obtain ⟨rfl, -⟩ := h; trivial) ?_
  show BX0_divisor w _ w 0 [(0, .ref o), (1, .int x)] []
  have z0 : (0 : Int32).toInt = 0 := by decide
  have z43 : (nI 43).toInt = 43 := by decide
  refine g_iload_n (pc := 0) 1 dX0_divisor_0 rfl rfl ?_
  refine g_if_lt (pc := 1) 22 dX0_divisor_1 (by decide) (fun h1 => ?_) (fun h1 => ?_)
  · refine g_null (pc := 22) dX0_divisor_22 ?_
    exact g_nret (pc := 23) dX0_divisor_23 ⟨rfl, rfl⟩
  · rw [Int32.lt_iff_toInt_lt, z0] at h1
    refine g_iload_n (pc := 4) 1 dX0_divisor_4 rfl rfl ?_
    refine g_aload_n (pc := 5) 0 dX0_divisor_5 rfl rfl ?_
    refine g_get (pc := 6) dX0_divisor_6 fk_X0_11 ho rfl ?_
    refine g_alen (pc := 9) dX0_divisor_9 hD (by decide) ?_
    refine g_icmp_ge (pc := 10) 22 dX0_divisor_10 (by decide) (fun h2 => ?_) (fun h2 => ?_)
    · refine g_null (pc := 22) dX0_divisor_22 ?_
      exact g_nret (pc := 23) dX0_divisor_23 ⟨rfl, rfl⟩
    · rw [Int32.le_iff_toInt_le, z43] at h2
      exact absurd hx (by omega)
abbrev BX11_cyclotomic (w0 : Wd) (Post : Option Value → Wd → Prop) (w : Wd) (pc : Nat) (ls : List (Nat × Value)) (st : List Value) : Prop := GP "cyclotomic" RX11 cX11_cyclotomic 4 (some .int) 4 156 none w0 Post w pc ls st
abbrev EX11_cyclotomic (As : List Value) (w : Wd) (Post : Option Value → Wd → Prop) : Prop := EP yX11_cyclotomic cX11_cyclotomic 4 (some .int) 4 As w Post
theorem sp_cyclotomic (w : Wd) {X tl : Nat} {tb : Nat → Int32} {fa st : Int32} {rf : Nat → Nat} {sh : SV} {pn : Nat} {pk : Nat → Nat} {ps : Nat → SV} {im : Nat → Option SV} (hB : bxC w X tl tb fa st rf sh pn pk ps im) {x z : Int32} : EX11_cyclotomic [.ref X, .int x, .int z] w (fun r w' => (¬ (∃ n, x = nI n ∧ n < 43 ∧ 1 ≤ n ∧ cyIs n) ∧ rfP (-1) 0 w X tl tb fa rf sh pn pk ps im r w') ∨ (∃ n, x = nI n ∧ n < 43 ∧ 1 ≤ n ∧ cyIs n ∧ ¬ isPl z ∧ rfP (-2) 1 w X tl tb fa rf sh pn pk ps im r w') ∨ (∃ n k, x = nI n ∧ n < 43 ∧ 1 ≤ n ∧ cyIs n ∧ z = nI k ∧ k < 8 ∧ putP (fun t => if t ≤ cyDg n then cyG n t else 0) 5 k w X tl tb fa rf sh pn pk ps im r w')) := by
  refine EP.of (plainFor_of_name (by decide)) [(0, .ref X), (1, .int x), (2, .int z)] rfl (Nat.le_of_ble_eq_true rfl) (fun r wf h => by rcases h with ⟨-, h⟩ | ⟨n, -, -, -, -, -, h⟩ | ⟨n, k, -, -, -, -, -, -, h⟩; obtain ⟨x, rfl⟩ := rokR h; trivial; obtain ⟨x, rfl⟩ := rokR h; trivial; obtain ⟨x, rfl⟩ := rokP h; trivial) ?_
  show BX11_cyclotomic w _ w 0 [(0, .ref X), (1, .int x), (2, .int z)] []
  have hB0 := id hB
  obtain ⟨⟨s, hX, hs⟩, htp, hW, hpa, him, hrf⟩ := hB
  have hs0 := id hs
  obtain ⟨sp9, sf9, sh9, hs1, hs2, hs3, hs4, hs5, hs6⟩ := hs
  obtain ⟨htl, tpl, tf, ht1, ht2, ht3⟩ := id htp
  obtain ⟨row9, hrow9⟩ := hW.2.2.2.2.1
  obtain ⟨spa9, hspa9⟩ := hW.2.2.2.2.2
  have z1 : (nI 1).toInt = 1 := by decide
  obtain ⟨tpc, mkc, lfc, hc9, hcD, -⟩ := id hW.2.2.1
  obtain ⟨pf, mf, hp1, hp2, hall⟩ := hcD
  refine g_iload_n (pc := 0) 1 dX11_cyclotomic_0 rfl rfl ?_
  refine g_iconst (pc := 1) (v := nI 1) dX11_cyclotomic_1 (by decide) ?_
  refine g_icmp_ge (pc := 2) 9 dX11_cyclotomic_2 (by decide) (fun h1 => ?_) (fun h1 => ?_)
  · rw [Int32.le_iff_toInt_le, z1] at h1
    refine g_aload_n (pc := 9) 0 dX11_cyclotomic_9 rfl rfl ?_
    refine g_get (pc := 10) dX11_cyclotomic_10 fk_X11_33 hX rfl ?_
    refine g_iload_n (pc := 13) 1 dX11_cyclotomic_13 rfl rfl ?_
    by_cases h42 : 0 ≤ x.toInt ∧ x.toInt ≤ 42
    · obtain ⟨n, hne, hn⟩ : ∃ n : Nat, x = nI n ∧ n < 43 := ⟨x.toInt.toNat, nI_toNat (by omega), by omega⟩
      subst hne
      have hnt : (nI n).toInt = n := nI_toInt (by omega)
      rw [hnt] at h1
      by_cases hcy : cyIs n
      · obtain ⟨v, b, f, hv, hv1, hv2, hvo, hvb, hvf, hmf⟩ := (hall n hn).2 hcy
        have hdg := cy_dg ⟨n, hn⟩ hcy
        simp only at hdg
        refine g_callV (pc := 14) [.int (nI n)] dX11_cyclotomic_14 cv_X11_155.1 cv_X11_155.2.1 cv_X11_155.2.2.1 cv_X11_155.2.2.2 hc9 rfl rfl (Nat.le_of_ble_eq_true rfl) (by decide) (by decide) (sp_divisor _ (i := n) hc9 hp1 (by omega) hv) ?_
        rintro _ w9 ⟨rfl, e9⟩
        refine GP.weq _ e9 ?_
        refine g_astore_n (pc := 17) [(3, .ref v), (0, .ref X), (1, .int (nI n)), (2, .int z)] dX11_cyclotomic_17 rfl (by decide) rfl ?_
        refine g_aload_n (pc := 18) 0 dX11_cyclotomic_18 rfl rfl ?_
        refine g_ifnonnull (pc := 19) 28 dX11_cyclotomic_19 (by decide) ?_
        refine g_iload_n (pc := 28) 3 dX11_cyclotomic_28 rfl rfl ?_
        refine g_callS (pc := 29) [.int z] dX11_cyclotomic_29 cs_X11_95.1 cs_X11_95.2 rfl rfl (Nat.le_of_ble_eq_true rfl) (by decide) (by decide) (sp_isPlace _ (x := z)) ?_
        rintro _ w9 (⟨rfl, hpk, e9⟩ | ⟨rfl, hpk, e9⟩)
        · refine GP.weq _ e9 ?_
          refine n_if_ne (pc := 32) 42 dX11_cyclotomic_32 (by decide) (by omega) (fun hzk => ?_) (fun hzk => ?_)
          · obtain ⟨k, hke, hk⟩ : ∃ k : Nat, z = nI k ∧ k < 8 := ⟨z.toInt.toNat, nI_toNat (by omega), by omega⟩
            subst hke
            refine g_aload_n (pc := 42) 0 dX11_cyclotomic_42 rfl rfl ?_
            refine g_aload_n (pc := 43) 1 dX11_cyclotomic_43 rfl rfl ?_
            refine g_get (pc := 44) dX11_cyclotomic_44 fk_X11_57 hX rfl ?_
            refine g_callV (pc := 47) [.ref (X + 136)] dX11_cyclotomic_47 cv_X11_128.1 cv_X11_128.2.1 cv_X11_128.2.2.1 cv_X11_128.2.2.2 hvo rfl rfl (Nat.le_of_ble_eq_true rfl) (by decide) (by decide) (sp_writeTo _ hvo hvb hrow9 (by omega) (by omega) (by decide) (by omega)) ?_
            rintro _ w1 ⟨rfl, e', he', e9⟩
            have hr1 : w1[X + 136]? = some (aL 25 e') := by rw [e9]; exact lk_eq hrow9
            obtain ⟨hB1, hE1⟩ := hB0.row e' hrow9
            rw [← e9] at hB1 hE1
            have hX1 : w1[X]? = some (oB X s fa st) := by rw [e9]; exact lk_ne (by omega) hX
            refine g_aload_n (pc := 50) 1 dX11_cyclotomic_50 rfl rfl ?_
            refine g_iconst (pc := 51) (v := nI 5) dX11_cyclotomic_51 (by decide) ?_
            refine g_iload_n (pc := 52) 3 dX11_cyclotomic_52 rfl rfl ?_
            refine g_callV (pc := 53) [.int (nI 5), .int (nI k)] dX11_cyclotomic_53 cv_X11_107.1 cv_X11_107.2.1 cv_X11_107.2.2.1 cv_X11_107.2.2.2 hX1 rfl rfl (Nat.le_of_ble_eq_true rfl) (by decide) (by decide) (sp_putRow _ (kd := 5) (k := k) (F := fun t => if t ≤ cyDg n then cyG n t else 0) hB1 hr1 (fun t ht => by rw [he' t ht]; by_cases e8 : t ≤ cyDg n; · { rw [if_pos e8, if_pos e8, hvf t e8] }; · { rw [if_neg e8, if_neg e8] }) hk) ?_
            rintro _ w4 hP
            obtain ⟨x9, rfl⟩ := rokP hP
            exact g_iret (pc := 56) dX11_cyclotomic_56 (Or.inr (Or.inr ⟨n, k, rfl, hn, by omega, hcy, rfl, hk, hP.from hE1⟩))
          · exact absurd hzk (by decide)
        · refine GP.weq _ e9 ?_
          refine n_if_ne (pc := 32) 42 dX11_cyclotomic_32 (by decide) (by omega) (fun hzk => ?_) (fun hzk => ?_)
          · exact absurd rfl hzk
          · refine g_aload_n (pc := 35) 1 dX11_cyclotomic_35 rfl rfl ?_
            refine g_bipush (pc := 36) (v := -2) dX11_cyclotomic_36 (by decide) ?_
            refine g_callV (pc := 38) [.int (-2)] dX11_cyclotomic_38 cv_X11_98.1 cv_X11_98.2.1 cv_X11_98.2.2.1 cv_X11_98.2.2.2 hX rfl rfl (Nat.le_of_ble_eq_true rfl) (by decide) (by decide) (sp_refuse2 _ hB0) ?_
            rintro _ w5 ⟨rfl, hB5, hE5⟩
            exact g_iret (pc := 41) dX11_cyclotomic_41 (Or.inr (Or.inl ⟨n, rfl, hn, by omega, hcy, hpk, rfl, hB5, hE5.le (by omega) (by omega)⟩))
      · refine g_callV (pc := 14) [.int (nI n)] dX11_cyclotomic_14 cv_X11_155.1 cv_X11_155.2.1 cv_X11_155.2.2.1 cv_X11_155.2.2.2 hc9 rfl rfl (Nat.le_of_ble_eq_true rfl) (by decide) (by decide) (sp_divisorN _ (i := n) hc9 hp1 (by omega) ((hall n hn).1 hcy).1) ?_
        rintro _ w9 ⟨rfl, e9⟩
        refine GP.weq _ e9 ?_
        refine g_nstore_n (pc := 17) [(3, .null), (0, .ref X), (1, .int (nI n)), (2, .int z)] dX11_cyclotomic_17 rfl (by decide) rfl ?_
        refine g_nload_n (pc := 18) 0 dX11_cyclotomic_18 rfl rfl ?_
        refine g_ifnonnullN (pc := 19) dX11_cyclotomic_19 ?_
        refine g_aload_n (pc := 22) 1 dX11_cyclotomic_22 rfl rfl ?_
        refine g_iconst (pc := 23) (v := -1) dX11_cyclotomic_23 (by decide) ?_
        refine g_callV (pc := 24) [.int (-1)] dX11_cyclotomic_24 cv_X11_98.1 cv_X11_98.2.1 cv_X11_98.2.2.1 cv_X11_98.2.2.2 hX rfl rfl (Nat.le_of_ble_eq_true rfl) (by decide) (by decide) (sp_refuse1 _ hB0) ?_
        rintro _ w5 ⟨rfl, hB5, hE5⟩
        exact g_iret (pc := 27) dX11_cyclotomic_27 (Or.inl ⟨fun h9 => absurd (by obtain ⟨m9, e1, e2, -, e3⟩ := h9; have := (nI_inj (by omega) (by omega)).mp e1; rw [this]; exact e3) hcy, rfl, hB5, hE5.le (by omega) (by omega)⟩)
    · refine g_callV (pc := 14) [.int x] dX11_cyclotomic_14 cv_X11_155.1 cv_X11_155.2.1 cv_X11_155.2.2.1 cv_X11_155.2.2.2 hc9 rfl rfl (Nat.le_of_ble_eq_true rfl) (by decide) (by decide) (sp_divisorX _ hc9 hp1 h42) ?_
      rintro _ w9 ⟨rfl, e9⟩
      refine GP.weq _ e9 ?_
      refine g_nstore_n (pc := 17) [(3, .null), (0, .ref X), (1, .int x), (2, .int z)] dX11_cyclotomic_17 rfl (by decide) rfl ?_
      refine g_nload_n (pc := 18) 0 dX11_cyclotomic_18 rfl rfl ?_
      refine g_ifnonnullN (pc := 19) dX11_cyclotomic_19 ?_
      refine g_aload_n (pc := 22) 1 dX11_cyclotomic_22 rfl rfl ?_
      refine g_iconst (pc := 23) (v := -1) dX11_cyclotomic_23 (by decide) ?_
      refine g_callV (pc := 24) [.int (-1)] dX11_cyclotomic_24 cv_X11_98.1 cv_X11_98.2.1 cv_X11_98.2.2.1 cv_X11_98.2.2.2 hX rfl rfl (Nat.le_of_ble_eq_true rfl) (by decide) (by decide) (sp_refuse1 _ hB0) ?_
      rintro _ w5 ⟨rfl, hB5, hE5⟩
      exact g_iret (pc := 27) dX11_cyclotomic_27 (Or.inl ⟨fun h9 => h42 (by obtain ⟨m9, e1, e2, -, -⟩ := h9; rw [e1, nI_toInt (by omega)]; omega), rfl, hB5, hE5.le (by omega) (by omega)⟩)
  · rw [Int32.le_iff_toInt_le, z1] at h1
    refine g_null (pc := 5) dX11_cyclotomic_5 ?_
    refine g_goto (pc := 6) 17 dX11_cyclotomic_6 (by decide) ?_
    refine g_nstore_n (pc := 17) [(3, .null), (0, .ref X), (1, .int x), (2, .int z)] dX11_cyclotomic_17 rfl (by decide) rfl ?_
    refine g_nload_n (pc := 18) 0 dX11_cyclotomic_18 rfl rfl ?_
    refine g_ifnonnullN (pc := 19) dX11_cyclotomic_19 ?_
    refine g_aload_n (pc := 22) 1 dX11_cyclotomic_22 rfl rfl ?_
    refine g_iconst (pc := 23) (v := -1) dX11_cyclotomic_23 (by decide) ?_
    refine g_callV (pc := 24) [.int (-1)] dX11_cyclotomic_24 cv_X11_98.1 cv_X11_98.2.1 cv_X11_98.2.2.1 cv_X11_98.2.2.2 hX rfl rfl (Nat.le_of_ble_eq_true rfl) (by decide) (by decide) (sp_refuse1 _ hB0) ?_
    rintro _ w5 ⟨rfl, hB5, hE5⟩
    exact g_iret (pc := 27) dX11_cyclotomic_27 (Or.inl ⟨fun h9 => h1 (by obtain ⟨m9, e1, e2, e4, -⟩ := h9; rw [e1, nI_toInt (by omega)]; omega), rfl, hB5, hE5.le (by omega) (by omega)⟩)
