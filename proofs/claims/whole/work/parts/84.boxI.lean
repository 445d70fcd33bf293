/-! MahlerBox: search, its loop -/
theorem isOneF_cg {F F' : Nat → Int} {T : Nat} (h : ∀ j, j ≤ T → F j = F' j) (h1 : isOneF F T) : isOneF F' T := by
  obtain ⟨a, G, b⟩ := h1
  obtain ⟨G', b', -⟩ := coC_cg h b
  exact ⟨by rw [← h T (Nat.le_refl _)]; exact a, G', b'⟩
theorem noOneF_cg {F F' : Nat → Int} {T : Nat} (h : ∀ j, j ≤ T → F j = F' j) (h1 : noOneF F T) : noOneF F' T := by
  rcases h1 with a | ⟨G, T', b, c⟩
  · exact Or.inl (by rw [← h T (Nat.le_refl _)]; exact a)
  · obtain ⟨G', b', -⟩ := coC_cg h b
    exact Or.inr ⟨G', T', b', c⟩
/-- entry k is what is told of number i by LEVEL b, those before it stay -/
def entI (d h i b k : Nat) (E E' : Nat → Int) : Prop := (∀ j, j < k * 16 → E' j = E j) ∧ (∀ p, p < 13 → E' (k * 16 + p) = bxc d h i p) ∧ ∃ hi lw : Nat, highF (bxc d h i) d b hi ∧ lowF (bxc d h i) d b lw ∧ E' (k * 16 + 13) = hi ∧ E' (k * 16 + 14) = lw ∧ E' (k * 16 + 15) = b
/-- what the first i numbers of a box bring: found, of measure one, entries -/
def srS (d h lv v : Nat) : Nat → Nat → Nat → (Nat → Int) → Prop
  | 0, ia, on, _ => ia = 0 ∧ on = 0
  | i + 1, ia, on, E => (isOneF (bxc d h i) d ∧ ∃ on', on = on' + 1 ∧ srS d h lv v i ia on' E) ∨ (noOneF (bxc d h i) d ∧ ∃ b, topL (bxc d h i) d lv b ∧ ((¬ sqI2 (lvs (bxc d h i) d b) (d + 1) ≤ limV v b ∧ srS d h lv v i ia on E) ∨ (sqI2 (lvs (bxc d h i) d b) (d + 1) ≤ limV v b ∧ ∃ ia' E', ia = ia' + 1 ∧ srS d h lv v i ia' on E' ∧ ((ia' < 30 ∧ entI d h i b ia' E' E) ∨ (¬ ia' < 30 ∧ E = E')))))
def tlC (w : Wd) (X d h lv v ia lk on : Nat) (rw9 : Nat → Int64) (en : Nat → Int32) : Prop := (∃ n tp R, ladC w (X + 3) (X + 4) n tp R) ∧ (∃ bb bl, gauC w (X + 12) bb bl) ∧ cirA w (X + 52) ∧ w[X + 112]? = some (oH (X + 112) d h lv ia lk on) ∧ hunT w (X + 112) ∧ (∀ k, k ≤ lv → whV w (X + 112 + 6 + 2 * k) 24 (limV v k : Nat)) ∧ whC w (X + 112 + 2) 8 ∧ w[X + 112 + 4]? = some (aL 13 rw9) ∧ w[X + 112 + 5]? = some (aI 0 480 en)
def toolS (X i : Nat) : Prop := X + 3 ≤ i ∧ i ≤ X + 131
theorem bxc_sm {d h i p : Nat} (hh : h ≤ 3) : -1000000000 ≤ bxc d h i p ∧ bxc d h i p ≤ 1000000000 := by
  unfold bxc
  split
  · omega
  · split
    · omega
    · have := dgt_lt (B := 2 * h + 1) (k := d / 2 - min p (d - p)) (i := i) (by omega)
      omega
theorem tlC.wk {w w1 : Wd} {X d h lv v ia lk on : Nat} {rw9 : Nat → Int64} {en : Nat → Int32} (ht : tlC w1 X d h lv v ia lk on rw9 en) (hW : wkC w X) (hF : FR (toolS X) w w1) : wkC w1 X := by
  obtain ⟨a1, a2, a3, a4, a5, -, a7, a8, a9⟩ := ht
  obtain ⟨-, -, -, -, ⟨g1, h6⟩, g2, h7⟩ := hW
  exact ⟨a1, a2, a3, ⟨d, h, lv, ia, lk, on, rw9, en, a4, a5, a7, a8, a9⟩, ⟨g1, hF.lk (by unfold toolS; omega) h6⟩, g2, hF.lk (by unfold toolS; omega) h7⟩
abbrev BX11_search (w0 : Wd) (Post : Option Value → Wd → Prop) (w : Wd) (pc : Nat) (ls : List (Nat × Value)) (st : List Value) : Prop := GP "search" RX11 cX11_search 8 (some .int) 7 273 none w0 Post w pc ls st
abbrev EX11_search (As : List Value) (w : Wd) (Post : Option Value → Wd → Prop) : Prop := EP yX11_search cX11_search 8 (some .int) 7 As w Post
theorem srS_cg {d h lv v : Nat} : ∀ {i ia on : Nat} {E E' : Nat → Int}, (∀ j, j < 16 * min ia 30 → E' j = E j) → srS d h lv v i ia on E → srS d h lv v i ia on E'
  | 0, _, _, _, _, _, h => h
  | i + 1, ia, on, E, E', hE, hs => by
    rcases hs with ⟨a, on', e, b⟩ | ⟨a, b, c, ⟨e, f⟩ | ⟨e, ia', E1, g, k, l⟩⟩
    · exact Or.inl ⟨a, on', e, srS_cg hE b⟩
    · exact Or.inr ⟨a, b, c, Or.inl ⟨e, srS_cg hE f⟩⟩
    · subst g
      rcases l with ⟨l1, l2, l3, hi, lw, l4, l5, l6, l7, l8⟩ | ⟨l1, l2⟩
      · refine Or.inr ⟨a, b, c, Or.inr ⟨e, ia', E1, rfl, k, Or.inl ⟨l1, fun j hj => by rw [hE j (by omega)]; exact l2 j hj, fun p hp => by rw [hE _ (by omega)]; exact l3 p hp, hi, lw, l4, l5, by rw [hE _ (by omega)]; exact l6, by rw [hE _ (by omega)]; exact l7, by rw [hE _ (by omega)]; exact l8⟩⟩⟩
      · exact Or.inr ⟨a, b, c, Or.inr ⟨e, ia', E', rfl, srS_cg (fun j hj => by rw [hE j (by omega), l2]) k, Or.inr ⟨l1, rfl⟩⟩⟩
theorem se_loop {w0 w : Wd} {Post : Option Value → Wd → Prop} {X s d h lv v sz : Nat} {fa st : Int32} (hX : w[X]? = some (oB X s fa st)) (hd : d ≤ 12) (hd2 : 2 ≤ d) (hev : d % 2 = 0) (hh : 1 ≤ h) (hh3 : h ≤ 3) (hlv : lv ≤ 6) (hsz : sz ≤ 3125) (hx : ∀ (w1 : Wd) (ia on : Nat) (rw9 : Nat → Int64) (en : Nat → Int32) (E : Nat → Int), tlC w1 X d h lv v ia sz on rw9 en → srS d h lv v sz ia on E → (∀ j, j < 16 * min ia 30 → (en j).toInt = E j) → ia ≤ sz → on ≤ sz → FR (toolS X) w w1 → BX11_search w0 Post w1 172 [(0, .ref X)] []) : ∀ (z i : Nat) (w1 : Wd) (ia on : Nat) (rw9 : Nat → Int64) (en : Nat → Int32) (E : Nat → Int), sz = i + z → tlC w1 X d h lv v ia i on rw9 en → (∀ p, p < 13 → (rw9 p).toInt = bxc d h i p) → Hid (srS d h lv v i ia on E) → (∀ j, j < 16 * min ia 30 → (en j).toInt = E j) → ia ≤ i → on ≤ i → FR (toolS X) w w1 → BX11_search w0 Post w1 119 [(7, .int (nI i)), (6, .int (nI sz)), (0, .ref X), (1, .int (nI d)), (2, .int (nI h))] [] := by
  intro z
  induction z with
  | zero =>
    intro i w1 ia on rw9 en E hz ht hrw hS hen hia hon hF
    refine g_iload (pc := 119) 0 dX11_search_119 rfl ?_
    refine g_iload (pc := 121) 1 dX11_search_121 rfl ?_
    refine n_icmp_ge (pc := 123) 172 dX11_search_123 (by decide) (by omega) (by omega) (fun hb9 => ?_) (fun hb9 => ?_)
    · have ei : i = sz := by omega
      subst ei
      exact GP.lsub _ (by simp) (hx w1 ia on rw9 en E ht hS hen hia hon hF)
    · exact absurd hb9 (by omega)
  | succ z ih =>
    intro i w1 ia on rw9 en E hz ht hrw hS hen hia hon hF
    obtain ⟨⟨nL, tpL, RL, hL⟩, ⟨bb, bl, hG⟩, hA, hH, hT, hV, hQ, hr, hE⟩ := ht
    have hX1 := hF.lk (show ¬ toolS X X by unfold toolS; omega) hX
    obtain ⟨tc, mc, lc, hC, -⟩ := id hA
    have hbd : ∀ j, j ≤ d → -1000000000 ≤ toI rw9 j ∧ toI rw9 j ≤ 1000000000 := fun j hj => by
      show -1000000000 ≤ (rw9 j).toInt ∧ (rw9 j).toInt ≤ 1000000000
      rw [hrw j (by omega)]
      exact bxc_sm hh3
    have hcg : ∀ j, j ≤ d → toI rw9 j = bxc d h i j := fun j hj => hrw j (by omega)
    have UI : ∀ j, j ≠ X + 112 → j ≠ X + 112 + 2 → j ≠ X + 112 + 3 → (j < X + 52 ∨ X + 57 < j) → (j < X + 3 ∨ X + 11 < j) → ¬ ifS (X + 112) (X + 52) (X + 3) (X + 4) j := fun j g1 g2 g3 g4 g5 g6 => by
      rcases g6 with g | g | g | g | g
      · exact g1 g
      · exact g2 g
      · exact g3 g
      · unfold cirS at g; omega
      · rcases g with g | g <;> omega
    refine g_iload (pc := 119) 0 dX11_search_119 rfl ?_
    refine g_iload (pc := 121) 1 dX11_search_121 rfl ?_
    refine n_icmp_ge (pc := 123) 172 dX11_search_123 (by decide) (by omega) (by omega) (fun hb9 => ?_) (fun hb9 => ?_)
    · exact absurd hb9 (by omega)
    · refine g_aload_n (pc := 126) 2 dX11_search_126 rfl rfl ?_
      refine g_get (pc := 127) dX11_search_127 fk_X11_40 hX1 rfl ?_
      refine g_aload_n (pc := 130) 2 dX11_search_130 rfl rfl ?_
      refine g_get (pc := 131) dX11_search_131 fk_X11_19 hX1 rfl ?_
      refine g_aload_n (pc := 134) 2 dX11_search_134 rfl rfl ?_
      refine g_get (pc := 135) dX11_search_135 fk_X11_33 hX1 rfl ?_
      refine g_callV (pc := 138) [.ref (X + 3), .ref (X + 52)] dX11_search_138 cv_X11_181.1 cv_X11_181.2.1 cv_X11_181.2.2.1 cv_X11_181.2.2.2 hH rfl rfl (Nat.le_of_ble_eq_true rfl) (by decide) (by decide) (sp_isFound _ (v := v) hH hr hT hV hQ hA hL hd hlv hbd (by omega) (by omega) (by omega) (by omega) (by omega) (by omega)) ?_
      rintro _ w9 (⟨rfl, hone, hH2, hL2, hA2, hQ2, hF2⟩ | ⟨hno, b, R', hTop, hlf, hL2, ⟨rfl, hle⟩ | ⟨rfl, hle⟩, hH2, hA2, hQ2, hF2⟩)
      · skip
        have h1 := isOneF_cg hcg hone
        clear hone
        have hX2 := hF2.lk (UI _ (by omega) (by omega) (by omega) (by omega) (by omega)) hX1
        have hr2 := hF2.lk (UI _ (by omega) (by omega) (by omega) (by omega) (by omega)) hr
        have hE2 := hF2.lk (UI _ (by omega) (by omega) (by omega) (by omega) (by omega)) hE
        have hT2 := hT.fr hF2 (fun j g1 g2 g3 g4 g5 g6 g7 => UI _ g3 g4 g5 (by omega) (by omega))
        have hV2 : ∀ k, k ≤ lv → whV w9 (X + 112 + 6 + 2 * k) 24 (limV v k : Nat) := fun k hk => (hV k hk).fr hF2 (UI _ (by omega) (by omega) (by omega) (by omega) (by omega)) (UI _ (by omega) (by omega) (by omega) (by omega) (by omega))
        have hG2 := hG.ex (EX.of hF2 (fun _ g => g)) (fun j g1 g2 => UI _ (by omega) (by omega) (by omega) (by omega) (by omega))
        have hFw : FR (toolS X) w w9 := hF.tr (hF2.mono (fun j g => by
          unfold toolS
          rcases g with g | g | g | g | g
          · omega
          · omega
          · omega
          · unfold cirS at g; omega
          · rcases g with g | g <;> omega))
        refine n_if_eq (pc := 141) 159 dX11_search_141 (by decide) (by omega) (fun hz => ?_) (fun hz => ?_)
        · refine g_aload_n (pc := 159) 2 dX11_search_159 rfl rfl ?_
          refine g_get (pc := 160) dX11_search_160 fk_X11_40 hX2 rfl ?_
          refine g_callV (pc := 163) [] dX11_search_163 cv_X11_189.1 cv_X11_189.2.1 cv_X11_189.2.2.1 cv_X11_189.2.2.2 hH2 rfl rfl (Nat.le_of_ble_eq_true rfl) (by decide) (by decide) (sp_goOn _ (i := i) hH2 hr2 hd hev hh hh3 hrw) ?_
          rintro _ w4 ⟨rfl, rw4, hrw4, e4⟩
          have hF4 : FR (fun j => j = X + 112 + 4) w9 w4 := by rw [e4]; exact FR.set hr2 rfl rfl
          have hr4 : w4[X + 112 + 4]? = some (aL 13 rw4) := by rw [e4]; exact lk_eq hr2
          have ht4 : tlC w4 X d h lv v (ia) (i + 1) (on + 1) rw4 en := ⟨⟨_, _, _, hL2.fr hF4 (by omega) (fun j _ _ => by omega)⟩, ⟨bb, bl, hG2.ex (EX.of hF4 (fun _ g => g)) (fun j _ _ => by omega)⟩, hA2.fr hF4 (fun j _ _ => by omega), hF4.lk (by omega) hH2, hT2.fr hF4 (fun j _ _ _ _ _ g6 _ => g6), fun k hk => (hV2 k hk).fr hF4 (by omega) (by omega), hQ2.fr hF4 (by omega) (by omega), hr4, hF4.lk (by omega) hE2⟩
          have hFn : FR (toolS X) w w4 := hFw.tr (hF4.mono (fun j g => by unfold toolS; omega))
          refine n_iinc (pc := 166) (c := 1) [(7, .int (nI (i + 1))), (6, .int (nI sz)), (0, .ref X), (1, .int (nI d)), (2, .int (nI h))] 0 dX11_search_166 rfl (by decide) (by decide) rfl ?_
          refine g_goto (pc := 169) 119 dX11_search_169 (by decide) ?_
          exact GP.lsub _ (by simp) (ih (i + 1) w4 (ia) (on + 1) rw4 en E (by omega) ht4 hrw4 (show srS d h lv v (i + 1) ia (on + 1) E from Or.inl ⟨h1, on, rfl, hS⟩) hen (by omega) (by omega) hFn)
        · exact absurd rfl hz
      · skip
        have h1 := noOneF_cg hcg hno
        clear hno
        have hTop2 := topL_congr hcg hTop
        have hb6 := hTop.1
        have hlf2 : ∀ j, j ≤ d → (R' b j).toInt = lvs (bxc d h i) d b j := fun j hj => by rw [hlf b (Nat.le_refl _) j hj]; exact lvs_congr hcg b j hj
        rw [sqI2_eq (F := lvs (bxc d h i) d b) (d + 1) (fun j hj => hlf2 j (by omega))] at hle
        have hX2 := hF2.lk (UI _ (by omega) (by omega) (by omega) (by omega) (by omega)) hX1
        have hr2 := hF2.lk (UI _ (by omega) (by omega) (by omega) (by omega) (by omega)) hr
        have hE2 := hF2.lk (UI _ (by omega) (by omega) (by omega) (by omega) (by omega)) hE
        have hT2 := hT.fr hF2 (fun j g1 g2 g3 g4 g5 g6 g7 => UI _ g3 g4 g5 (by omega) (by omega))
        have hV2 : ∀ k, k ≤ lv → whV w9 (X + 112 + 6 + 2 * k) 24 (limV v k : Nat) := fun k hk => (hV k hk).fr hF2 (UI _ (by omega) (by omega) (by omega) (by omega) (by omega)) (UI _ (by omega) (by omega) (by omega) (by omega) (by omega))
        have hG2 := hG.ex (EX.of hF2 (fun _ g => g)) (fun j g1 g2 => UI _ (by omega) (by omega) (by omega) (by omega) (by omega))
        have hFw : FR (toolS X) w w9 := hF.tr (hF2.mono (fun j g => by
          unfold toolS
          rcases g with g | g | g | g | g
          · omega
          · omega
          · omega
          · unfold cirS at g; omega
          · rcases g with g | g <;> omega))
        refine n_if_eq (pc := 141) 159 dX11_search_141 (by decide) (by omega) (fun hz => ?_) (fun hz => ?_)
        · exact absurd hz (by decide)
        · have htop0 : bxc d h i d ≠ 0 := by
            unfold bxc
            rw [if_neg (by omega), if_pos (Or.inr rfl)]
            decide
          have hpos : 0 < sqs (R' b) (d + 1) := by
            rw [sqI2_eq (F := lvs (bxc d h i) d b) (d + 1) (fun j hj => hlf2 j (by omega))]
            exact sq_pos (lvs_top htop0 b)
          have hrs : ∀ p, p < 13 → -1000000000 ≤ (rw9 p).toInt ∧ (rw9 p).toInt ≤ 1000000000 := fun p hp => by rw [hrw p hp]; exact bxc_sm hh3
          refine g_aload_n (pc := 144) 2 dX11_search_144 rfl rfl ?_
          refine g_get (pc := 145) dX11_search_145 fk_X11_40 hX2 rfl ?_
          refine g_aload_n (pc := 148) 2 dX11_search_148 rfl rfl ?_
          refine g_get (pc := 149) dX11_search_149 fk_X11_19 hX2 rfl ?_
          refine g_aload_n (pc := 152) 2 dX11_search_152 rfl rfl ?_
          refine g_get (pc := 153) dX11_search_153 fk_X11_26 hX2 rfl ?_
          refine g_callV (pc := 156) [.ref (X + 3), .ref (X + 12)] dX11_search_156 cv_X11_185.1 cv_X11_185.2.1 cv_X11_185.2.2.1 cv_X11_185.2.2.2 hH2 rfl rfl (Nat.le_of_ble_eq_true rfl) (by decide) (by decide) (sp_keepFound _ hH2 hr2 hE2 hG2 hL2 hd (by omega) (by omega) hpos hrs (by omega) (by omega) (by omega) (by omega) (by omega)) ?_
          rintro _ w3 ⟨rfl, hH3, hG3, hF3, en3, hE3, hen3⟩
          have UK : ∀ j, j ≠ X + 112 → j ≠ X + 112 + 5 → (j < X + 28 ∨ X + 35 < j) → ¬ kpS (X + 12) (X + 112) j := fun j g1 g2 g3 g4 => by unfold kpS at g4; omega
          have hX3 := hF3.lk (UK _ (by omega) (by omega) (by omega)) hX2
          have hr3 := hF3.lk (UK _ (by omega) (by omega) (by omega)) hr2
          have hT3 := hT2.fr hF3 (fun j g1 g2 g3 g4 g5 g6 g7 => UK _ g3 g7 (by omega))
          have hV3 : ∀ k, k ≤ lv → whV w3 (X + 112 + 6 + 2 * k) 24 (limV v k : Nat) := fun k hk => (hV2 k hk).fr hF3 (UK _ (by omega) (by omega) (by omega)) (UK _ (by omega) (by omega) (by omega))
          have hQ3 := hQ2.fr hF3 (UK _ (by omega) (by omega) (by omega)) (UK _ (by omega) (by omega) (by omega))
          have hA3 := hA2.fr hF3 (fun j g1 g2 => UK _ (by omega) (by omega) (by omega))
          have hL3 := hL2.fr hF3 (UK _ (by omega) (by omega) (by omega)) (fun j g1 g2 => UK _ (by omega) (by omega) (by omega))
          have hFw3 : FR (toolS X) w w3 := hFw.tr (hF3.mono (fun j g => by unfold kpS at g; unfold toolS; omega))
          have hfin : ∃ E3, srS d h lv v (i + 1) (ia + 1) on E3 ∧ ∀ j, j < 16 * min (ia + 1) 30 → (en3 j).toInt = E3 j := by
            rcases hen3 with ⟨h30, k1, k2, hi, lw, k3, k4, k5, k6, k7⟩ | ⟨h30, e3⟩
            · refine ⟨fun j => (en3 j).toInt, Or.inr ⟨h1, b, hTop2, Or.inr ⟨hle, ia, fun j => (en j).toInt, rfl, ?_, Or.inl ⟨h30, fun j hj => by show (en3 j).toInt = (en j).toInt; rw [k1 j (Or.inl hj)], fun p hp => by show (en3 _).toInt = _; rw [k2 p hp]; exact hrw p hp, hi, lw, high_of hlf2 k3, low_of hlf2 k4, by show (en3 _).toInt = _; rw [k5, nI_toInt (by have := k3.le; omega)], by show (en3 _).toInt = _; rw [k6, nI_toInt (by have := k4.le; omega)], by show (en3 _).toInt = _; rw [k7, nI_toInt (by omega)]⟩⟩⟩, fun j _ => rfl⟩
              exact srS_cg (fun j hj => hen j hj) hS
            · exact ⟨E, Or.inr ⟨h1, b, hTop2, Or.inr ⟨hle, ia, E, rfl, hS, Or.inr ⟨h30, rfl⟩⟩⟩, fun j hj => by rw [e3]; exact hen j (by omega)⟩
          obtain ⟨E3, hS3, hen9⟩ := hfin
          refine g_aload_n (pc := 159) 2 dX11_search_159 rfl rfl ?_
          refine g_get (pc := 160) dX11_search_160 fk_X11_40 hX3 rfl ?_
          refine g_callV (pc := 163) [] dX11_search_163 cv_X11_189.1 cv_X11_189.2.1 cv_X11_189.2.2.1 cv_X11_189.2.2.2 hH3 rfl rfl (Nat.le_of_ble_eq_true rfl) (by decide) (by decide) (sp_goOn _ (i := i) hH3 hr3 hd hev hh hh3 hrw) ?_
          rintro _ w4 ⟨rfl, rw4, hrw4, e4⟩
          have hF4 : FR (fun j => j = X + 112 + 4) w3 w4 := by rw [e4]; exact FR.set hr3 rfl rfl
          have hr4 : w4[X + 112 + 4]? = some (aL 13 rw4) := by rw [e4]; exact lk_eq hr3
          have ht4 : tlC w4 X d h lv v (ia + 1) (i + 1) (on) rw4 en3 := ⟨⟨_, _, _, hL3.fr hF4 (by omega) (fun j _ _ => by omega)⟩, ⟨bb, bl, hG3.ex (EX.of hF4 (fun _ g => g)) (fun j _ _ => by omega)⟩, hA3.fr hF4 (fun j _ _ => by omega), hF4.lk (by omega) hH3, hT3.fr hF4 (fun j _ _ _ _ _ g6 _ => g6), fun k hk => (hV3 k hk).fr hF4 (by omega) (by omega), hQ3.fr hF4 (by omega) (by omega), hr4, hF4.lk (by omega) hE3⟩
          have hFn : FR (toolS X) w w4 := hFw3.tr (hF4.mono (fun j g => by unfold toolS; omega))
          refine n_iinc (pc := 166) (c := 1) [(7, .int (nI (i + 1))), (6, .int (nI sz)), (0, .ref X), (1, .int (nI d)), (2, .int (nI h))] 0 dX11_search_166 rfl (by decide) (by decide) rfl ?_
          refine g_goto (pc := 169) 119 dX11_search_169 (by decide) ?_
          exact GP.lsub _ (by simp) (ih (i + 1) w4 (ia + 1) (on) rw4 en3 E3 (by omega) ht4 hrw4 hS3 hen9 (by omega) (by omega) hFn)
      · skip
        have h1 := noOneF_cg hcg hno
        clear hno
        have hTop2 := topL_congr hcg hTop
        have hb6 := hTop.1
        have hlf2 : ∀ j, j ≤ d → (R' b j).toInt = lvs (bxc d h i) d b j := fun j hj => by rw [hlf b (Nat.le_refl _) j hj]; exact lvs_congr hcg b j hj
        rw [sqI2_eq (F := lvs (bxc d h i) d b) (d + 1) (fun j hj => hlf2 j (by omega))] at hle
        have hX2 := hF2.lk (UI _ (by omega) (by omega) (by omega) (by omega) (by omega)) hX1
        have hr2 := hF2.lk (UI _ (by omega) (by omega) (by omega) (by omega) (by omega)) hr
        have hE2 := hF2.lk (UI _ (by omega) (by omega) (by omega) (by omega) (by omega)) hE
        have hT2 := hT.fr hF2 (fun j g1 g2 g3 g4 g5 g6 g7 => UI _ g3 g4 g5 (by omega) (by omega))
        have hV2 : ∀ k, k ≤ lv → whV w9 (X + 112 + 6 + 2 * k) 24 (limV v k : Nat) := fun k hk => (hV k hk).fr hF2 (UI _ (by omega) (by omega) (by omega) (by omega) (by omega)) (UI _ (by omega) (by omega) (by omega) (by omega) (by omega))
        have hG2 := hG.ex (EX.of hF2 (fun _ g => g)) (fun j g1 g2 => UI _ (by omega) (by omega) (by omega) (by omega) (by omega))
        have hFw : FR (toolS X) w w9 := hF.tr (hF2.mono (fun j g => by
          unfold toolS
          rcases g with g | g | g | g | g
          · omega
          · omega
          · omega
          · unfold cirS at g; omega
          · rcases g with g | g <;> omega))
        refine n_if_eq (pc := 141) 159 dX11_search_141 (by decide) (by omega) (fun hz => ?_) (fun hz => ?_)
        · refine g_aload_n (pc := 159) 2 dX11_search_159 rfl rfl ?_
          refine g_get (pc := 160) dX11_search_160 fk_X11_40 hX2 rfl ?_
          refine g_callV (pc := 163) [] dX11_search_163 cv_X11_189.1 cv_X11_189.2.1 cv_X11_189.2.2.1 cv_X11_189.2.2.2 hH2 rfl rfl (Nat.le_of_ble_eq_true rfl) (by decide) (by decide) (sp_goOn _ (i := i) hH2 hr2 hd hev hh hh3 hrw) ?_
          rintro _ w4 ⟨rfl, rw4, hrw4, e4⟩
          have hF4 : FR (fun j => j = X + 112 + 4) w9 w4 := by rw [e4]; exact FR.set hr2 rfl rfl
          have hr4 : w4[X + 112 + 4]? = some (aL 13 rw4) := by rw [e4]; exact lk_eq hr2
          have ht4 : tlC w4 X d h lv v (ia) (i + 1) (on) rw4 en := ⟨⟨_, _, _, hL2.fr hF4 (by omega) (fun j _ _ => by omega)⟩, ⟨bb, bl, hG2.ex (EX.of hF4 (fun _ g => g)) (fun j _ _ => by omega)⟩, hA2.fr hF4 (fun j _ _ => by omega), hF4.lk (by omega) hH2, hT2.fr hF4 (fun j _ _ _ _ _ g6 _ => g6), fun k hk => (hV2 k hk).fr hF4 (by omega) (by omega), hQ2.fr hF4 (by omega) (by omega), hr4, hF4.lk (by omega) hE2⟩
          have hFn : FR (toolS X) w w4 := hFw.tr (hF4.mono (fun j g => by unfold toolS; omega))
          refine n_iinc (pc := 166) (c := 1) [(7, .int (nI (i + 1))), (6, .int (nI sz)), (0, .ref X), (1, .int (nI d)), (2, .int (nI h))] 0 dX11_search_166 rfl (by decide) (by decide) rfl ?_
          refine g_goto (pc := 169) 119 dX11_search_169 (by decide) ?_
          exact GP.lsub _ (by simp) (ih (i + 1) w4 (ia) (on) rw4 en E (by omega) ht4 hrw4 (show srS d h lv v (i + 1) ia on E from Or.inr ⟨h1, b, hTop2, Or.inl ⟨hle, hS⟩⟩) hen (by omega) (by omega) hFn)
        · exact absurd rfl hz
