/-! the reference: put, undo, image, back -/
def putM (F : Nat → Int) (kd k : Nat) (w : Wd) (Y tl : Nat) (tb : Nat → Int32) (fa : Int32) (rf : Nat → Nat) (sh : SV) (pn : Nat) (pk : Nat → Nat) (ps : Nat → SV) (im : Nat → Option SV) (r : Option Value) (w' : Wd) : Prop := ∃ c, topI F 25 c ∧ ((¬ fitI F c ∧ rfM (-5) 3 w Y tl tb fa rf sh pn pk ps im r w') ∨ (fitI F c ∧ r = some (.int (nI (c - 1))) ∧ mdC w' Y tl tb fa (nI 0) rf (setP sh k (c - 1, cutP F c)) (min (pn + 1) 8) (psh pn pk kd) (psh pn ps sh) im ∧ FR (modS Y) w w'))
theorem top_60 {h : Nat → Int64} {F : Nat → Int} {c : Nat} (hF : ∀ j, j < 60 → (h j).toInt = F j) (hz : ∀ j, 25 ≤ j → j < 60 → F j = 0) (hc : topI (toI h) 60 c) : topI F 25 c := by
  obtain ⟨h1, h2, h3⟩ := hc
  have hc25 : c ≤ 25 := by
    rcases h3 with h3 | h3
    · omega
    · apply Decidable.byContradiction
      intro hn
      exact h3 ((hF (c - 1) (by omega)).trans (hz (c - 1) (by omega) (by omega)))
  refine ⟨hc25, fun j a b => (hF j (by omega)).symm.trans (h2 j a (by omega)), ?_⟩
  rcases h3 with h3 | h3
  · exact Or.inl h3
  · by_cases e : c = 0
    · exact Or.inl e
    · exact Or.inr (fun g => h3 ((hF (c - 1) (by omega)).trans g))
theorem fit_60 {h : Nat → Int64} {F : Nat → Int} {c : Nat} (hF : ∀ j, j < 60 → (h j).toInt = F j) : fitI (toI h) c ↔ fitI F c := by
  unfold fitI
  constructor
  · rintro ⟨a, b, g⟩
    exact ⟨a, b, fun j hj => by rw [← hF j (by omega)]; exact g j hj⟩
  · rintro ⟨a, b, g⟩
    exact ⟨a, b, fun j hj => by show -9999 ≤ (h j).toInt ∧ (h j).toInt ≤ 9999; rw [hF j (by omega)]; exact g j hj⟩
def rwF (g : Nat → Int32) (h : Nat → Int64) (k : Nat) (d : Int32) (p : Nat) : Nat → Int32 := fun i => if i = 14 * k then d else if 14 * k + 1 ≤ i ∧ i < 14 * k + 1 + p then (h (i - 14 * k - 1)).toInt32 else g i
theorem rwF_0 {g : Nat → Int32} {h : Nat → Int64} {k : Nat} {d : Int32} : upd g (14 * k) d = rwF g h k d 0 := by
  funext i
  unfold rwF
  by_cases e : i = 14 * k
  · rw [e, upd_s, if_pos rfl]
  · rw [upd_n e, if_neg e, if_neg (by omega)]
theorem rwF_s {g : Nat → Int32} {h : Nat → Int64} {k : Nat} {d : Int32} {p : Nat} : upd (rwF g h k d p) (14 * k + 1 + p) (h p).toInt32 = rwF g h k d (p + 1) := by
  funext i
  by_cases e : i = 14 * k + 1 + p
  · rw [e, upd_s]
    unfold rwF
    rw [if_neg (by omega), if_pos (by omega), show 14 * k + 1 + p - 14 * k - 1 = p by omega]
  · rw [upd_n e]
    unfold rwF
    by_cases e2 : i = 14 * k
    · rw [if_pos e2, if_pos e2]
    · rw [if_neg e2, if_neg e2]
      by_cases e3 : 14 * k + 1 ≤ i ∧ i < 14 * k + 1 + p
      · rw [if_pos e3, if_pos (by omega)]
      · rw [if_neg e3, if_neg (by omega)]
theorem rwF_R {g : Nat → Int32} {h : Nat → Int64} {F : Nat → Int} {k c : Nat} {V : SV} (hV : rowR g V) (hk : k < 8) (hF : ∀ j, j < 60 → (h j).toInt = F j) (ht : topI F 25 c) (hf : fitI F c) : rowR (rwF g h k (dgN c) 13) (setP V k (c - 1, cutP F c)) := by
  obtain ⟨h1, ⟨h2, h3, h4, h5⟩, h6, h7⟩ := hV
  obtain ⟨f1, f2, f3⟩ := id hf
  obtain ⟨-, h8, -⟩ := id h6
  have far : ∀ i, 112 ≤ i → rwF g h k (dgN c) 13 i = g i := fun i hi => by
    unfold rwF
    rw [if_neg (by omega), if_neg (by omega)]
  refine ⟨fun i hi => ?_, ⟨by rw [far _ (by omega)]; exact h2, by rw [far _ (by omega)]; exact h3, by rw [far _ (by omega)]; exact h4, by rw [far _ (by omega)]; exact h5⟩, h6, fun i hi => ?_⟩
  · by_cases e : i = k
    · subst e
      have es : (setP V i (c - 1, cutP F c)).1 i = (c - 1, cutP F c) := if_pos rfl
      rw [es]
      refine ⟨⟨show c - 1 ≤ 12 by omega, fun j hj => ?_, ?_, fun j hj => ?_⟩, ?_, fun p hp => ?_⟩
      · have hj9 : j ≤ c - 1 := hj
        show -9999 ≤ cutP F c j ∧ cutP F c j ≤ 9999
        unfold cutP
        rw [if_pos (by omega)]
        exact f3 j (by omega)
      · show cutP F c (c - 1) ≠ 0
        unfold cutP
        rw [if_pos (by omega)]
        exact ht.2.2.resolve_left (by omega)
      · have hj9 : c - 1 < j := hj
        show cutP F c j = 0
        unfold cutP
        rw [if_neg (by omega)]
      · unfold rwF
        rw [if_pos rfl]
        obtain ⟨c9, rfl⟩ : ∃ c9, c = c9 + 1 := ⟨c - 1, by omega⟩
        rfl
      · have hp9 : (rwF g h i (dgN c) 13 (14 * i + 1 + p)) = (h p).toInt32 := by
          unfold rwF
          rw [if_neg (by omega), if_pos (by omega), show 14 * i + 1 + p - 14 * i - 1 = p by omega]
        rw [hp9]
        show (h p).toInt32.toInt = cutP F c p
        unfold cutP
        by_cases e2 : p < c
        · rw [if_pos e2]
          have := f3 p e2
          rw [LI (by rw [hF p (by omega)]; omega) (by rw [hF p (by omega)]; omega), hF p (by omega)]
        · rw [if_neg e2]
          have h0 : F p = 0 := ht.2.1 p (by omega) (by omega)
          rw [LI (by rw [hF p (by omega), h0]; omega) (by rw [hF p (by omega), h0]; omega), hF p (by omega), h0]
    · have es : (setP V k (c - 1, cutP F c)).1 i = V.1 i := if_neg e
      rw [es]
      obtain ⟨p1, p2, p3⟩ := h1 i hi
      have nr : ∀ q, q < 14 → rwF g h k (dgN c) 13 (14 * i + q) = g (14 * i + q) := fun q hq => by
        unfold rwF
        rw [if_neg (by omega), if_neg (by omega)]
      refine ⟨p1, (nr 0 (by omega)).trans p2, fun p hp => ?_⟩
      have := nr (1 + p) (by omega)
      rw [show 14 * i + (1 + p) = 14 * i + 1 + p by omega] at this
      rw [this]
      exact p3 p hp
  · have hi9 : i < V.2.2.2.2.2.1 := hi
    obtain ⟨p1, p2, p3⟩ := h7 i hi9
    refine ⟨by rw [far _ (by omega)]; exact p1, fun j hj => by rw [far _ (by omega)]; exact p2 j hj, p3⟩
abbrev BX12_put (w0 : Wd) (Post : Option Value → Wd → Prop) (w : Wd) (pc : Nat) (ls : List (Nat × Value)) (st : List Value) : Prop := GP "put" RX12 cX12_put 4 (some .int) 2 78 none w0 Post w pc ls st
abbrev EX12_put (As : List Value) (w : Wd) (Post : Option Value → Wd → Prop) : Prop := EP yX12_put cX12_put 4 (some .int) 2 As w Post
theorem pu_loop {w0 w : Wd} {Y k kd : Nat} {d : Int32} {th st nu dg dd ld be ib ta fa re ig : Int32} {g : Nat → Int32} {h : Nat → Int64} (hY : w[Y]? = some (oM Y th st nu dg dd ld be ib ta fa re ig)) (a2 : w[Y + 2]? = some (aI 0 626 g)) (a7 : w[Y + 7]? = some (aL 60 h)) (hk : k < 8) {Q : Option Value → Wd → Prop} (K : BX12_put w0 Q (w.set (Y + 2) (aI 0 626 (rwF g h k d 13))) 70 [(0, .ref Y)] []) : ∀ (z p : Nat), 13 = p + z → BX12_put w0 Q (w.set (Y + 2) (aI 0 626 (rwF g h k d p))) 38 [(3, .int (nI p)), (2, .int (nI kd)), (1, .int (nI k)), (0, .ref Y)] [] := by
  intro z
  induction z with
  | zero =>
    intro p hz
    refine g_iload_n (pc := 38) 0 dX12_put_38 rfl rfl ?_
    refine g_bipush (pc := 39) (v := nI 12) dX12_put_39 (by decide) ?_
    refine n_icmp_gt (pc := 41) 70 dX12_put_41 (by decide) (by omega) (by omega) (fun hb9 => ?_) (fun hb9 => ?_)
    · have e9 : p = 13 := by omega
      subst e9
      exact GP.lsub _ (by simp) K
    · exact absurd hb9 (by omega)
  | succ z ih =>
    intro p hz
    refine g_iload_n (pc := 38) 0 dX12_put_38 rfl rfl ?_
    refine g_bipush (pc := 39) (v := nI 12) dX12_put_39 (by decide) ?_
    refine n_icmp_gt (pc := 41) 70 dX12_put_41 (by decide) (by omega) (by omega) (fun hb9 => ?_) (fun hb9 => ?_)
    · exact absurd hb9 (by omega)
    · refine g_aload_n (pc := 44) 3 dX12_put_44 rfl rfl ?_
      refine g_get (pc := 45) dX12_put_45 fk_X12_13 (lk_ne (show (Y + 2) ≠ Y by omega) hY) rfl ?_
      refine g_bipush (pc := 48) (v := nI 14) dX12_put_48 (by decide) ?_
      refine g_iload_n (pc := 50) 2 dX12_put_50 rfl rfl ?_
      refine n_imul (pc := 51) dX12_put_51 ?_
      refine g_iconst (pc := 52) (v := nI 1) dX12_put_52 (by decide) ?_
      refine n_iadd (pc := 53) dX12_put_53 ?_
      refine g_iload_n (pc := 54) 0 dX12_put_54 rfl rfl ?_
      refine n_iadd (pc := 55) dX12_put_55 ?_
      refine g_aload_n (pc := 56) 3 dX12_put_56 rfl rfl ?_
      refine g_get (pc := 57) dX12_put_57 fk_X12_29 (lk_ne (show (Y + 2) ≠ Y by omega) hY) rfl ?_
      refine g_iload_n (pc := 60) 0 dX12_put_60 rfl rfl ?_
      refine g_lald (pc := 61) p dX12_put_61 (lk_ne (show (Y + 2) ≠ (Y + 7) by omega) a7) (IXn (by omega) (by omega)) ?_
      refine g_l2i (pc := 62) dX12_put_62 ?_
      refine g_iast (pc := 63) (((14 * k) + 1) + p) dX12_put_63 (lk_eq a2) (IXn (by omega) (by omega)) ?_
      refine GP.weq (w.set (Y + 2) (aI 0 626 (upd (rwF g h k d p) (((14 * k) + 1) + p) ((h p).toInt32)))) (by rw [List.set_set]) ?_
      refine n_iinc (pc := 64) (c := 1) [(3, .int (nI (p + 1))), (2, .int (nI kd)), (1, .int (nI k)), (0, .ref Y)] 0 dX12_put_64 rfl (by decide) (by decide) rfl ?_
      refine g_goto (pc := 67) 38 dX12_put_67 (by decide) ?_
      rw [rwF_s]
      exact GP.lsub _ (by simp) (ih (p + 1) (by omega))
theorem mq_put (w : Wd) {Y tl : Nat} {tb : Nat → Int32} {fa st : Int32} {rf : Nat → Nat} {sh : SV} {pn : Nat} {pk : Nat → Nat} {ps : Nat → SV} {im : Nat → Option SV} (hM : mdC w Y tl tb fa st rf sh pn pk ps im) {kd k : Nat} {h : Nat → Int64} {F : Nat → Int} (h7 : w[Y + 7]? = some (aL 60 h)) (hF : ∀ j, j < 60 → (h j).toInt = F j) (hz : ∀ j, 25 ≤ j → j < 60 → F j = 0) (hk : k < 8) : EX12_put [.ref Y, .int (nI k), .int (nI kd)] w (fun r w' => putM F kd k w Y tl tb fa rf sh pn pk ps im r w') := by
  refine EP.of (plainFor_of_name (by decide)) [(0, .ref Y), (1, .int (nI k)), (2, .int (nI kd))] rfl (Nat.le_of_ble_eq_true rfl) (fun r wf h => by obtain ⟨c, -, ⟨-, rfl, -⟩ | ⟨-, rfl, -⟩⟩ := h <;> trivial) ?_
  show BX12_put w _ w 0 [(0, .ref Y), (1, .int (nI k)), (2, .int (nI kd))] []
  obtain ⟨⟨th, dg, dd, ld, be, ib, re, ig, hY⟩, ⟨⟨g1, a1, b1⟩, ⟨g2, a2, b2⟩, ⟨g3, g4, a3, a4, b3, b4⟩, ⟨g5, g6, a5, a6, b5⟩, ⟨g11, a11, b11⟩, ⟨g17, a17, b17⟩⟩, ⟨g7, g8, g9, g10, g12, g13, g14, g18, g19, g20, g21, a7, a8, a9, a10, a12, a13, a14, a18, a19, a20, a21⟩, ⟨g15, g16, a15, a16, b15⟩⟩ := id hM
  refine g_aload_n (pc := 0) 0 dX12_put_0 rfl rfl ?_
  refine g_callV (pc := 1) [] dX12_put_1 cv_X12_132.1 cv_X12_132.2.1 cv_X12_132.2.2.1 cv_X12_132.2.2.2 hY rfl rfl (Nat.le_of_ble_eq_true rfl) (by decide) (by decide) (mp_find _ hY h7) ?_
  rintro _ w9 ⟨rfl, c, hc, e9⟩
  refine GP.weq _ e9 ?_
  have ht := top_60 hF hz hc
  refine g_aload_n (pc := 4) 0 dX12_put_4 rfl rfl ?_
  refine g_callV (pc := 5) [] dX12_put_5 cv_X12_135.1 cv_X12_135.2.1 cv_X12_135.2.2.1 cv_X12_135.2.2.2 (lk_eq hY) rfl rfl (Nat.le_of_ble_eq_true rfl) (by decide) (by decide) (mp_isFit _ (lk_eq hY) (lk_ne (show Y ≠ (Y + 7) by omega) h7) hc) ?_
  rintro _ w9 (⟨rfl, hi, e9⟩ | ⟨rfl, hi, e9⟩)
  · refine GP.weq _ e9 ?_
    have hi2 := (fit_60 hF).mp hi
    have hi3 := hi2.2.1
    refine n_if_ne (pc := 8) 18 dX12_put_8 (by decide) (by omega) (fun h1 => ?_) (fun h1 => ?_)
    · refine g_aload_n (pc := 18) 0 dX12_put_18 rfl rfl ?_
      refine g_iload_n (pc := 19) 2 dX12_put_19 rfl rfl ?_
      refine g_callV (pc := 20) [.int (nI kd)] dX12_put_20 cv_X12_139.1 cv_X12_139.2.1 cv_X12_139.2.2.1 cv_X12_139.2.2.2 (lk_eq hY) rfl rfl (Nat.le_of_ble_eq_true rfl) (by decide) (by decide) (mp_remember _ (kd := kd) (lk_eq hY) (lk_ne (show Y ≠ (Y + 2) by omega) a2) (lk_ne (show Y ≠ (Y + 3) by omega) a3) (lk_ne (show Y ≠ (Y + 4) by omega) a4) b3) ?_
      rintro _ w9 ⟨rfl, e9⟩
      refine GP.weq _ e9 ?_
      refine GP.weq (((w.set Y (.inr (11, .int th :: .int st :: .ref (Y + 1) :: .ref (Y + 2) :: .ref (Y + 3) :: .ref (Y + 4) :: .int (nI (min (pn + 1) 8)) :: .ref (Y + 5) :: .ref (Y + 6) :: .ref (Y + 7) :: .int (dgN c) :: .ref (Y + 8) :: .int dd :: .ref (Y + 9) :: .ref (Y + 10) :: .ref (Y + 11) :: .ref (Y + 12) :: .int ld :: .int be :: .int ib :: .ref (Y + 13) :: .ref (Y + 14) :: .ref (Y + 15) :: .ref (Y + 16) :: .ref (Y + 17) :: .int (nI tl) :: .int fa :: .int re :: .int ig :: .ref (Y + 18) :: .ref (Y + 19) :: .ref (Y + 20) :: .ref (Y + 21) :: []))).set (Y + 3) (aI 0 5008 (rmU g2 g3 pn))).set (Y + 4) (aI 0 8 (rmS g4 pn kd))) (by rw [List.set_comm _ _ (show (Y + 4) ≠ Y by omega), List.set_comm _ _ (show (Y + 3) ≠ Y by omega), List.set_set]) ?_
      refine g_aload_n (pc := 23) 0 dX12_put_23 rfl rfl ?_
      refine g_get (pc := 24) dX12_put_24 fk_X12_13 (lk_ne (show (Y + 4) ≠ Y by omega) (lk_ne (show (Y + 3) ≠ Y by omega) (lk_eq hY))) rfl ?_
      refine g_bipush (pc := 27) (v := nI 14) dX12_put_27 (by decide) ?_
      refine g_iload_n (pc := 29) 1 dX12_put_29 rfl rfl ?_
      refine n_imul (pc := 30) dX12_put_30 ?_
      refine g_aload_n (pc := 31) 0 dX12_put_31 rfl rfl ?_
      refine g_get (pc := 32) dX12_put_32 fk_X12_113 (lk_ne (show (Y + 4) ≠ Y by omega) (lk_ne (show (Y + 3) ≠ Y by omega) (lk_eq hY))) rfl ?_
      refine g_iast (pc := 35) (14 * k) dX12_put_35 (lk_ne (show (Y + 4) ≠ (Y + 2) by omega) (lk_ne (show (Y + 3) ≠ (Y + 2) by omega) (lk_ne (show Y ≠ (Y + 2) by omega) a2))) (IXn (by omega) (by omega)) ?_
      refine g_iconst (pc := 36) (v := nI 0) dX12_put_36 (by decide) ?_
      refine g_istore_n (pc := 37) [(3, .int (nI 0)), (0, .ref Y), (1, .int (nI k)), (2, .int (nI kd))] dX12_put_37 rfl (by decide) rfl ?_
      obtain ⟨w2, ew2⟩ : ∃ wy : Wd, wy = (((w.set Y (oM Y th st (nI (min (pn + 1) 8)) (dgN c) dd ld be ib (nI tl) fa re ig)).set (Y + 3) (aI 0 5008 (rmU g2 g3 pn))).set (Y + 4) (aI 0 8 (rmS g4 pn kd))) := ⟨_, rfl⟩
      have c0 : w2[Y]? = some (oM Y th st (nI (min (pn + 1) 8)) (dgN c) dd ld be ib (nI tl) fa re ig) := by rw [ew2]; exact (lk_ne (show (Y + 4) ≠ Y by omega) (lk_ne (show (Y + 3) ≠ Y by omega) (lk_eq hY)))
      have c1 : w2[Y + 1]? = some (aI 0 7 g1) := by rw [ew2]; exact (lk_ne (show (Y + 4) ≠ (Y + 1) by omega) (lk_ne (show (Y + 3) ≠ (Y + 1) by omega) (lk_ne (show Y ≠ (Y + 1) by omega) a1)))
      have c2 : w2[Y + 2]? = some (aI 0 626 g2) := by rw [ew2]; exact (lk_ne (show (Y + 4) ≠ (Y + 2) by omega) (lk_ne (show (Y + 3) ≠ (Y + 2) by omega) (lk_ne (show Y ≠ (Y + 2) by omega) a2)))
      have c3 : w2[Y + 3]? = some (aI 0 5008 (rmU g2 g3 pn)) := by rw [ew2]; exact (lk_ne (show (Y + 4) ≠ (Y + 3) by omega) (lk_eq (lk_ne (show Y ≠ (Y + 3) by omega) a3)))
      have c4 : w2[Y + 4]? = some (aI 0 8 (rmS g4 pn kd)) := by rw [ew2]; exact (lk_eq (lk_ne (show (Y + 3) ≠ (Y + 4) by omega) (lk_ne (show Y ≠ (Y + 4) by omega) a4)))
      have c5 : w2[Y + 5]? = some (aI 0 1252 g5) := by rw [ew2]; exact (lk_ne (show (Y + 4) ≠ (Y + 5) by omega) (lk_ne (show (Y + 3) ≠ (Y + 5) by omega) (lk_ne (show Y ≠ (Y + 5) by omega) a5)))
      have c6 : w2[Y + 6]? = some (aI 3 2 g6) := by rw [ew2]; exact (lk_ne (show (Y + 4) ≠ (Y + 6) by omega) (lk_ne (show (Y + 3) ≠ (Y + 6) by omega) (lk_ne (show Y ≠ (Y + 6) by omega) a6)))
      have c7 : w2[Y + 7]? = some (aL 60 h) := by rw [ew2]; exact (lk_ne (show (Y + 4) ≠ (Y + 7) by omega) (lk_ne (show (Y + 3) ≠ (Y + 7) by omega) (lk_ne (show Y ≠ (Y + 7) by omega) h7)))
      have c8 : w2[Y + 8]? = some (aL 14 g8) := by rw [ew2]; exact (lk_ne (show (Y + 4) ≠ (Y + 8) by omega) (lk_ne (show (Y + 3) ≠ (Y + 8) by omega) (lk_ne (show Y ≠ (Y + 8) by omega) a8)))
      have c9 : w2[Y + 9]? = some (aL 60 g9) := by rw [ew2]; exact (lk_ne (show (Y + 4) ≠ (Y + 9) by omega) (lk_ne (show (Y + 3) ≠ (Y + 9) by omega) (lk_ne (show Y ≠ (Y + 9) by omega) a9)))
      have c10 : w2[Y + 10]? = some (aL 60 g10) := by rw [ew2]; exact (lk_ne (show (Y + 4) ≠ (Y + 10) by omega) (lk_ne (show (Y + 3) ≠ (Y + 10) by omega) (lk_ne (show Y ≠ (Y + 10) by omega) a10)))
      have c11 : w2[Y + 11]? = some (aI 0 602 g11) := by rw [ew2]; exact (lk_ne (show (Y + 4) ≠ (Y + 11) by omega) (lk_ne (show (Y + 3) ≠ (Y + 11) by omega) (lk_ne (show Y ≠ (Y + 11) by omega) a11)))
      have c12 : w2[Y + 12]? = some (aL 91 g12) := by rw [ew2]; exact (lk_ne (show (Y + 4) ≠ (Y + 12) by omega) (lk_ne (show (Y + 3) ≠ (Y + 12) by omega) (lk_ne (show Y ≠ (Y + 12) by omega) a12)))
      have c13 : w2[Y + 13]? = some (aL 450 g13) := by rw [ew2]; exact (lk_ne (show (Y + 4) ≠ (Y + 13) by omega) (lk_ne (show (Y + 3) ≠ (Y + 13) by omega) (lk_ne (show Y ≠ (Y + 13) by omega) a13)))
      have c14 : w2[Y + 14]? = some (aI 0 5 g14) := by rw [ew2]; exact (lk_ne (show (Y + 4) ≠ (Y + 14) by omega) (lk_ne (show (Y + 3) ≠ (Y + 14) by omega) (lk_ne (show Y ≠ (Y + 14) by omega) a14)))
      have c15 : w2[Y + 15]? = some (aL 720 g15) := by rw [ew2]; exact (lk_ne (show (Y + 4) ≠ (Y + 15) by omega) (lk_ne (show (Y + 3) ≠ (Y + 15) by omega) (lk_ne (show Y ≠ (Y + 15) by omega) a15)))
      have c16 : w2[Y + 16]? = some (aI 0 8 g16) := by rw [ew2]; exact (lk_ne (show (Y + 4) ≠ (Y + 16) by omega) (lk_ne (show (Y + 3) ≠ (Y + 16) by omega) (lk_ne (show Y ≠ (Y + 16) by omega) a16)))
      have c17 : w2[Y + 17]? = some (aI 2 400 g17) := by rw [ew2]; exact (lk_ne (show (Y + 4) ≠ (Y + 17) by omega) (lk_ne (show (Y + 3) ≠ (Y + 17) by omega) (lk_ne (show Y ≠ (Y + 17) by omega) a17)))
      have c18 : w2[Y + 18]? = some (aI 0 13 g18) := by rw [ew2]; exact (lk_ne (show (Y + 4) ≠ (Y + 18) by omega) (lk_ne (show (Y + 3) ≠ (Y + 18) by omega) (lk_ne (show Y ≠ (Y + 18) by omega) a18)))
      have c19 : w2[Y + 19]? = some (aI 0 4 g19) := by rw [ew2]; exact (lk_ne (show (Y + 4) ≠ (Y + 19) by omega) (lk_ne (show (Y + 3) ≠ (Y + 19) by omega) (lk_ne (show Y ≠ (Y + 19) by omega) a19)))
      have c20 : w2[Y + 20]? = some (aI 0 8 g20) := by rw [ew2]; exact (lk_ne (show (Y + 4) ≠ (Y + 20) by omega) (lk_ne (show (Y + 3) ≠ (Y + 20) by omega) (lk_ne (show Y ≠ (Y + 20) by omega) a20)))
      have c21 : w2[Y + 21]? = some (aI 0 8 g21) := by rw [ew2]; exact (lk_ne (show (Y + 4) ≠ (Y + 21) by omega) (lk_ne (show (Y + 3) ≠ (Y + 21) by omega) (lk_ne (show Y ≠ (Y + 21) by omega) a21)))
      have hF2 : FR (modS Y) w w2 := by rw [ew2]; exact (FR.st (c' := aI 0 8 (rmS g4 pn kd)) (FR.st (c' := aI 0 5008 (rmU g2 g3 pn)) (FR.st (c' := .inr (11, .int th :: .int st :: .ref (Y + 1) :: .ref (Y + 2) :: .ref (Y + 3) :: .ref (Y + 4) :: .int (nI (min (pn + 1) 8)) :: .ref (Y + 5) :: .ref (Y + 6) :: .ref (Y + 7) :: .int (dgN c) :: .ref (Y + 8) :: .int dd :: .ref (Y + 9) :: .ref (Y + 10) :: .ref (Y + 11) :: .ref (Y + 12) :: .int ld :: .int be :: .int ib :: .ref (Y + 13) :: .ref (Y + 14) :: .ref (Y + 15) :: .ref (Y + 16) :: .ref (Y + 17) :: .int (nI tl) :: .int fa :: .int re :: .int ig :: .ref (Y + 18) :: .ref (Y + 19) :: .ref (Y + 20) :: .ref (Y + 21) :: [])) FR.rf hY rfl (by unfold modS; omega)) (lk_ne (show Y ≠ (Y + 3) by omega) a3) rfl (by unfold modS; omega)) (lk_ne (show (Y + 3) ≠ (Y + 4) by omega) (lk_ne (show Y ≠ (Y + 4) by omega) a4)) rfl (by unfold modS; omega))
      refine GP.weq (w2.set (Y + 2) (aI 0 626 (rwF g2 h k (dgN c) 0))) (by rw [ew2, ← rwF_0]) ?_
      refine GP.lsub _ (by simp) (pu_loop (kd := kd) c0 c2 c7 hk ?_ 13 0 rfl)
      obtain ⟨w3, ew3⟩ : ∃ wy : Wd, wy = (w2.set (Y + 2) (aI 0 626 (rwF g2 h k (dgN c) 13))) := ⟨_, rfl⟩
      refine GP.weq w3 ew3.symm ?_
      have hM3 : mdC w3 Y tl tb fa st rf (setP sh k (c - 1, cutP F c)) (min (pn + 1) 8) (psh pn pk kd) (psh pn ps sh) im := by rw [ew3]; exact ⟨⟨_, _, _, _, _, _, _, _, (lk_ne (show (Y + 2) ≠ Y by omega) c0)⟩, ⟨⟨_, (lk_ne (show (Y + 2) ≠ (Y + 1) by omega) c1), b1⟩, ⟨_, (lk_eq c2), (rwF_R b2 hk hF ht hi2)⟩, ⟨_, _, (lk_ne (show (Y + 2) ≠ (Y + 3) by omega) c3), (lk_ne (show (Y + 2) ≠ (Y + 4) by omega) c4), (by omega), (rm_und b3 b4 b2)⟩, ⟨_, _, (lk_ne (show (Y + 2) ≠ (Y + 5) by omega) c5), (lk_ne (show (Y + 2) ≠ (Y + 6) by omega) c6), b5⟩, ⟨_, (lk_ne (show (Y + 2) ≠ (Y + 11) by omega) c11), b11⟩, ⟨_, (lk_ne (show (Y + 2) ≠ (Y + 17) by omega) c17), b17⟩⟩, ⟨_, _, _, _, _, _, _, _, _, _, _, (lk_ne (show (Y + 2) ≠ (Y + 7) by omega) c7), (lk_ne (show (Y + 2) ≠ (Y + 8) by omega) c8), (lk_ne (show (Y + 2) ≠ (Y + 9) by omega) c9), (lk_ne (show (Y + 2) ≠ (Y + 10) by omega) c10), (lk_ne (show (Y + 2) ≠ (Y + 12) by omega) c12), (lk_ne (show (Y + 2) ≠ (Y + 13) by omega) c13), (lk_ne (show (Y + 2) ≠ (Y + 14) by omega) c14), (lk_ne (show (Y + 2) ≠ (Y + 18) by omega) c18), (lk_ne (show (Y + 2) ≠ (Y + 19) by omega) c19), (lk_ne (show (Y + 2) ≠ (Y + 20) by omega) c20), (lk_ne (show (Y + 2) ≠ (Y + 21) by omega) c21)⟩, ⟨_, _, (lk_ne (show (Y + 2) ≠ (Y + 15) by omega) c15), (lk_ne (show (Y + 2) ≠ (Y + 16) by omega) c16), b15⟩⟩
      have hF3 : FR (modS Y) w2 w3 := by rw [ew3]; exact (FR.st (c' := aI 0 626 (rwF g2 h k (dgN c) 13)) FR.rf c2 rfl (by unfold modS; omega))
      have hY3 : w3[Y]? = some (oM Y th st (nI (min (pn + 1) 8)) (dgN c) dd ld be ib (nI tl) fa re ig) := by rw [ew3]; exact (lk_ne (show (Y + 2) ≠ Y by omega) c0)
      refine g_aload_n (pc := 70) 0 dX12_put_70 rfl rfl ?_
      refine g_aload_n (pc := 71) 0 dX12_put_71 rfl rfl ?_
      refine g_get (pc := 72) dX12_put_72 fk_X12_113 hY3 rfl ?_
      refine g_callV (pc := 75) [.int (dgN c)] dX12_put_75 cv_X12_100.1 cv_X12_100.2.1 cv_X12_100.2.2.1 cv_X12_100.2.2.2 hY3 rfl rfl (Nat.le_of_ble_eq_true rfl) (by decide) (by decide) (mq_tell _ (v := dgN c) hM3) ?_
      rintro _ w4 ⟨rfl, hM4, hF4⟩
      exact g_iret (pc := 78) dX12_put_78 ⟨c, ht, Or.inr ⟨hi2, by obtain ⟨c9, rfl⟩ : ∃ c9, c = c9 + 1 := ⟨c - 1, by have := hi2.1; omega⟩; rfl, hM4, hF2.tr (hF3.tr hF4)⟩⟩
    · exact absurd h1 (by decide)
  · refine GP.weq _ e9 ?_
    refine n_if_ne (pc := 8) 18 dX12_put_8 (by decide) (by omega) (fun h1 => ?_) (fun h1 => ?_)
    · exact absurd rfl h1
    · refine g_aload_n (pc := 11) 0 dX12_put_11 rfl rfl ?_
      refine g_bipush (pc := 12) (v := -5) dX12_put_12 (by decide) ?_
      obtain ⟨w2, ew2⟩ : ∃ wy : Wd, wy = (w.set Y (.inr (11, .int th :: .int st :: .ref (Y + 1) :: .ref (Y + 2) :: .ref (Y + 3) :: .ref (Y + 4) :: .int (nI pn) :: .ref (Y + 5) :: .ref (Y + 6) :: .ref (Y + 7) :: .int (dgN c) :: .ref (Y + 8) :: .int dd :: .ref (Y + 9) :: .ref (Y + 10) :: .ref (Y + 11) :: .ref (Y + 12) :: .int ld :: .int be :: .int ib :: .ref (Y + 13) :: .ref (Y + 14) :: .ref (Y + 15) :: .ref (Y + 16) :: .ref (Y + 17) :: .int (nI tl) :: .int fa :: .int re :: .int ig :: .ref (Y + 18) :: .ref (Y + 19) :: .ref (Y + 20) :: .ref (Y + 21) :: []))) := ⟨_, rfl⟩
      refine GP.weq w2 ew2.symm ?_
      have hM2 : mdC w2 Y tl tb fa st rf sh pn pk ps im := by rw [ew2]; exact ⟨⟨_, _, _, _, _, _, _, _, (lk_eq hY)⟩, ⟨⟨_, (lk_ne (show Y ≠ (Y + 1) by omega) a1), b1⟩, ⟨_, (lk_ne (show Y ≠ (Y + 2) by omega) a2), b2⟩, ⟨_, _, (lk_ne (show Y ≠ (Y + 3) by omega) a3), (lk_ne (show Y ≠ (Y + 4) by omega) a4), b3, b4⟩, ⟨_, _, (lk_ne (show Y ≠ (Y + 5) by omega) a5), (lk_ne (show Y ≠ (Y + 6) by omega) a6), b5⟩, ⟨_, (lk_ne (show Y ≠ (Y + 11) by omega) a11), b11⟩, ⟨_, (lk_ne (show Y ≠ (Y + 17) by omega) a17), b17⟩⟩, ⟨_, _, _, _, _, _, _, _, _, _, _, (lk_ne (show Y ≠ (Y + 7) by omega) h7), (lk_ne (show Y ≠ (Y + 8) by omega) a8), (lk_ne (show Y ≠ (Y + 9) by omega) a9), (lk_ne (show Y ≠ (Y + 10) by omega) a10), (lk_ne (show Y ≠ (Y + 12) by omega) a12), (lk_ne (show Y ≠ (Y + 13) by omega) a13), (lk_ne (show Y ≠ (Y + 14) by omega) a14), (lk_ne (show Y ≠ (Y + 18) by omega) a18), (lk_ne (show Y ≠ (Y + 19) by omega) a19), (lk_ne (show Y ≠ (Y + 20) by omega) a20), (lk_ne (show Y ≠ (Y + 21) by omega) a21)⟩, ⟨_, _, (lk_ne (show Y ≠ (Y + 15) by omega) a15), (lk_ne (show Y ≠ (Y + 16) by omega) a16), b15⟩⟩
      have hF2 : FR (modS Y) w w2 := by rw [ew2]; exact (FR.st (c' := .inr (11, .int th :: .int st :: .ref (Y + 1) :: .ref (Y + 2) :: .ref (Y + 3) :: .ref (Y + 4) :: .int (nI pn) :: .ref (Y + 5) :: .ref (Y + 6) :: .ref (Y + 7) :: .int (dgN c) :: .ref (Y + 8) :: .int dd :: .ref (Y + 9) :: .ref (Y + 10) :: .ref (Y + 11) :: .ref (Y + 12) :: .int ld :: .int be :: .int ib :: .ref (Y + 13) :: .ref (Y + 14) :: .ref (Y + 15) :: .ref (Y + 16) :: .ref (Y + 17) :: .int (nI tl) :: .int fa :: .int re :: .int ig :: .ref (Y + 18) :: .ref (Y + 19) :: .ref (Y + 20) :: .ref (Y + 21) :: [])) FR.rf hY rfl (by unfold modS; omega))
      refine g_callV (pc := 14) [.int (-5)] dX12_put_14 cv_X12_96.1 cv_X12_96.2.1 cv_X12_96.2.2.1 cv_X12_96.2.2.2 (by rw [ew2]; exact lk_eq hY) rfl rfl (Nat.le_of_ble_eq_true rfl) (by decide) (by decide) (mq_refuse5 _ hM2) ?_
      rintro _ w3 ⟨rfl, hR⟩
      exact g_iret (pc := 17) dX12_put_17 ⟨c, ht, Or.inl ⟨fun g => hi ((fit_60 hF).mpr g), rfl, hR.1, hF2.tr hR.2⟩⟩
