/-! the reference: feed, undo, image, back, coefficient, found, count -/
theorem tp_ext {f tb : Nat → Int32} {tl : Nat} (h : tpR f tb tl) : tEq (f, tl) (tb, tl) := ⟨rfl, fun i hi => (h.2 i hi).1⟩
def sbO (s : (Nat → Int32) × Nat) : Prop := ∀ i, i < s.2 → sb (s.1 i) = s.1 i
theorem sbO_B {s : (Nat → Int32) × Nat} (h : sbO s) (x : Int32) : sbO (wB s x) := fun i hi => by
  show sb (upd s.1 s.2 (sb x) i) = upd s.1 s.2 (sb x) i
  by_cases e : i = s.2
  · rw [e, upd_s]; exact sb_sb x
  · rw [upd_n e]
    have hi2 : i < s.2 + 1 := hi
    exact h i (by omega)
theorem sbO_W {s : (Nat → Int32) × Nat} (h : sbO s) (x : Int32) : sbO (wW s x) := sbO_B (sbO_B (sbO_B (sbO_B h _) _) _) _
theorem sbO_5 {s : (Nat → Int32) × Nat} (h : sbO s) (a b c d e : Int32) : sbO (feed5 s a b c d e) := sbO_W (sbO_W (sbO_W (sbO_W (sbO_W h _) _) _) _) _
theorem sbO_D {s : (Nat → Int32) × Nat} (h : sbO s) (x u : Nat) : sbO (wD s x u) := by
  unfold wD
  split
  · exact sbO_B h _
  · exact h
theorem sbO_N {s : (Nat → Int32) × Nat} (h : sbO s) (x : Nat) : sbO (wN s x) := sbO_D (sbO_D (sbO_D (sbO_D h _ _) _ _) _ _) _ _
theorem sbO_T {s : (Nat → Int32) × Nat} (h : sbO s) (v : Int) (p : Nat) : sbO (wT s v p) := by
  have h0 : sbO (wT0 s v) := by
    unfold wT0
    split
    · exact sbO_B h _
    · split
      · exact sbO_B h _
      · exact h
  have h1 : sbO (wT1 (wT0 s v) v.natAbs p) := by
    unfold wT1
    split
    · exact sbO_N h0 _
    · exact h0
  have h2 : sbO (wT2 (wT1 (wT0 s v) v.natAbs p) p) := by
    unfold wT2
    split
    · exact sbO_B h1 _
    · exact h1
  unfold wT wT3
  split
  · exact sbO_N (sbO_B h2 _) _
  · exact h2
theorem sbO_A {F : Nat → Int} {s : (Nat → Int32) × Nat} (h : sbO s) {n : Nat} : ∀ m, sbO (wAll F s n m)
  | 0 => h
  | m + 1 => by
    have ih := sbO_A (F := F) h (n := n) m
    show sbO (if F (n - m) = 0 then wAll F s n m else wT (wAll F s n m) (F (n - m)) (n - m))
    split
    · exact ih
    · exact sbO_T ih _ _
theorem tp_sb {f tb : Nat → Int32} {tl : Nat} (h : tpR f tb tl) : sbO (f, tl) := fun i hi => (h.2 i hi).2
theorem row_cp {f g : Nat → Int32} {a : Nat} {V : SV} (h : rowR (fun k => f (a + k)) V) : rowR (cpF f g a 0 626) V := row_cg h (fun k hk => by unfold cpF; rw [if_pos (by omega), show k - 0 = k by omega])
theorem row_dg {g : Nat → Int32} {V : SV} (h : rowR g V) : ∀ i, i < 8 → g (14 * i) = nI (V.1 i).1 := fun i hi => (h.1 i hi).2.1
abbrev BX12_feed (w0 : Wd) (Post : Option Value → Wd → Prop) (w : Wd) (pc : Nat) (ls : List (Nat × Value)) (st : List Value) : Prop := GP "feed" RX12 cX12_feed 6 (some .int) 1 39 none w0 Post w pc ls st
abbrev EX12_feed (As : List Value) (w : Wd) (Post : Option Value → Wd → Prop) : Prop := EP yX12_feed cX12_feed 6 (some .int) 1 As w Post
theorem mq_feed (w : Wd) {Y tl : Nat} {tb : Nat → Int32} {fa st : Int32} {rf : Nat → Nat} {sh : SV} {pn : Nat} {pk : Nat → Nat} {ps : Nat → SV} {im : Nat → Option SV} (hM : mdC w Y tl tb fa st rf sh pn pk ps im) {xa xb xc xd xe : Int32} : EX12_feed [.ref Y, .int xa, .int xb, .int xc, .int xd, .int xe] w (fun r w' => (tl + 20 ≤ 400 ∧ r = some (.int (nI (tl + 20))) ∧ mdC w' Y (tl + 20) ((feed5 (tb, tl) xa xb xc xd xe).1) fa st rf sh pn pk ps im ∧ FR (modS Y) w w') ∨ (¬ (tl + 20 ≤ 400) ∧ r = some (.int (-1)) ∧ mdC w' Y tl tb fa st rf sh pn pk ps im ∧ FR (modS Y) w w')) := by
  refine EP.of (plainFor_of_name (by decide)) [(0, .ref Y), (1, .int xa), (2, .int xb), (3, .int xc), (4, .int xd), (5, .int xe)] rfl (Nat.le_of_ble_eq_true rfl) (fun r wf h => by rcases h with ⟨-, rfl, -⟩ | ⟨-, rfl, -⟩ <;> trivial) ?_
  show BX12_feed w _ w 0 [(0, .ref Y), (1, .int xa), (2, .int xb), (3, .int xc), (4, .int xd), (5, .int xe)] []
  obtain ⟨⟨th, dg, dd, ld, be, ib, re, ig, hY⟩, ⟨⟨g1, a1, b1⟩, ⟨g2, a2, b2⟩, ⟨g3, g4, a3, a4, b3, b4⟩, ⟨g5, g6, a5, a6, b5⟩, ⟨g11, a11, b11⟩, ⟨g17, a17, b17⟩⟩, ⟨g7, g8, g9, g10, g12, g13, g14, g18, g19, g20, g21, a7, a8, a9, a10, a12, a13, a14, a18, a19, a20, a21⟩, ⟨g15, g16, a15, a16, b15⟩⟩ := id hM
  refine g_aload_n (pc := 0) 0 dX12_feed_0 rfl rfl ?_
  refine g_iconst (pc := 1) (v := nI 0) dX12_feed_1 (by decide) ?_
  refine g_put (pc := 2) (.int (nI 0) :: .int st :: .ref (Y + 1) :: .ref (Y + 2) :: .ref (Y + 3) :: .ref (Y + 4) :: .int (nI pn) :: .ref (Y + 5) :: .ref (Y + 6) :: .ref (Y + 7) :: .int dg :: .ref (Y + 8) :: .int dd :: .ref (Y + 9) :: .ref (Y + 10) :: .ref (Y + 11) :: .ref (Y + 12) :: .int ld :: .int be :: .int ib :: .ref (Y + 13) :: .ref (Y + 14) :: .ref (Y + 15) :: .ref (Y + 16) :: .ref (Y + 17) :: .int (nI tl) :: .int fa :: .int re :: .int ig :: .ref (Y + 18) :: .ref (Y + 19) :: .ref (Y + 20) :: .ref (Y + 21) :: []) dX12_feed_2 fk_X12_83 hY (Nat.le_of_ble_eq_true rfl) rfl rfl ?_
  refine g_aload_n (pc := 5) 0 dX12_feed_5 rfl rfl ?_
  refine g_get (pc := 6) dX12_feed_6 fk_X12_249 (lk_eq hY) rfl ?_
  refine g_sipush (pc := 9) (v := nI 380) dX12_feed_9 (by decide) ?_
  have htl := b17.1
  refine n_icmp_le (pc := 12) 17 dX12_feed_12 (by decide) (by omega) (by omega) (fun hc => ?_) (fun hc => ?_)
  · refine g_aload_n (pc := 17) 0 dX12_feed_17 rfl rfl ?_
    refine g_iload_n (pc := 18) 1 dX12_feed_18 rfl rfl ?_
    refine g_callV (pc := 19) [.int xa] dX12_feed_19 cv_X12_252.1 cv_X12_252.2.1 cv_X12_252.2.2.1 cv_X12_252.2.2.2 (lk_eq hY) rfl rfl (Nat.le_of_ble_eq_true rfl) (by decide) (by decide) (mp_comes _ (s := (g17, tl)) (x := xa) (lk_eq hY) (lk_ne (show Y ≠ (Y + 17) by omega) a17) (by show tl + 0 + 4 ≤ 400; omega)) ?_
    rintro _ w9 ⟨rfl, e9⟩
    refine GP.weq _ e9 ?_
    refine GP.weq (((w.set Y (.inr (11, .int (nI 0) :: .int st :: .ref (Y + 1) :: .ref (Y + 2) :: .ref (Y + 3) :: .ref (Y + 4) :: .int (nI pn) :: .ref (Y + 5) :: .ref (Y + 6) :: .ref (Y + 7) :: .int dg :: .ref (Y + 8) :: .int dd :: .ref (Y + 9) :: .ref (Y + 10) :: .ref (Y + 11) :: .ref (Y + 12) :: .int ld :: .int be :: .int ib :: .ref (Y + 13) :: .ref (Y + 14) :: .ref (Y + 15) :: .ref (Y + 16) :: .ref (Y + 17) :: .int (nI ((wW (g17, tl) xa).2)) :: .int fa :: .int re :: .int ig :: .ref (Y + 18) :: .ref (Y + 19) :: .ref (Y + 20) :: .ref (Y + 21) :: []))).set (Y + 17) (aI 2 400 ((wW (g17, tl) xa).1)))) (by rw [List.set_comm _ _ (show (Y + 17) ≠ Y by omega), List.set_set]) ?_
    refine g_aload_n (pc := 22) 0 dX12_feed_22 rfl rfl ?_
    refine g_iload_n (pc := 23) 2 dX12_feed_23 rfl rfl ?_
    refine g_callV (pc := 24) [.int xb] dX12_feed_24 cv_X12_252.1 cv_X12_252.2.1 cv_X12_252.2.2.1 cv_X12_252.2.2.2 (lk_ne (show (Y + 17) ≠ Y by omega) (lk_eq hY)) rfl rfl (Nat.le_of_ble_eq_true rfl) (by decide) (by decide) (mp_comes _ (s := (wW (g17, tl) xa)) (x := xb) (lk_ne (show (Y + 17) ≠ Y by omega) (lk_eq hY)) (lk_eq (lk_ne (show Y ≠ (Y + 17) by omega) a17)) (by show tl + 4 + 4 ≤ 400; omega)) ?_
    rintro _ w9 ⟨rfl, e9⟩
    refine GP.weq _ e9 ?_
    refine GP.weq (((w.set Y (.inr (11, .int (nI 0) :: .int st :: .ref (Y + 1) :: .ref (Y + 2) :: .ref (Y + 3) :: .ref (Y + 4) :: .int (nI pn) :: .ref (Y + 5) :: .ref (Y + 6) :: .ref (Y + 7) :: .int dg :: .ref (Y + 8) :: .int dd :: .ref (Y + 9) :: .ref (Y + 10) :: .ref (Y + 11) :: .ref (Y + 12) :: .int ld :: .int be :: .int ib :: .ref (Y + 13) :: .ref (Y + 14) :: .ref (Y + 15) :: .ref (Y + 16) :: .ref (Y + 17) :: .int (nI ((wW (g17, tl) xa).2)) :: .int fa :: .int re :: .int ig :: .ref (Y + 18) :: .ref (Y + 19) :: .ref (Y + 20) :: .ref (Y + 21) :: []))).set (Y + 17) (aI 2 400 ((wW (wW (g17, tl) xa) xb).1))).set Y (.inr (11, .int (nI 0) :: .int st :: .ref (Y + 1) :: .ref (Y + 2) :: .ref (Y + 3) :: .ref (Y + 4) :: .int (nI pn) :: .ref (Y + 5) :: .ref (Y + 6) :: .ref (Y + 7) :: .int dg :: .ref (Y + 8) :: .int dd :: .ref (Y + 9) :: .ref (Y + 10) :: .ref (Y + 11) :: .ref (Y + 12) :: .int ld :: .int be :: .int ib :: .ref (Y + 13) :: .ref (Y + 14) :: .ref (Y + 15) :: .ref (Y + 16) :: .ref (Y + 17) :: .int (nI ((wW (wW (g17, tl) xa) xb).2)) :: .int fa :: .int re :: .int ig :: .ref (Y + 18) :: .ref (Y + 19) :: .ref (Y + 20) :: .ref (Y + 21) :: []))) (by rw [List.set_set]) ?_
    refine GP.weq (((w.set Y (.inr (11, .int (nI 0) :: .int st :: .ref (Y + 1) :: .ref (Y + 2) :: .ref (Y + 3) :: .ref (Y + 4) :: .int (nI pn) :: .ref (Y + 5) :: .ref (Y + 6) :: .ref (Y + 7) :: .int dg :: .ref (Y + 8) :: .int dd :: .ref (Y + 9) :: .ref (Y + 10) :: .ref (Y + 11) :: .ref (Y + 12) :: .int ld :: .int be :: .int ib :: .ref (Y + 13) :: .ref (Y + 14) :: .ref (Y + 15) :: .ref (Y + 16) :: .ref (Y + 17) :: .int (nI ((wW (wW (g17, tl) xa) xb).2)) :: .int fa :: .int re :: .int ig :: .ref (Y + 18) :: .ref (Y + 19) :: .ref (Y + 20) :: .ref (Y + 21) :: []))).set (Y + 17) (aI 2 400 ((wW (wW (g17, tl) xa) xb).1)))) (by rw [List.set_comm _ _ (show (Y + 17) ≠ Y by omega), List.set_set]) ?_
    refine g_aload_n (pc := 27) 0 dX12_feed_27 rfl rfl ?_
    refine g_iload_n (pc := 28) 3 dX12_feed_28 rfl rfl ?_
    refine g_callV (pc := 29) [.int xc] dX12_feed_29 cv_X12_252.1 cv_X12_252.2.1 cv_X12_252.2.2.1 cv_X12_252.2.2.2 (lk_ne (show (Y + 17) ≠ Y by omega) (lk_eq hY)) rfl rfl (Nat.le_of_ble_eq_true rfl) (by decide) (by decide) (mp_comes _ (s := (wW (wW (g17, tl) xa) xb)) (x := xc) (lk_ne (show (Y + 17) ≠ Y by omega) (lk_eq hY)) (lk_eq (lk_ne (show Y ≠ (Y + 17) by omega) a17)) (by show tl + 8 + 4 ≤ 400; omega)) ?_
    rintro _ w9 ⟨rfl, e9⟩
    refine GP.weq _ e9 ?_
    refine GP.weq (((w.set Y (.inr (11, .int (nI 0) :: .int st :: .ref (Y + 1) :: .ref (Y + 2) :: .ref (Y + 3) :: .ref (Y + 4) :: .int (nI pn) :: .ref (Y + 5) :: .ref (Y + 6) :: .ref (Y + 7) :: .int dg :: .ref (Y + 8) :: .int dd :: .ref (Y + 9) :: .ref (Y + 10) :: .ref (Y + 11) :: .ref (Y + 12) :: .int ld :: .int be :: .int ib :: .ref (Y + 13) :: .ref (Y + 14) :: .ref (Y + 15) :: .ref (Y + 16) :: .ref (Y + 17) :: .int (nI ((wW (wW (g17, tl) xa) xb).2)) :: .int fa :: .int re :: .int ig :: .ref (Y + 18) :: .ref (Y + 19) :: .ref (Y + 20) :: .ref (Y + 21) :: []))).set (Y + 17) (aI 2 400 ((wW (wW (wW (g17, tl) xa) xb) xc).1))).set Y (.inr (11, .int (nI 0) :: .int st :: .ref (Y + 1) :: .ref (Y + 2) :: .ref (Y + 3) :: .ref (Y + 4) :: .int (nI pn) :: .ref (Y + 5) :: .ref (Y + 6) :: .ref (Y + 7) :: .int dg :: .ref (Y + 8) :: .int dd :: .ref (Y + 9) :: .ref (Y + 10) :: .ref (Y + 11) :: .ref (Y + 12) :: .int ld :: .int be :: .int ib :: .ref (Y + 13) :: .ref (Y + 14) :: .ref (Y + 15) :: .ref (Y + 16) :: .ref (Y + 17) :: .int (nI ((wW (wW (wW (g17, tl) xa) xb) xc).2)) :: .int fa :: .int re :: .int ig :: .ref (Y + 18) :: .ref (Y + 19) :: .ref (Y + 20) :: .ref (Y + 21) :: []))) (by rw [List.set_set]) ?_
    refine GP.weq (((w.set Y (.inr (11, .int (nI 0) :: .int st :: .ref (Y + 1) :: .ref (Y + 2) :: .ref (Y + 3) :: .ref (Y + 4) :: .int (nI pn) :: .ref (Y + 5) :: .ref (Y + 6) :: .ref (Y + 7) :: .int dg :: .ref (Y + 8) :: .int dd :: .ref (Y + 9) :: .ref (Y + 10) :: .ref (Y + 11) :: .ref (Y + 12) :: .int ld :: .int be :: .int ib :: .ref (Y + 13) :: .ref (Y + 14) :: .ref (Y + 15) :: .ref (Y + 16) :: .ref (Y + 17) :: .int (nI ((wW (wW (wW (g17, tl) xa) xb) xc).2)) :: .int fa :: .int re :: .int ig :: .ref (Y + 18) :: .ref (Y + 19) :: .ref (Y + 20) :: .ref (Y + 21) :: []))).set (Y + 17) (aI 2 400 ((wW (wW (wW (g17, tl) xa) xb) xc).1)))) (by rw [List.set_comm _ _ (show (Y + 17) ≠ Y by omega), List.set_set]) ?_
    refine g_aload_n (pc := 32) 0 dX12_feed_32 rfl rfl ?_
    refine g_iload (pc := 33) 4 dX12_feed_33 rfl ?_
    refine g_callV (pc := 35) [.int xd] dX12_feed_35 cv_X12_252.1 cv_X12_252.2.1 cv_X12_252.2.2.1 cv_X12_252.2.2.2 (lk_ne (show (Y + 17) ≠ Y by omega) (lk_eq hY)) rfl rfl (Nat.le_of_ble_eq_true rfl) (by decide) (by decide) (mp_comes _ (s := (wW (wW (wW (g17, tl) xa) xb) xc)) (x := xd) (lk_ne (show (Y + 17) ≠ Y by omega) (lk_eq hY)) (lk_eq (lk_ne (show Y ≠ (Y + 17) by omega) a17)) (by show tl + 12 + 4 ≤ 400; omega)) ?_
    rintro _ w9 ⟨rfl, e9⟩
    refine GP.weq _ e9 ?_
    refine GP.weq (((w.set Y (.inr (11, .int (nI 0) :: .int st :: .ref (Y + 1) :: .ref (Y + 2) :: .ref (Y + 3) :: .ref (Y + 4) :: .int (nI pn) :: .ref (Y + 5) :: .ref (Y + 6) :: .ref (Y + 7) :: .int dg :: .ref (Y + 8) :: .int dd :: .ref (Y + 9) :: .ref (Y + 10) :: .ref (Y + 11) :: .ref (Y + 12) :: .int ld :: .int be :: .int ib :: .ref (Y + 13) :: .ref (Y + 14) :: .ref (Y + 15) :: .ref (Y + 16) :: .ref (Y + 17) :: .int (nI ((wW (wW (wW (g17, tl) xa) xb) xc).2)) :: .int fa :: .int re :: .int ig :: .ref (Y + 18) :: .ref (Y + 19) :: .ref (Y + 20) :: .ref (Y + 21) :: []))).set (Y + 17) (aI 2 400 ((wW (wW (wW (wW (g17, tl) xa) xb) xc) xd).1))).set Y (.inr (11, .int (nI 0) :: .int st :: .ref (Y + 1) :: .ref (Y + 2) :: .ref (Y + 3) :: .ref (Y + 4) :: .int (nI pn) :: .ref (Y + 5) :: .ref (Y + 6) :: .ref (Y + 7) :: .int dg :: .ref (Y + 8) :: .int dd :: .ref (Y + 9) :: .ref (Y + 10) :: .ref (Y + 11) :: .ref (Y + 12) :: .int ld :: .int be :: .int ib :: .ref (Y + 13) :: .ref (Y + 14) :: .ref (Y + 15) :: .ref (Y + 16) :: .ref (Y + 17) :: .int (nI ((wW (wW (wW (wW (g17, tl) xa) xb) xc) xd).2)) :: .int fa :: .int re :: .int ig :: .ref (Y + 18) :: .ref (Y + 19) :: .ref (Y + 20) :: .ref (Y + 21) :: []))) (by rw [List.set_set]) ?_
    refine GP.weq (((w.set Y (.inr (11, .int (nI 0) :: .int st :: .ref (Y + 1) :: .ref (Y + 2) :: .ref (Y + 3) :: .ref (Y + 4) :: .int (nI pn) :: .ref (Y + 5) :: .ref (Y + 6) :: .ref (Y + 7) :: .int dg :: .ref (Y + 8) :: .int dd :: .ref (Y + 9) :: .ref (Y + 10) :: .ref (Y + 11) :: .ref (Y + 12) :: .int ld :: .int be :: .int ib :: .ref (Y + 13) :: .ref (Y + 14) :: .ref (Y + 15) :: .ref (Y + 16) :: .ref (Y + 17) :: .int (nI ((wW (wW (wW (wW (g17, tl) xa) xb) xc) xd).2)) :: .int fa :: .int re :: .int ig :: .ref (Y + 18) :: .ref (Y + 19) :: .ref (Y + 20) :: .ref (Y + 21) :: []))).set (Y + 17) (aI 2 400 ((wW (wW (wW (wW (g17, tl) xa) xb) xc) xd).1)))) (by rw [List.set_comm _ _ (show (Y + 17) ≠ Y by omega), List.set_set]) ?_
    refine g_aload_n (pc := 38) 0 dX12_feed_38 rfl rfl ?_
    refine g_iload (pc := 39) 5 dX12_feed_39 rfl ?_
    refine g_callV (pc := 41) [.int xe] dX12_feed_41 cv_X12_252.1 cv_X12_252.2.1 cv_X12_252.2.2.1 cv_X12_252.2.2.2 (lk_ne (show (Y + 17) ≠ Y by omega) (lk_eq hY)) rfl rfl (Nat.le_of_ble_eq_true rfl) (by decide) (by decide) (mp_comes _ (s := (wW (wW (wW (wW (g17, tl) xa) xb) xc) xd)) (x := xe) (lk_ne (show (Y + 17) ≠ Y by omega) (lk_eq hY)) (lk_eq (lk_ne (show Y ≠ (Y + 17) by omega) a17)) (by show tl + 16 + 4 ≤ 400; omega)) ?_
    rintro _ w9 ⟨rfl, e9⟩
    refine GP.weq _ e9 ?_
    refine GP.weq (((w.set Y (.inr (11, .int (nI 0) :: .int st :: .ref (Y + 1) :: .ref (Y + 2) :: .ref (Y + 3) :: .ref (Y + 4) :: .int (nI pn) :: .ref (Y + 5) :: .ref (Y + 6) :: .ref (Y + 7) :: .int dg :: .ref (Y + 8) :: .int dd :: .ref (Y + 9) :: .ref (Y + 10) :: .ref (Y + 11) :: .ref (Y + 12) :: .int ld :: .int be :: .int ib :: .ref (Y + 13) :: .ref (Y + 14) :: .ref (Y + 15) :: .ref (Y + 16) :: .ref (Y + 17) :: .int (nI ((wW (wW (wW (wW (g17, tl) xa) xb) xc) xd).2)) :: .int fa :: .int re :: .int ig :: .ref (Y + 18) :: .ref (Y + 19) :: .ref (Y + 20) :: .ref (Y + 21) :: []))).set (Y + 17) (aI 2 400 ((wW (wW (wW (wW (wW (g17, tl) xa) xb) xc) xd) xe).1))).set Y (.inr (11, .int (nI 0) :: .int st :: .ref (Y + 1) :: .ref (Y + 2) :: .ref (Y + 3) :: .ref (Y + 4) :: .int (nI pn) :: .ref (Y + 5) :: .ref (Y + 6) :: .ref (Y + 7) :: .int dg :: .ref (Y + 8) :: .int dd :: .ref (Y + 9) :: .ref (Y + 10) :: .ref (Y + 11) :: .ref (Y + 12) :: .int ld :: .int be :: .int ib :: .ref (Y + 13) :: .ref (Y + 14) :: .ref (Y + 15) :: .ref (Y + 16) :: .ref (Y + 17) :: .int (nI ((wW (wW (wW (wW (wW (g17, tl) xa) xb) xc) xd) xe).2)) :: .int fa :: .int re :: .int ig :: .ref (Y + 18) :: .ref (Y + 19) :: .ref (Y + 20) :: .ref (Y + 21) :: []))) (by rw [List.set_set]) ?_
    refine GP.weq (((w.set Y (.inr (11, .int (nI 0) :: .int st :: .ref (Y + 1) :: .ref (Y + 2) :: .ref (Y + 3) :: .ref (Y + 4) :: .int (nI pn) :: .ref (Y + 5) :: .ref (Y + 6) :: .ref (Y + 7) :: .int dg :: .ref (Y + 8) :: .int dd :: .ref (Y + 9) :: .ref (Y + 10) :: .ref (Y + 11) :: .ref (Y + 12) :: .int ld :: .int be :: .int ib :: .ref (Y + 13) :: .ref (Y + 14) :: .ref (Y + 15) :: .ref (Y + 16) :: .ref (Y + 17) :: .int (nI ((wW (wW (wW (wW (wW (g17, tl) xa) xb) xc) xd) xe).2)) :: .int fa :: .int re :: .int ig :: .ref (Y + 18) :: .ref (Y + 19) :: .ref (Y + 20) :: .ref (Y + 21) :: []))).set (Y + 17) (aI 2 400 ((wW (wW (wW (wW (wW (g17, tl) xa) xb) xc) xd) xe).1)))) (by rw [List.set_comm _ _ (show (Y + 17) ≠ Y by omega), List.set_set]) ?_
    refine g_aload_n (pc := 44) 0 dX12_feed_44 rfl rfl ?_
    refine g_get (pc := 45) dX12_feed_45 fk_X12_249 (lk_ne (show (Y + 17) ≠ Y by omega) (lk_eq hY)) rfl ?_
    have hE := feed5_eq (tp_ext b17) xa xb xc xd xe
    have hL : (wW (wW (wW (wW (wW (g17, tl) xa) xb) xc) xd) xe).2 = tl + 20 := rfl
    exact g_iret (pc := 48) dX12_feed_48 (Or.inl ⟨by omega, rfl, ⟨⟨_, _, _, _, _, _, _, _, (lk_ne (show (Y + 17) ≠ Y by omega) (lk_eq hY))⟩, ⟨⟨_, (lk_ne (show (Y + 17) ≠ (Y + 1) by omega) (lk_ne (show Y ≠ (Y + 1) by omega) a1)), b1⟩, ⟨_, (lk_ne (show (Y + 17) ≠ (Y + 2) by omega) (lk_ne (show Y ≠ (Y + 2) by omega) a2)), b2⟩, ⟨_, _, (lk_ne (show (Y + 17) ≠ (Y + 3) by omega) (lk_ne (show Y ≠ (Y + 3) by omega) a3)), (lk_ne (show (Y + 17) ≠ (Y + 4) by omega) (lk_ne (show Y ≠ (Y + 4) by omega) a4)), b3, b4⟩, ⟨_, _, (lk_ne (show (Y + 17) ≠ (Y + 5) by omega) (lk_ne (show Y ≠ (Y + 5) by omega) a5)), (lk_ne (show (Y + 17) ≠ (Y + 6) by omega) (lk_ne (show Y ≠ (Y + 6) by omega) a6)), b5⟩, ⟨_, (lk_ne (show (Y + 17) ≠ (Y + 11) by omega) (lk_ne (show Y ≠ (Y + 11) by omega) a11)), b11⟩, ⟨_, (lk_eq (lk_ne (show Y ≠ (Y + 17) by omega) a17)), ⟨by omega, fun i hi => ⟨hE.2 i hi, sbO_5 (tp_sb b17) xa xb xc xd xe i hi⟩⟩⟩⟩, ⟨_, _, _, _, _, _, _, _, _, _, _, (lk_ne (show (Y + 17) ≠ (Y + 7) by omega) (lk_ne (show Y ≠ (Y + 7) by omega) a7)), (lk_ne (show (Y + 17) ≠ (Y + 8) by omega) (lk_ne (show Y ≠ (Y + 8) by omega) a8)), (lk_ne (show (Y + 17) ≠ (Y + 9) by omega) (lk_ne (show Y ≠ (Y + 9) by omega) a9)), (lk_ne (show (Y + 17) ≠ (Y + 10) by omega) (lk_ne (show Y ≠ (Y + 10) by omega) a10)), (lk_ne (show (Y + 17) ≠ (Y + 12) by omega) (lk_ne (show Y ≠ (Y + 12) by omega) a12)), (lk_ne (show (Y + 17) ≠ (Y + 13) by omega) (lk_ne (show Y ≠ (Y + 13) by omega) a13)), (lk_ne (show (Y + 17) ≠ (Y + 14) by omega) (lk_ne (show Y ≠ (Y + 14) by omega) a14)), (lk_ne (show (Y + 17) ≠ (Y + 18) by omega) (lk_ne (show Y ≠ (Y + 18) by omega) a18)), (lk_ne (show (Y + 17) ≠ (Y + 19) by omega) (lk_ne (show Y ≠ (Y + 19) by omega) a19)), (lk_ne (show (Y + 17) ≠ (Y + 20) by omega) (lk_ne (show Y ≠ (Y + 20) by omega) a20)), (lk_ne (show (Y + 17) ≠ (Y + 21) by omega) (lk_ne (show Y ≠ (Y + 21) by omega) a21))⟩, ⟨_, _, (lk_ne (show (Y + 17) ≠ (Y + 15) by omega) (lk_ne (show Y ≠ (Y + 15) by omega) a15)), (lk_ne (show (Y + 17) ≠ (Y + 16) by omega) (lk_ne (show Y ≠ (Y + 16) by omega) a16)), b15⟩⟩, (FR.st (c' := aI 2 400 ((wW (wW (wW (wW (wW (g17, tl) xa) xb) xc) xd) xe).1)) (FR.st (c' := .inr (11, .int (nI 0) :: .int st :: .ref (Y + 1) :: .ref (Y + 2) :: .ref (Y + 3) :: .ref (Y + 4) :: .int (nI pn) :: .ref (Y + 5) :: .ref (Y + 6) :: .ref (Y + 7) :: .int dg :: .ref (Y + 8) :: .int dd :: .ref (Y + 9) :: .ref (Y + 10) :: .ref (Y + 11) :: .ref (Y + 12) :: .int ld :: .int be :: .int ib :: .ref (Y + 13) :: .ref (Y + 14) :: .ref (Y + 15) :: .ref (Y + 16) :: .ref (Y + 17) :: .int (nI ((wW (wW (wW (wW (wW (g17, tl) xa) xb) xc) xd) xe).2)) :: .int fa :: .int re :: .int ig :: .ref (Y + 18) :: .ref (Y + 19) :: .ref (Y + 20) :: .ref (Y + 21) :: [])) FR.rf hY rfl (by unfold modS; omega)) (lk_ne (show Y ≠ (Y + 17) by omega) a17) rfl (by unfold modS; omega))⟩)
  · refine g_iconst (pc := 15) (v := -1) dX12_feed_15 (by decide) ?_
    exact g_iret (pc := 16) dX12_feed_16 (Or.inr ⟨by omega, rfl, ⟨⟨_, _, _, _, _, _, _, _, (lk_eq hY)⟩, ⟨⟨_, (lk_ne (show Y ≠ (Y + 1) by omega) a1), b1⟩, ⟨_, (lk_ne (show Y ≠ (Y + 2) by omega) a2), b2⟩, ⟨_, _, (lk_ne (show Y ≠ (Y + 3) by omega) a3), (lk_ne (show Y ≠ (Y + 4) by omega) a4), b3, b4⟩, ⟨_, _, (lk_ne (show Y ≠ (Y + 5) by omega) a5), (lk_ne (show Y ≠ (Y + 6) by omega) a6), b5⟩, ⟨_, (lk_ne (show Y ≠ (Y + 11) by omega) a11), b11⟩, ⟨_, (lk_ne (show Y ≠ (Y + 17) by omega) a17), b17⟩⟩, ⟨_, _, _, _, _, _, _, _, _, _, _, (lk_ne (show Y ≠ (Y + 7) by omega) a7), (lk_ne (show Y ≠ (Y + 8) by omega) a8), (lk_ne (show Y ≠ (Y + 9) by omega) a9), (lk_ne (show Y ≠ (Y + 10) by omega) a10), (lk_ne (show Y ≠ (Y + 12) by omega) a12), (lk_ne (show Y ≠ (Y + 13) by omega) a13), (lk_ne (show Y ≠ (Y + 14) by omega) a14), (lk_ne (show Y ≠ (Y + 18) by omega) a18), (lk_ne (show Y ≠ (Y + 19) by omega) a19), (lk_ne (show Y ≠ (Y + 20) by omega) a20), (lk_ne (show Y ≠ (Y + 21) by omega) a21)⟩, ⟨_, _, (lk_ne (show Y ≠ (Y + 15) by omega) a15), (lk_ne (show Y ≠ (Y + 16) by omega) a16), b15⟩⟩, (FR.st (c' := .inr (11, .int (nI 0) :: .int st :: .ref (Y + 1) :: .ref (Y + 2) :: .ref (Y + 3) :: .ref (Y + 4) :: .int (nI pn) :: .ref (Y + 5) :: .ref (Y + 6) :: .ref (Y + 7) :: .int dg :: .ref (Y + 8) :: .int dd :: .ref (Y + 9) :: .ref (Y + 10) :: .ref (Y + 11) :: .ref (Y + 12) :: .int ld :: .int be :: .int ib :: .ref (Y + 13) :: .ref (Y + 14) :: .ref (Y + 15) :: .ref (Y + 16) :: .ref (Y + 17) :: .int (nI tl) :: .int fa :: .int re :: .int ig :: .ref (Y + 18) :: .ref (Y + 19) :: .ref (Y + 20) :: .ref (Y + 21) :: [])) FR.rf hY rfl (by unfold modS; omega))⟩)
abbrev BX12_undo (w0 : Wd) (Post : Option Value → Wd → Prop) (w : Wd) (pc : Nat) (ls : List (Nat × Value)) (st : List Value) : Prop := GP "undo" RX12 cX12_undo 1 (some .int) 1 39 none w0 Post w pc ls st
abbrev EX12_undo (As : List Value) (w : Wd) (Post : Option Value → Wd → Prop) : Prop := EP yX12_undo cX12_undo 1 (some .int) 1 As w Post
theorem mq_undo (w : Wd) {Y tl : Nat} {tb : Nat → Int32} {fa st : Int32} {rf : Nat → Nat} {sh : SV} {pn : Nat} {pk : Nat → Nat} {ps : Nat → SV} {im : Nat → Option SV} (hM : mdC w Y tl tb fa st rf sh pn pk ps im) : EX12_undo [.ref Y] w (fun r w' => (pn = 0 ∧ rfM (-4) 2 w Y tl tb fa rf sh pn pk ps im r w') ∨ (pn ≠ 0 ∧ r = some (.int (nI (pk (pn - 1)))) ∧ mdC w' Y tl tb fa (nI 0) rf (ps (pn - 1)) (pn - 1) pk ps im ∧ FR (modS Y) w w')) := by
  refine EP.of (plainFor_of_name (by decide)) [(0, .ref Y)] rfl (Nat.le_of_ble_eq_true rfl) (fun r wf h => by rcases h with ⟨-, rfl, -⟩ | ⟨-, rfl, -⟩ <;> trivial) ?_
  show BX12_undo w _ w 0 [(0, .ref Y)] []
  obtain ⟨⟨th, dg, dd, ld, be, ib, re, ig, hY⟩, ⟨⟨g1, a1, b1⟩, ⟨g2, a2, b2⟩, ⟨g3, g4, a3, a4, b3, b4⟩, ⟨g5, g6, a5, a6, b5⟩, ⟨g11, a11, b11⟩, ⟨g17, a17, b17⟩⟩, ⟨g7, g8, g9, g10, g12, g13, g14, g18, g19, g20, g21, a7, a8, a9, a10, a12, a13, a14, a18, a19, a20, a21⟩, ⟨g15, g16, a15, a16, b15⟩⟩ := id hM
  refine g_aload_n (pc := 0) 0 dX12_undo_0 rfl rfl ?_
  refine g_iconst (pc := 1) (v := nI 0) dX12_undo_1 (by decide) ?_
  refine g_put (pc := 2) (.int (nI 0) :: .int st :: .ref (Y + 1) :: .ref (Y + 2) :: .ref (Y + 3) :: .ref (Y + 4) :: .int (nI pn) :: .ref (Y + 5) :: .ref (Y + 6) :: .ref (Y + 7) :: .int dg :: .ref (Y + 8) :: .int dd :: .ref (Y + 9) :: .ref (Y + 10) :: .ref (Y + 11) :: .ref (Y + 12) :: .int ld :: .int be :: .int ib :: .ref (Y + 13) :: .ref (Y + 14) :: .ref (Y + 15) :: .ref (Y + 16) :: .ref (Y + 17) :: .int (nI tl) :: .int fa :: .int re :: .int ig :: .ref (Y + 18) :: .ref (Y + 19) :: .ref (Y + 20) :: .ref (Y + 21) :: []) dX12_undo_2 fk_X12_83 hY (Nat.le_of_ble_eq_true rfl) rfl rfl ?_
  refine g_aload_n (pc := 5) 0 dX12_undo_5 rfl rfl ?_
  refine g_get (pc := 6) dX12_undo_6 fk_X12_89 (lk_eq hY) rfl ?_
  refine n_if_ne (pc := 9) 19 dX12_undo_9 (by decide) (by omega) (fun hn => ?_) (fun hn => ?_)
  · refine g_aload_n (pc := 19) 0 dX12_undo_19 rfl rfl ?_
    refine g_dup (pc := 20) dX12_undo_20 rfl ?_
    refine g_get (pc := 21) dX12_undo_21 fk_X12_89 (lk_eq hY) rfl ?_
    refine g_iconst (pc := 24) (v := nI 1) dX12_undo_24 (by decide) ?_
    refine n_isub (pc := 25) dX12_undo_25 (by omega) ?_
    refine g_put (pc := 26) (.int (nI 0) :: .int st :: .ref (Y + 1) :: .ref (Y + 2) :: .ref (Y + 3) :: .ref (Y + 4) :: .int (nI (pn - 1)) :: .ref (Y + 5) :: .ref (Y + 6) :: .ref (Y + 7) :: .int dg :: .ref (Y + 8) :: .int dd :: .ref (Y + 9) :: .ref (Y + 10) :: .ref (Y + 11) :: .ref (Y + 12) :: .int ld :: .int be :: .int ib :: .ref (Y + 13) :: .ref (Y + 14) :: .ref (Y + 15) :: .ref (Y + 16) :: .ref (Y + 17) :: .int (nI tl) :: .int fa :: .int re :: .int ig :: .ref (Y + 18) :: .ref (Y + 19) :: .ref (Y + 20) :: .ref (Y + 21) :: []) dX12_undo_26 fk_X12_89 (lk_eq hY) (Nat.le_of_ble_eq_true rfl) rfl rfl ?_
    refine GP.weq (w.set Y (.inr (11, .int (nI 0) :: .int st :: .ref (Y + 1) :: .ref (Y + 2) :: .ref (Y + 3) :: .ref (Y + 4) :: .int (nI (pn - 1)) :: .ref (Y + 5) :: .ref (Y + 6) :: .ref (Y + 7) :: .int dg :: .ref (Y + 8) :: .int dd :: .ref (Y + 9) :: .ref (Y + 10) :: .ref (Y + 11) :: .ref (Y + 12) :: .int ld :: .int be :: .int ib :: .ref (Y + 13) :: .ref (Y + 14) :: .ref (Y + 15) :: .ref (Y + 16) :: .ref (Y + 17) :: .int (nI tl) :: .int fa :: .int re :: .int ig :: .ref (Y + 18) :: .ref (Y + 19) :: .ref (Y + 20) :: .ref (Y + 21) :: []))) (by rw [List.set_set]) ?_
    refine g_aload_n (pc := 29) 0 dX12_undo_29 rfl rfl ?_
    refine g_get (pc := 30) dX12_undo_30 fk_X12_16 (lk_eq hY) rfl ?_
    refine g_sipush (pc := 33) (v := nI 626) dX12_undo_33 (by decide) ?_
    refine g_aload_n (pc := 36) 0 dX12_undo_36 rfl rfl ?_
    refine g_get (pc := 37) dX12_undo_37 fk_X12_89 (lk_eq hY) rfl ?_
    refine n_imul (pc := 40) dX12_undo_40 ?_
    refine g_aload_n (pc := 41) 0 dX12_undo_41 rfl rfl ?_
    refine g_get (pc := 42) dX12_undo_42 fk_X12_13 (lk_eq hY) rfl ?_
    refine g_iconst (pc := 45) (v := nI 0) dX12_undo_45 (by decide) ?_
    refine g_callS (pc := 46) [.ref (Y + 3), .int (nI (626 * (pn - 1))), .ref (Y + 2), .int (nI 0)] dX12_undo_46 cs_X12_92.1 cs_X12_92.2 rfl rfl (Nat.le_of_ble_eq_true rfl) (by decide) (by decide) (mp_copy _ (p := Y + 3) (q := Y + 2) (a := 626 * (pn - 1)) (b := 0) (by omega) (lk_ne (show Y ≠ (Y + 3) by omega) a3) (lk_ne (show Y ≠ (Y + 2) by omega) a2) (by omega) (by omega) (by omega) (by omega)) ?_
    rintro _ w9 ⟨rfl, e9⟩
    refine GP.weq _ e9 ?_
    refine g_aload_n (pc := 49) 0 dX12_undo_49 rfl rfl ?_
    refine g_aload_n (pc := 50) 0 dX12_undo_50 rfl rfl ?_
    refine g_get (pc := 51) dX12_undo_51 fk_X12_19 (lk_ne (show (Y + 2) ≠ Y by omega) (lk_eq hY)) rfl ?_
    refine g_aload_n (pc := 54) 0 dX12_undo_54 rfl rfl ?_
    refine g_get (pc := 55) dX12_undo_55 fk_X12_89 (lk_ne (show (Y + 2) ≠ Y by omega) (lk_eq hY)) rfl ?_
    refine g_iald (pc := 58) (pn - 1) dX12_undo_58 (lk_ne (show (Y + 2) ≠ (Y + 4) by omega) (lk_ne (show Y ≠ (Y + 4) by omega) a4)) (IXn (by omega) (by omega)) ?_
    refine GP.ti (nI (pk (pn - 1))) (b4 (pn - 1) (by omega)).2 ?_
    obtain ⟨wt, ewt⟩ : ∃ wy : Wd, wy = ((w.set Y (.inr (11, .int (nI 0) :: .int st :: .ref (Y + 1) :: .ref (Y + 2) :: .ref (Y + 3) :: .ref (Y + 4) :: .int (nI (pn - 1)) :: .ref (Y + 5) :: .ref (Y + 6) :: .ref (Y + 7) :: .int dg :: .ref (Y + 8) :: .int dd :: .ref (Y + 9) :: .ref (Y + 10) :: .ref (Y + 11) :: .ref (Y + 12) :: .int ld :: .int be :: .int ib :: .ref (Y + 13) :: .ref (Y + 14) :: .ref (Y + 15) :: .ref (Y + 16) :: .ref (Y + 17) :: .int (nI tl) :: .int fa :: .int re :: .int ig :: .ref (Y + 18) :: .ref (Y + 19) :: .ref (Y + 20) :: .ref (Y + 21) :: []))).set (Y + 2) (aI 0 626 (cpF g3 g2 (626 * (pn - 1)) 0 626))) := ⟨_, rfl⟩
    refine GP.weq wt ewt.symm ?_
    have hMt : mdC wt Y tl tb fa st rf (ps (pn - 1)) (pn - 1) pk ps im := by rw [ewt]; exact ⟨⟨_, _, _, _, _, _, _, _, (lk_ne (show (Y + 2) ≠ Y by omega) (lk_eq hY))⟩, ⟨⟨_, (lk_ne (show (Y + 2) ≠ (Y + 1) by omega) (lk_ne (show Y ≠ (Y + 1) by omega) a1)), b1⟩, ⟨_, (lk_eq (lk_ne (show Y ≠ (Y + 2) by omega) a2)), (row_cp (b4 (pn - 1) (by omega)).1)⟩, ⟨_, _, (lk_ne (show (Y + 2) ≠ (Y + 3) by omega) (lk_ne (show Y ≠ (Y + 3) by omega) a3)), (lk_ne (show (Y + 2) ≠ (Y + 4) by omega) (lk_ne (show Y ≠ (Y + 4) by omega) a4)), (by omega), (fun i hi => b4 i (by omega))⟩, ⟨_, _, (lk_ne (show (Y + 2) ≠ (Y + 5) by omega) (lk_ne (show Y ≠ (Y + 5) by omega) a5)), (lk_ne (show (Y + 2) ≠ (Y + 6) by omega) (lk_ne (show Y ≠ (Y + 6) by omega) a6)), b5⟩, ⟨_, (lk_ne (show (Y + 2) ≠ (Y + 11) by omega) (lk_ne (show Y ≠ (Y + 11) by omega) a11)), b11⟩, ⟨_, (lk_ne (show (Y + 2) ≠ (Y + 17) by omega) (lk_ne (show Y ≠ (Y + 17) by omega) a17)), b17⟩⟩, ⟨_, _, _, _, _, _, _, _, _, _, _, (lk_ne (show (Y + 2) ≠ (Y + 7) by omega) (lk_ne (show Y ≠ (Y + 7) by omega) a7)), (lk_ne (show (Y + 2) ≠ (Y + 8) by omega) (lk_ne (show Y ≠ (Y + 8) by omega) a8)), (lk_ne (show (Y + 2) ≠ (Y + 9) by omega) (lk_ne (show Y ≠ (Y + 9) by omega) a9)), (lk_ne (show (Y + 2) ≠ (Y + 10) by omega) (lk_ne (show Y ≠ (Y + 10) by omega) a10)), (lk_ne (show (Y + 2) ≠ (Y + 12) by omega) (lk_ne (show Y ≠ (Y + 12) by omega) a12)), (lk_ne (show (Y + 2) ≠ (Y + 13) by omega) (lk_ne (show Y ≠ (Y + 13) by omega) a13)), (lk_ne (show (Y + 2) ≠ (Y + 14) by omega) (lk_ne (show Y ≠ (Y + 14) by omega) a14)), (lk_ne (show (Y + 2) ≠ (Y + 18) by omega) (lk_ne (show Y ≠ (Y + 18) by omega) a18)), (lk_ne (show (Y + 2) ≠ (Y + 19) by omega) (lk_ne (show Y ≠ (Y + 19) by omega) a19)), (lk_ne (show (Y + 2) ≠ (Y + 20) by omega) (lk_ne (show Y ≠ (Y + 20) by omega) a20)), (lk_ne (show (Y + 2) ≠ (Y + 21) by omega) (lk_ne (show Y ≠ (Y + 21) by omega) a21))⟩, ⟨_, _, (lk_ne (show (Y + 2) ≠ (Y + 15) by omega) (lk_ne (show Y ≠ (Y + 15) by omega) a15)), (lk_ne (show (Y + 2) ≠ (Y + 16) by omega) (lk_ne (show Y ≠ (Y + 16) by omega) a16)), b15⟩⟩
    have hFt : FR (modS Y) w wt := by rw [ewt]; exact (FR.st (c' := aI 0 626 (cpF g3 g2 (626 * (pn - 1)) 0 626)) (FR.st (c' := .inr (11, .int (nI 0) :: .int st :: .ref (Y + 1) :: .ref (Y + 2) :: .ref (Y + 3) :: .ref (Y + 4) :: .int (nI (pn - 1)) :: .ref (Y + 5) :: .ref (Y + 6) :: .ref (Y + 7) :: .int dg :: .ref (Y + 8) :: .int dd :: .ref (Y + 9) :: .ref (Y + 10) :: .ref (Y + 11) :: .ref (Y + 12) :: .int ld :: .int be :: .int ib :: .ref (Y + 13) :: .ref (Y + 14) :: .ref (Y + 15) :: .ref (Y + 16) :: .ref (Y + 17) :: .int (nI tl) :: .int fa :: .int re :: .int ig :: .ref (Y + 18) :: .ref (Y + 19) :: .ref (Y + 20) :: .ref (Y + 21) :: [])) FR.rf hY rfl (by unfold modS; omega)) (lk_ne (show Y ≠ (Y + 2) by omega) a2) rfl (by unfold modS; omega))
    refine g_callV (pc := 59) [.int (nI (pk (pn - 1)))] dX12_undo_59 cv_X12_100.1 cv_X12_100.2.1 cv_X12_100.2.2.1 cv_X12_100.2.2.2 (by rw [ewt]; exact (lk_ne (show (Y + 2) ≠ Y by omega) (lk_eq hY))) rfl rfl (Nat.le_of_ble_eq_true rfl) (by decide) (by decide) (mq_tell _ (v := nI (pk (pn - 1))) hMt) ?_
    rintro _ wu ⟨rfl, hMu, hFu⟩
    exact g_iret (pc := 62) dX12_undo_62 (Or.inr ⟨hn, rfl, hMu, (hFt.tr hFu)⟩)
  · have hn9 : pn = 0 := by omega
    refine g_aload_n (pc := 12) 0 dX12_undo_12 rfl rfl ?_
    refine g_bipush (pc := 13) (v := -4) dX12_undo_13 (by decide) ?_
    obtain ⟨wr, ewr⟩ : ∃ wy : Wd, wy = (w.set Y (.inr (11, .int (nI 0) :: .int st :: .ref (Y + 1) :: .ref (Y + 2) :: .ref (Y + 3) :: .ref (Y + 4) :: .int (nI pn) :: .ref (Y + 5) :: .ref (Y + 6) :: .ref (Y + 7) :: .int dg :: .ref (Y + 8) :: .int dd :: .ref (Y + 9) :: .ref (Y + 10) :: .ref (Y + 11) :: .ref (Y + 12) :: .int ld :: .int be :: .int ib :: .ref (Y + 13) :: .ref (Y + 14) :: .ref (Y + 15) :: .ref (Y + 16) :: .ref (Y + 17) :: .int (nI tl) :: .int fa :: .int re :: .int ig :: .ref (Y + 18) :: .ref (Y + 19) :: .ref (Y + 20) :: .ref (Y + 21) :: []))) := ⟨_, rfl⟩
    refine GP.weq wr ewr.symm ?_
    have hMr : mdC wr Y tl tb fa st rf sh pn pk ps im := by rw [ewr]; exact ⟨⟨_, _, _, _, _, _, _, _, (lk_eq hY)⟩, ⟨⟨_, (lk_ne (show Y ≠ (Y + 1) by omega) a1), b1⟩, ⟨_, (lk_ne (show Y ≠ (Y + 2) by omega) a2), b2⟩, ⟨_, _, (lk_ne (show Y ≠ (Y + 3) by omega) a3), (lk_ne (show Y ≠ (Y + 4) by omega) a4), b3, b4⟩, ⟨_, _, (lk_ne (show Y ≠ (Y + 5) by omega) a5), (lk_ne (show Y ≠ (Y + 6) by omega) a6), b5⟩, ⟨_, (lk_ne (show Y ≠ (Y + 11) by omega) a11), b11⟩, ⟨_, (lk_ne (show Y ≠ (Y + 17) by omega) a17), b17⟩⟩, ⟨_, _, _, _, _, _, _, _, _, _, _, (lk_ne (show Y ≠ (Y + 7) by omega) a7), (lk_ne (show Y ≠ (Y + 8) by omega) a8), (lk_ne (show Y ≠ (Y + 9) by omega) a9), (lk_ne (show Y ≠ (Y + 10) by omega) a10), (lk_ne (show Y ≠ (Y + 12) by omega) a12), (lk_ne (show Y ≠ (Y + 13) by omega) a13), (lk_ne (show Y ≠ (Y + 14) by omega) a14), (lk_ne (show Y ≠ (Y + 18) by omega) a18), (lk_ne (show Y ≠ (Y + 19) by omega) a19), (lk_ne (show Y ≠ (Y + 20) by omega) a20), (lk_ne (show Y ≠ (Y + 21) by omega) a21)⟩, ⟨_, _, (lk_ne (show Y ≠ (Y + 15) by omega) a15), (lk_ne (show Y ≠ (Y + 16) by omega) a16), b15⟩⟩
    have hFr : FR (modS Y) w wr := by rw [ewr]; exact (FR.st (c' := .inr (11, .int (nI 0) :: .int st :: .ref (Y + 1) :: .ref (Y + 2) :: .ref (Y + 3) :: .ref (Y + 4) :: .int (nI pn) :: .ref (Y + 5) :: .ref (Y + 6) :: .ref (Y + 7) :: .int dg :: .ref (Y + 8) :: .int dd :: .ref (Y + 9) :: .ref (Y + 10) :: .ref (Y + 11) :: .ref (Y + 12) :: .int ld :: .int be :: .int ib :: .ref (Y + 13) :: .ref (Y + 14) :: .ref (Y + 15) :: .ref (Y + 16) :: .ref (Y + 17) :: .int (nI tl) :: .int fa :: .int re :: .int ig :: .ref (Y + 18) :: .ref (Y + 19) :: .ref (Y + 20) :: .ref (Y + 21) :: [])) FR.rf hY rfl (by unfold modS; omega))
    refine g_callV (pc := 15) [.int (-4)] dX12_undo_15 cv_X12_96.1 cv_X12_96.2.1 cv_X12_96.2.2.1 cv_X12_96.2.2.2 (by rw [ewr]; exact (lk_eq hY)) rfl rfl (Nat.le_of_ble_eq_true rfl) (by decide) (by decide) (mq_refuse4 _ hMr) ?_
    rintro _ wq ⟨rfl, hR⟩
    exact g_iret (pc := 18) dX12_undo_18 (Or.inl ⟨hn9, ⟨rfl, hR.1, hFr.tr hR.2⟩⟩)
theorem two_of {x : Int32} (h : 0 ≤ x.toInt ∧ x.toInt ≤ 1) : ∃ k, x = nI k ∧ k < 2 := ⟨x.toInt.toNat, nI_toNat h.1, by omega⟩
theorem im_set {q b g2 : Nat → Int32} {im : Nat → Option SV} {sh : SV} {k : Nat} (h : imgR q b im) (h2 : rowR g2 sh) (hk : k < 2) : imgR (cpF g2 q 0 (626 * k) 626) (upd b k (nI 1 &&& 1)) (setO im k (some sh)) := by
  intro j hj
  unfold setO
  by_cases e : j = k
  · subst e
    rw [if_pos rfl, upd_s]
    refine ⟨fun V hV => ⟨?_, by decide⟩, fun g => by simp at g⟩
    have e9 : sh = V := by simpa using hV
    subst e9
    exact row_cg h2 (fun i hi => by unfold cpF; rw [if_pos (by omega), show 0 + (626 * j + i - 626 * j) = i by omega])
  · rw [if_neg e, upd_n e]
    refine ⟨fun V hV => ?_, (h j hj).2⟩
    obtain ⟨p1, p2⟩ := (h j hj).1 V hV
    exact ⟨row_cg p1 (fun i hi => by unfold cpF; rw [if_neg (by omega)]), p2⟩
abbrev BX12_image (w0 : Wd) (Post : Option Value → Wd → Prop) (w : Wd) (pc : Nat) (ls : List (Nat × Value)) (st : List Value) : Prop := GP "image" RX12 cX12_image 2 (some .int) 1 39 none w0 Post w pc ls st
abbrev EX12_image (As : List Value) (w : Wd) (Post : Option Value → Wd → Prop) : Prop := EP yX12_image cX12_image 2 (some .int) 1 As w Post
theorem mq_image (w : Wd) {Y tl : Nat} {tb : Nat → Int32} {fa st : Int32} {rf : Nat → Nat} {sh : SV} {pn : Nat} {pk : Nat → Nat} {ps : Nat → SV} {im : Nat → Option SV} (hM : mdC w Y tl tb fa st rf sh pn pk ps im) {x : Int32} : EX12_image [.ref Y, .int x] w (fun r w' => (¬ (0 ≤ x.toInt ∧ x.toInt ≤ 1) ∧ rfM (-1) 0 w Y tl tb fa rf sh pn pk ps im r w') ∨ (∃ k, x = nI k ∧ k < 2 ∧ r = some (.int (nI (dSum (fun i => (sh.1 i).1) 8))) ∧ mdC w' Y tl tb fa (nI 0) rf sh pn pk ps (setO im k (some sh)) ∧ FR (modS Y) w w')) := by
  refine EP.of (plainFor_of_name (by decide)) [(0, .ref Y), (1, .int x)] rfl (Nat.le_of_ble_eq_true rfl) (fun r wf h => by rcases h with ⟨-, rfl, -⟩ | ⟨k, -, -, rfl, -⟩ <;> trivial) ?_
  show BX12_image w _ w 0 [(0, .ref Y), (1, .int x)] []
  obtain ⟨⟨th, dg, dd, ld, be, ib, re, ig, hY⟩, ⟨⟨g1, a1, b1⟩, ⟨g2, a2, b2⟩, ⟨g3, g4, a3, a4, b3, b4⟩, ⟨g5, g6, a5, a6, b5⟩, ⟨g11, a11, b11⟩, ⟨g17, a17, b17⟩⟩, ⟨g7, g8, g9, g10, g12, g13, g14, g18, g19, g20, g21, a7, a8, a9, a10, a12, a13, a14, a18, a19, a20, a21⟩, ⟨g15, g16, a15, a16, b15⟩⟩ := id hM
  refine g_aload_n (pc := 0) 0 dX12_image_0 rfl rfl ?_
  refine g_iconst (pc := 1) (v := nI 0) dX12_image_1 (by decide) ?_
  refine g_put (pc := 2) (.int (nI 0) :: .int st :: .ref (Y + 1) :: .ref (Y + 2) :: .ref (Y + 3) :: .ref (Y + 4) :: .int (nI pn) :: .ref (Y + 5) :: .ref (Y + 6) :: .ref (Y + 7) :: .int dg :: .ref (Y + 8) :: .int dd :: .ref (Y + 9) :: .ref (Y + 10) :: .ref (Y + 11) :: .ref (Y + 12) :: .int ld :: .int be :: .int ib :: .ref (Y + 13) :: .ref (Y + 14) :: .ref (Y + 15) :: .ref (Y + 16) :: .ref (Y + 17) :: .int (nI tl) :: .int fa :: .int re :: .int ig :: .ref (Y + 18) :: .ref (Y + 19) :: .ref (Y + 20) :: .ref (Y + 21) :: []) dX12_image_2 fk_X12_83 hY (Nat.le_of_ble_eq_true rfl) rfl rfl ?_
  refine g_iload_n (pc := 5) 1 dX12_image_5 rfl rfl ?_
  refine g_i2l (pc := 6) dX12_image_6 ?_
  refine g_lconst (pc := 7) (v := 0) dX12_image_7 (by decide) ?_
  refine g_lconst (pc := 8) (v := 1) dX12_image_8 (by decide) ?_
  refine g_callS (pc := 9) [.long x.toInt64, .long 0, .long 1] dX12_image_9 cs_X12_103.1 cs_X12_103.2 rfl rfl (Nat.le_of_ble_eq_true rfl) (by decide) (by decide) (mp_in _) ?_
  rintro _ w9 (⟨rfl, hi, e9⟩ | ⟨rfl, hi, e9⟩)
  · refine GP.weq _ e9 ?_
    rw [IL, L1, L00] at hi
    obtain ⟨k, rfl, hk⟩ := two_of hi
    refine n_if_ne (pc := 12) 21 dX12_image_12 (by decide) (by omega) (fun hd9 => ?_) (fun hd9 => ?_)
    · refine g_aload_n (pc := 21) 0 dX12_image_21 rfl rfl ?_
      refine g_get (pc := 22) dX12_image_22 fk_X12_13 (lk_eq hY) rfl ?_
      refine g_iconst (pc := 25) (v := nI 0) dX12_image_25 (by decide) ?_
      refine g_aload_n (pc := 26) 0 dX12_image_26 rfl rfl ?_
      refine g_get (pc := 27) dX12_image_27 fk_X12_22 (lk_eq hY) rfl ?_
      refine g_sipush (pc := 30) (v := nI 626) dX12_image_30 (by decide) ?_
      refine g_iload_n (pc := 33) 1 dX12_image_33 rfl rfl ?_
      refine n_imul (pc := 34) dX12_image_34 ?_
      refine g_callS (pc := 35) [.ref (Y + 2), .int (nI 0), .ref (Y + 5), .int (nI (626 * k))] dX12_image_35 cs_X12_92.1 cs_X12_92.2 rfl rfl (Nat.le_of_ble_eq_true rfl) (by decide) (by decide) (mp_copy _ (p := Y + 2) (q := Y + 5) (a := 0) (b := 626 * k) (by omega) (lk_ne (show Y ≠ (Y + 2) by omega) a2) (lk_ne (show Y ≠ (Y + 5) by omega) a5) (by omega) (by omega) (by omega) (by omega)) ?_
      rintro _ w9 ⟨rfl, e9⟩
      refine GP.weq _ e9 ?_
      refine g_aload_n (pc := 38) 0 dX12_image_38 rfl rfl ?_
      refine g_get (pc := 39) dX12_image_39 fk_X12_25 (lk_ne (show (Y + 5) ≠ Y by omega) (lk_eq hY)) rfl ?_
      refine g_iload_n (pc := 42) 1 dX12_image_42 rfl rfl ?_
      refine g_iconst (pc := 43) (v := nI 1) dX12_image_43 (by decide) ?_
      refine g_zast (pc := 44) k dX12_image_44 (lk_ne (show (Y + 5) ≠ (Y + 6) by omega) (lk_ne (show Y ≠ (Y + 6) by omega) a6)) (IXn (by omega) (by omega)) ?_
      refine g_aload_n (pc := 45) 0 dX12_image_45 rfl rfl ?_
      refine g_aload_n (pc := 46) 0 dX12_image_46 rfl rfl ?_
      refine g_callV (pc := 47) [] dX12_image_47 cv_X12_107.1 cv_X12_107.2.1 cv_X12_107.2.2.1 cv_X12_107.2.2.2 (lk_ne (show (Y + 6) ≠ Y by omega) (lk_ne (show (Y + 5) ≠ Y by omega) (lk_eq hY))) rfl rfl (Nat.le_of_ble_eq_true rfl) (by decide) (by decide) (mp_degrees _ (lk_ne (show (Y + 6) ≠ Y by omega) (lk_ne (show (Y + 5) ≠ Y by omega) (lk_eq hY))) (lk_ne (show (Y + 6) ≠ (Y + 2) by omega) (lk_ne (show (Y + 5) ≠ (Y + 2) by omega) (lk_ne (show Y ≠ (Y + 2) by omega) a2))) (row_dg b2)) ?_
      rintro _ w9 ⟨rfl, e9⟩
      refine GP.weq _ e9 ?_
      obtain ⟨wt, ewt⟩ : ∃ wy : Wd, wy = (((w.set Y (.inr (11, .int (nI 0) :: .int st :: .ref (Y + 1) :: .ref (Y + 2) :: .ref (Y + 3) :: .ref (Y + 4) :: .int (nI pn) :: .ref (Y + 5) :: .ref (Y + 6) :: .ref (Y + 7) :: .int dg :: .ref (Y + 8) :: .int dd :: .ref (Y + 9) :: .ref (Y + 10) :: .ref (Y + 11) :: .ref (Y + 12) :: .int ld :: .int be :: .int ib :: .ref (Y + 13) :: .ref (Y + 14) :: .ref (Y + 15) :: .ref (Y + 16) :: .ref (Y + 17) :: .int (nI tl) :: .int fa :: .int re :: .int ig :: .ref (Y + 18) :: .ref (Y + 19) :: .ref (Y + 20) :: .ref (Y + 21) :: []))).set (Y + 5) (aI 0 1252 (cpF g2 g5 0 (626 * k) 626))).set (Y + 6) (aI 3 2 (upd g6 k ((nI 1) &&& 1)))) := ⟨_, rfl⟩
      refine GP.weq wt ewt.symm ?_
      have hMt : mdC wt Y tl tb fa st rf sh pn pk ps (setO im k (some sh)) := by rw [ewt]; exact ⟨⟨_, _, _, _, _, _, _, _, (lk_ne (show (Y + 6) ≠ Y by omega) (lk_ne (show (Y + 5) ≠ Y by omega) (lk_eq hY)))⟩, ⟨⟨_, (lk_ne (show (Y + 6) ≠ (Y + 1) by omega) (lk_ne (show (Y + 5) ≠ (Y + 1) by omega) (lk_ne (show Y ≠ (Y + 1) by omega) a1))), b1⟩, ⟨_, (lk_ne (show (Y + 6) ≠ (Y + 2) by omega) (lk_ne (show (Y + 5) ≠ (Y + 2) by omega) (lk_ne (show Y ≠ (Y + 2) by omega) a2))), b2⟩, ⟨_, _, (lk_ne (show (Y + 6) ≠ (Y + 3) by omega) (lk_ne (show (Y + 5) ≠ (Y + 3) by omega) (lk_ne (show Y ≠ (Y + 3) by omega) a3))), (lk_ne (show (Y + 6) ≠ (Y + 4) by omega) (lk_ne (show (Y + 5) ≠ (Y + 4) by omega) (lk_ne (show Y ≠ (Y + 4) by omega) a4))), b3, b4⟩, ⟨_, _, (lk_ne (show (Y + 6) ≠ (Y + 5) by omega) (lk_eq (lk_ne (show Y ≠ (Y + 5) by omega) a5))), (lk_eq (lk_ne (show (Y + 5) ≠ (Y + 6) by omega) (lk_ne (show Y ≠ (Y + 6) by omega) a6))), (im_set b5 b2 hk)⟩, ⟨_, (lk_ne (show (Y + 6) ≠ (Y + 11) by omega) (lk_ne (show (Y + 5) ≠ (Y + 11) by omega) (lk_ne (show Y ≠ (Y + 11) by omega) a11))), b11⟩, ⟨_, (lk_ne (show (Y + 6) ≠ (Y + 17) by omega) (lk_ne (show (Y + 5) ≠ (Y + 17) by omega) (lk_ne (show Y ≠ (Y + 17) by omega) a17))), b17⟩⟩, ⟨_, _, _, _, _, _, _, _, _, _, _, (lk_ne (show (Y + 6) ≠ (Y + 7) by omega) (lk_ne (show (Y + 5) ≠ (Y + 7) by omega) (lk_ne (show Y ≠ (Y + 7) by omega) a7))), (lk_ne (show (Y + 6) ≠ (Y + 8) by omega) (lk_ne (show (Y + 5) ≠ (Y + 8) by omega) (lk_ne (show Y ≠ (Y + 8) by omega) a8))), (lk_ne (show (Y + 6) ≠ (Y + 9) by omega) (lk_ne (show (Y + 5) ≠ (Y + 9) by omega) (lk_ne (show Y ≠ (Y + 9) by omega) a9))), (lk_ne (show (Y + 6) ≠ (Y + 10) by omega) (lk_ne (show (Y + 5) ≠ (Y + 10) by omega) (lk_ne (show Y ≠ (Y + 10) by omega) a10))), (lk_ne (show (Y + 6) ≠ (Y + 12) by omega) (lk_ne (show (Y + 5) ≠ (Y + 12) by omega) (lk_ne (show Y ≠ (Y + 12) by omega) a12))), (lk_ne (show (Y + 6) ≠ (Y + 13) by omega) (lk_ne (show (Y + 5) ≠ (Y + 13) by omega) (lk_ne (show Y ≠ (Y + 13) by omega) a13))), (lk_ne (show (Y + 6) ≠ (Y + 14) by omega) (lk_ne (show (Y + 5) ≠ (Y + 14) by omega) (lk_ne (show Y ≠ (Y + 14) by omega) a14))), (lk_ne (show (Y + 6) ≠ (Y + 18) by omega) (lk_ne (show (Y + 5) ≠ (Y + 18) by omega) (lk_ne (show Y ≠ (Y + 18) by omega) a18))), (lk_ne (show (Y + 6) ≠ (Y + 19) by omega) (lk_ne (show (Y + 5) ≠ (Y + 19) by omega) (lk_ne (show Y ≠ (Y + 19) by omega) a19))), (lk_ne (show (Y + 6) ≠ (Y + 20) by omega) (lk_ne (show (Y + 5) ≠ (Y + 20) by omega) (lk_ne (show Y ≠ (Y + 20) by omega) a20))), (lk_ne (show (Y + 6) ≠ (Y + 21) by omega) (lk_ne (show (Y + 5) ≠ (Y + 21) by omega) (lk_ne (show Y ≠ (Y + 21) by omega) a21)))⟩, ⟨_, _, (lk_ne (show (Y + 6) ≠ (Y + 15) by omega) (lk_ne (show (Y + 5) ≠ (Y + 15) by omega) (lk_ne (show Y ≠ (Y + 15) by omega) a15))), (lk_ne (show (Y + 6) ≠ (Y + 16) by omega) (lk_ne (show (Y + 5) ≠ (Y + 16) by omega) (lk_ne (show Y ≠ (Y + 16) by omega) a16))), b15⟩⟩
      have hFt : FR (modS Y) w wt := by rw [ewt]; exact (FR.st (c' := aI 3 2 (upd g6 k ((nI 1) &&& 1))) (FR.st (c' := aI 0 1252 (cpF g2 g5 0 (626 * k) 626)) (FR.st (c' := .inr (11, .int (nI 0) :: .int st :: .ref (Y + 1) :: .ref (Y + 2) :: .ref (Y + 3) :: .ref (Y + 4) :: .int (nI pn) :: .ref (Y + 5) :: .ref (Y + 6) :: .ref (Y + 7) :: .int dg :: .ref (Y + 8) :: .int dd :: .ref (Y + 9) :: .ref (Y + 10) :: .ref (Y + 11) :: .ref (Y + 12) :: .int ld :: .int be :: .int ib :: .ref (Y + 13) :: .ref (Y + 14) :: .ref (Y + 15) :: .ref (Y + 16) :: .ref (Y + 17) :: .int (nI tl) :: .int fa :: .int re :: .int ig :: .ref (Y + 18) :: .ref (Y + 19) :: .ref (Y + 20) :: .ref (Y + 21) :: [])) FR.rf hY rfl (by unfold modS; omega)) (lk_ne (show Y ≠ (Y + 5) by omega) a5) rfl (by unfold modS; omega)) (lk_ne (show (Y + 5) ≠ (Y + 6) by omega) (lk_ne (show Y ≠ (Y + 6) by omega) a6)) rfl (by unfold modS; omega))
      refine g_callV (pc := 50) [.int (nI (dSum (fun i => (sh.1 i).1) 8))] dX12_image_50 cv_X12_100.1 cv_X12_100.2.1 cv_X12_100.2.2.1 cv_X12_100.2.2.2 (by rw [ewt]; exact (lk_ne (show (Y + 6) ≠ Y by omega) (lk_ne (show (Y + 5) ≠ Y by omega) (lk_eq hY)))) rfl rfl (Nat.le_of_ble_eq_true rfl) (by decide) (by decide) (mq_tell _ (v := nI (dSum (fun i => (sh.1 i).1) 8)) hMt) ?_
      rintro _ wu ⟨rfl, hMu, hFu⟩
      exact g_iret (pc := 53) dX12_image_53 (Or.inr ⟨k, rfl, hk, rfl, hMu, (hFt.tr hFu)⟩)
    · exact absurd hd9 (by decide)
  · refine GP.weq _ e9 ?_
    rw [IL, L1, L00] at hi
    refine n_if_ne (pc := 12) 21 dX12_image_12 (by decide) (by omega) (fun hd9 => ?_) (fun hd9 => ?_)
    · exact absurd rfl hd9
    · refine g_aload_n (pc := 15) 0 dX12_image_15 rfl rfl ?_
      refine g_iconst (pc := 16) (v := -1) dX12_image_16 (by decide) ?_
      obtain ⟨wr, ewr⟩ : ∃ wy : Wd, wy = (w.set Y (.inr (11, .int (nI 0) :: .int st :: .ref (Y + 1) :: .ref (Y + 2) :: .ref (Y + 3) :: .ref (Y + 4) :: .int (nI pn) :: .ref (Y + 5) :: .ref (Y + 6) :: .ref (Y + 7) :: .int dg :: .ref (Y + 8) :: .int dd :: .ref (Y + 9) :: .ref (Y + 10) :: .ref (Y + 11) :: .ref (Y + 12) :: .int ld :: .int be :: .int ib :: .ref (Y + 13) :: .ref (Y + 14) :: .ref (Y + 15) :: .ref (Y + 16) :: .ref (Y + 17) :: .int (nI tl) :: .int fa :: .int re :: .int ig :: .ref (Y + 18) :: .ref (Y + 19) :: .ref (Y + 20) :: .ref (Y + 21) :: []))) := ⟨_, rfl⟩
      refine GP.weq wr ewr.symm ?_
      have hMr : mdC wr Y tl tb fa st rf sh pn pk ps im := by rw [ewr]; exact ⟨⟨_, _, _, _, _, _, _, _, (lk_eq hY)⟩, ⟨⟨_, (lk_ne (show Y ≠ (Y + 1) by omega) a1), b1⟩, ⟨_, (lk_ne (show Y ≠ (Y + 2) by omega) a2), b2⟩, ⟨_, _, (lk_ne (show Y ≠ (Y + 3) by omega) a3), (lk_ne (show Y ≠ (Y + 4) by omega) a4), b3, b4⟩, ⟨_, _, (lk_ne (show Y ≠ (Y + 5) by omega) a5), (lk_ne (show Y ≠ (Y + 6) by omega) a6), b5⟩, ⟨_, (lk_ne (show Y ≠ (Y + 11) by omega) a11), b11⟩, ⟨_, (lk_ne (show Y ≠ (Y + 17) by omega) a17), b17⟩⟩, ⟨_, _, _, _, _, _, _, _, _, _, _, (lk_ne (show Y ≠ (Y + 7) by omega) a7), (lk_ne (show Y ≠ (Y + 8) by omega) a8), (lk_ne (show Y ≠ (Y + 9) by omega) a9), (lk_ne (show Y ≠ (Y + 10) by omega) a10), (lk_ne (show Y ≠ (Y + 12) by omega) a12), (lk_ne (show Y ≠ (Y + 13) by omega) a13), (lk_ne (show Y ≠ (Y + 14) by omega) a14), (lk_ne (show Y ≠ (Y + 18) by omega) a18), (lk_ne (show Y ≠ (Y + 19) by omega) a19), (lk_ne (show Y ≠ (Y + 20) by omega) a20), (lk_ne (show Y ≠ (Y + 21) by omega) a21)⟩, ⟨_, _, (lk_ne (show Y ≠ (Y + 15) by omega) a15), (lk_ne (show Y ≠ (Y + 16) by omega) a16), b15⟩⟩
      have hFr : FR (modS Y) w wr := by rw [ewr]; exact (FR.st (c' := .inr (11, .int (nI 0) :: .int st :: .ref (Y + 1) :: .ref (Y + 2) :: .ref (Y + 3) :: .ref (Y + 4) :: .int (nI pn) :: .ref (Y + 5) :: .ref (Y + 6) :: .ref (Y + 7) :: .int dg :: .ref (Y + 8) :: .int dd :: .ref (Y + 9) :: .ref (Y + 10) :: .ref (Y + 11) :: .ref (Y + 12) :: .int ld :: .int be :: .int ib :: .ref (Y + 13) :: .ref (Y + 14) :: .ref (Y + 15) :: .ref (Y + 16) :: .ref (Y + 17) :: .int (nI tl) :: .int fa :: .int re :: .int ig :: .ref (Y + 18) :: .ref (Y + 19) :: .ref (Y + 20) :: .ref (Y + 21) :: [])) FR.rf hY rfl (by unfold modS; omega))
      refine g_callV (pc := 17) [.int (-1)] dX12_image_17 cv_X12_96.1 cv_X12_96.2.1 cv_X12_96.2.2.1 cv_X12_96.2.2.2 (by rw [ewr]; exact (lk_eq hY)) rfl rfl (Nat.le_of_ble_eq_true rfl) (by decide) (by decide) (mq_refuse1 _ hMr) ?_
      rintro _ wq ⟨rfl, hR⟩
      exact g_iret (pc := 20) dX12_image_20 (Or.inl ⟨hi, ⟨rfl, hR.1, hFr.tr hR.2⟩⟩)
abbrev BX12_back (w0 : Wd) (Post : Option Value → Wd → Prop) (w : Wd) (pc : Nat) (ls : List (Nat × Value)) (st : List Value) : Prop := GP "back" RX12 cX12_back 2 (some .int) 1 39 none w0 Post w pc ls st
abbrev EX12_back (As : List Value) (w : Wd) (Post : Option Value → Wd → Prop) : Prop := EP yX12_back cX12_back 2 (some .int) 1 As w Post
theorem mq_back (w : Wd) {Y tl : Nat} {tb : Nat → Int32} {fa st : Int32} {rf : Nat → Nat} {sh : SV} {pn : Nat} {pk : Nat → Nat} {ps : Nat → SV} {im : Nat → Option SV} (hM : mdC w Y tl tb fa st rf sh pn pk ps im) {x : Int32} : EX12_back [.ref Y, .int x] w (fun r w' => (¬ (0 ≤ x.toInt ∧ x.toInt ≤ 1) ∧ rfM (-1) 0 w Y tl tb fa rf sh pn pk ps im r w') ∨ (∃ k, x = nI k ∧ k < 2 ∧ im k = none ∧ rfM (-2) 1 w Y tl tb fa rf sh pn pk ps im r w') ∨ (∃ k V, x = nI k ∧ k < 2 ∧ im k = some V ∧ r = some (.int (nI (dSum (fun i => (V.1 i).1) 8))) ∧ mdC w' Y tl tb fa (nI 0) rf V 0 pk ps im ∧ FR (modS Y) w w')) := by
  refine EP.of (plainFor_of_name (by decide)) [(0, .ref Y), (1, .int x)] rfl (Nat.le_of_ble_eq_true rfl) (fun r wf h => by rcases h with ⟨-, rfl, -⟩ | ⟨k, -, -, -, rfl, -⟩ | ⟨k, V, -, -, -, rfl, -⟩ <;> trivial) ?_
  show BX12_back w _ w 0 [(0, .ref Y), (1, .int x)] []
  obtain ⟨⟨th, dg, dd, ld, be, ib, re, ig, hY⟩, ⟨⟨g1, a1, b1⟩, ⟨g2, a2, b2⟩, ⟨g3, g4, a3, a4, b3, b4⟩, ⟨g5, g6, a5, a6, b5⟩, ⟨g11, a11, b11⟩, ⟨g17, a17, b17⟩⟩, ⟨g7, g8, g9, g10, g12, g13, g14, g18, g19, g20, g21, a7, a8, a9, a10, a12, a13, a14, a18, a19, a20, a21⟩, ⟨g15, g16, a15, a16, b15⟩⟩ := id hM
  refine g_aload_n (pc := 0) 0 dX12_back_0 rfl rfl ?_
  refine g_iconst (pc := 1) (v := nI 0) dX12_back_1 (by decide) ?_
  refine g_put (pc := 2) (.int (nI 0) :: .int st :: .ref (Y + 1) :: .ref (Y + 2) :: .ref (Y + 3) :: .ref (Y + 4) :: .int (nI pn) :: .ref (Y + 5) :: .ref (Y + 6) :: .ref (Y + 7) :: .int dg :: .ref (Y + 8) :: .int dd :: .ref (Y + 9) :: .ref (Y + 10) :: .ref (Y + 11) :: .ref (Y + 12) :: .int ld :: .int be :: .int ib :: .ref (Y + 13) :: .ref (Y + 14) :: .ref (Y + 15) :: .ref (Y + 16) :: .ref (Y + 17) :: .int (nI tl) :: .int fa :: .int re :: .int ig :: .ref (Y + 18) :: .ref (Y + 19) :: .ref (Y + 20) :: .ref (Y + 21) :: []) dX12_back_2 fk_X12_83 hY (Nat.le_of_ble_eq_true rfl) rfl rfl ?_
  refine g_iload_n (pc := 5) 1 dX12_back_5 rfl rfl ?_
  refine g_i2l (pc := 6) dX12_back_6 ?_
  refine g_lconst (pc := 7) (v := 0) dX12_back_7 (by decide) ?_
  refine g_lconst (pc := 8) (v := 1) dX12_back_8 (by decide) ?_
  refine g_callS (pc := 9) [.long x.toInt64, .long 0, .long 1] dX12_back_9 cs_X12_103.1 cs_X12_103.2 rfl rfl (Nat.le_of_ble_eq_true rfl) (by decide) (by decide) (mp_in _) ?_
  rintro _ w9 (⟨rfl, hi, e9⟩ | ⟨rfl, hi, e9⟩)
  · refine GP.weq _ e9 ?_
    rw [IL, L1, L00] at hi
    obtain ⟨k, rfl, hk⟩ := two_of hi
    refine n_if_ne (pc := 12) 21 dX12_back_12 (by decide) (by omega) (fun hd9 => ?_) (fun hd9 => ?_)
    · refine g_aload_n (pc := 21) 0 dX12_back_21 rfl rfl ?_
      refine g_get (pc := 22) dX12_back_22 fk_X12_25 (lk_eq hY) rfl ?_
      refine g_iload_n (pc := 25) 1 dX12_back_25 rfl rfl ?_
      refine g_zald (pc := 26) k dX12_back_26 (lk_ne (show Y ≠ (Y + 6) by omega) a6) (IXn (by omega) (by omega)) ?_
      cases him : im k with
      | none =>
        · refine GP.ti (nI 0) ((b5 k hk).2 him) ?_
          refine n_if_ne (pc := 27) 37 dX12_back_27 (by decide) (by omega) (fun hd9 => ?_) (fun hd9 => ?_)
          · exact absurd rfl hd9
          · refine g_aload_n (pc := 30) 0 dX12_back_30 rfl rfl ?_
            refine g_bipush (pc := 31) (v := -2) dX12_back_31 (by decide) ?_
            obtain ⟨wr, ewr⟩ : ∃ wy : Wd, wy = (w.set Y (.inr (11, .int (nI 0) :: .int st :: .ref (Y + 1) :: .ref (Y + 2) :: .ref (Y + 3) :: .ref (Y + 4) :: .int (nI pn) :: .ref (Y + 5) :: .ref (Y + 6) :: .ref (Y + 7) :: .int dg :: .ref (Y + 8) :: .int dd :: .ref (Y + 9) :: .ref (Y + 10) :: .ref (Y + 11) :: .ref (Y + 12) :: .int ld :: .int be :: .int ib :: .ref (Y + 13) :: .ref (Y + 14) :: .ref (Y + 15) :: .ref (Y + 16) :: .ref (Y + 17) :: .int (nI tl) :: .int fa :: .int re :: .int ig :: .ref (Y + 18) :: .ref (Y + 19) :: .ref (Y + 20) :: .ref (Y + 21) :: []))) := ⟨_, rfl⟩
            refine GP.weq wr ewr.symm ?_
            have hMr : mdC wr Y tl tb fa st rf sh pn pk ps im := by rw [ewr]; exact ⟨⟨_, _, _, _, _, _, _, _, (lk_eq hY)⟩, ⟨⟨_, (lk_ne (show Y ≠ (Y + 1) by omega) a1), b1⟩, ⟨_, (lk_ne (show Y ≠ (Y + 2) by omega) a2), b2⟩, ⟨_, _, (lk_ne (show Y ≠ (Y + 3) by omega) a3), (lk_ne (show Y ≠ (Y + 4) by omega) a4), b3, b4⟩, ⟨_, _, (lk_ne (show Y ≠ (Y + 5) by omega) a5), (lk_ne (show Y ≠ (Y + 6) by omega) a6), b5⟩, ⟨_, (lk_ne (show Y ≠ (Y + 11) by omega) a11), b11⟩, ⟨_, (lk_ne (show Y ≠ (Y + 17) by omega) a17), b17⟩⟩, ⟨_, _, _, _, _, _, _, _, _, _, _, (lk_ne (show Y ≠ (Y + 7) by omega) a7), (lk_ne (show Y ≠ (Y + 8) by omega) a8), (lk_ne (show Y ≠ (Y + 9) by omega) a9), (lk_ne (show Y ≠ (Y + 10) by omega) a10), (lk_ne (show Y ≠ (Y + 12) by omega) a12), (lk_ne (show Y ≠ (Y + 13) by omega) a13), (lk_ne (show Y ≠ (Y + 14) by omega) a14), (lk_ne (show Y ≠ (Y + 18) by omega) a18), (lk_ne (show Y ≠ (Y + 19) by omega) a19), (lk_ne (show Y ≠ (Y + 20) by omega) a20), (lk_ne (show Y ≠ (Y + 21) by omega) a21)⟩, ⟨_, _, (lk_ne (show Y ≠ (Y + 15) by omega) a15), (lk_ne (show Y ≠ (Y + 16) by omega) a16), b15⟩⟩
            have hFr : FR (modS Y) w wr := by rw [ewr]; exact (FR.st (c' := .inr (11, .int (nI 0) :: .int st :: .ref (Y + 1) :: .ref (Y + 2) :: .ref (Y + 3) :: .ref (Y + 4) :: .int (nI pn) :: .ref (Y + 5) :: .ref (Y + 6) :: .ref (Y + 7) :: .int dg :: .ref (Y + 8) :: .int dd :: .ref (Y + 9) :: .ref (Y + 10) :: .ref (Y + 11) :: .ref (Y + 12) :: .int ld :: .int be :: .int ib :: .ref (Y + 13) :: .ref (Y + 14) :: .ref (Y + 15) :: .ref (Y + 16) :: .ref (Y + 17) :: .int (nI tl) :: .int fa :: .int re :: .int ig :: .ref (Y + 18) :: .ref (Y + 19) :: .ref (Y + 20) :: .ref (Y + 21) :: [])) FR.rf hY rfl (by unfold modS; omega))
            refine g_callV (pc := 33) [.int (-2)] dX12_back_33 cv_X12_96.1 cv_X12_96.2.1 cv_X12_96.2.2.1 cv_X12_96.2.2.2 (by rw [ewr]; exact (lk_eq hY)) rfl rfl (Nat.le_of_ble_eq_true rfl) (by decide) (by decide) (mq_refuse2 _ hMr) ?_
            rintro _ wq ⟨rfl, hR⟩
            exact g_iret (pc := 36) dX12_back_36 (Or.inr (Or.inl ⟨k, rfl, hk, him, ⟨rfl, hR.1, hFr.tr hR.2⟩⟩))
      | some V =>
        · obtain ⟨hV1, hV2⟩ := (b5 k hk).1 V him
          refine GP.ti (nI 1) hV2 ?_
          refine n_if_ne (pc := 27) 37 dX12_back_27 (by decide) (by omega) (fun hd9 => ?_) (fun hd9 => ?_)
          · refine g_aload_n (pc := 37) 0 dX12_back_37 rfl rfl ?_
            refine g_get (pc := 38) dX12_back_38 fk_X12_22 (lk_eq hY) rfl ?_
            refine g_sipush (pc := 41) (v := nI 626) dX12_back_41 (by decide) ?_
            refine g_iload_n (pc := 44) 1 dX12_back_44 rfl rfl ?_
            refine n_imul (pc := 45) dX12_back_45 ?_
            refine g_aload_n (pc := 46) 0 dX12_back_46 rfl rfl ?_
            refine g_get (pc := 47) dX12_back_47 fk_X12_13 (lk_eq hY) rfl ?_
            refine g_iconst (pc := 50) (v := nI 0) dX12_back_50 (by decide) ?_
            refine g_callS (pc := 51) [.ref (Y + 5), .int (nI (626 * k)), .ref (Y + 2), .int (nI 0)] dX12_back_51 cs_X12_92.1 cs_X12_92.2 rfl rfl (Nat.le_of_ble_eq_true rfl) (by decide) (by decide) (mp_copy _ (p := Y + 5) (q := Y + 2) (a := 626 * k) (b := 0) (by omega) (lk_ne (show Y ≠ (Y + 5) by omega) a5) (lk_ne (show Y ≠ (Y + 2) by omega) a2) (by omega) (by omega) (by omega) (by omega)) ?_
            rintro _ w9 ⟨rfl, e9⟩
            refine GP.weq _ e9 ?_
            have hr := row_cp (g := g2) hV1
            refine g_aload_n (pc := 54) 0 dX12_back_54 rfl rfl ?_
            refine g_iconst (pc := 55) (v := nI 0) dX12_back_55 (by decide) ?_
            refine g_put (pc := 56) (.int (nI 0) :: .int st :: .ref (Y + 1) :: .ref (Y + 2) :: .ref (Y + 3) :: .ref (Y + 4) :: .int (nI 0) :: .ref (Y + 5) :: .ref (Y + 6) :: .ref (Y + 7) :: .int dg :: .ref (Y + 8) :: .int dd :: .ref (Y + 9) :: .ref (Y + 10) :: .ref (Y + 11) :: .ref (Y + 12) :: .int ld :: .int be :: .int ib :: .ref (Y + 13) :: .ref (Y + 14) :: .ref (Y + 15) :: .ref (Y + 16) :: .ref (Y + 17) :: .int (nI tl) :: .int fa :: .int re :: .int ig :: .ref (Y + 18) :: .ref (Y + 19) :: .ref (Y + 20) :: .ref (Y + 21) :: []) dX12_back_56 fk_X12_89 (lk_ne (show (Y + 2) ≠ Y by omega) (lk_eq hY)) (Nat.le_of_ble_eq_true rfl) rfl rfl ?_
            refine GP.weq ((w.set Y (.inr (11, .int (nI 0) :: .int st :: .ref (Y + 1) :: .ref (Y + 2) :: .ref (Y + 3) :: .ref (Y + 4) :: .int (nI 0) :: .ref (Y + 5) :: .ref (Y + 6) :: .ref (Y + 7) :: .int dg :: .ref (Y + 8) :: .int dd :: .ref (Y + 9) :: .ref (Y + 10) :: .ref (Y + 11) :: .ref (Y + 12) :: .int ld :: .int be :: .int ib :: .ref (Y + 13) :: .ref (Y + 14) :: .ref (Y + 15) :: .ref (Y + 16) :: .ref (Y + 17) :: .int (nI tl) :: .int fa :: .int re :: .int ig :: .ref (Y + 18) :: .ref (Y + 19) :: .ref (Y + 20) :: .ref (Y + 21) :: []))).set (Y + 2) (aI 0 626 (cpF g5 g2 (626 * k) 0 626))) (by rw [List.set_comm _ _ (show (Y + 2) ≠ Y by omega), List.set_set]) ?_
            refine g_aload_n (pc := 59) 0 dX12_back_59 rfl rfl ?_
            refine g_aload_n (pc := 60) 0 dX12_back_60 rfl rfl ?_
            refine g_callV (pc := 61) [] dX12_back_61 cv_X12_107.1 cv_X12_107.2.1 cv_X12_107.2.2.1 cv_X12_107.2.2.2 (lk_ne (show (Y + 2) ≠ Y by omega) (lk_eq hY)) rfl rfl (Nat.le_of_ble_eq_true rfl) (by decide) (by decide) (mp_degrees _ (lk_ne (show (Y + 2) ≠ Y by omega) (lk_eq hY)) (lk_eq (lk_ne (show Y ≠ (Y + 2) by omega) a2)) (row_dg hr)) ?_
            rintro _ w9 ⟨rfl, e9⟩
            refine GP.weq _ e9 ?_
            obtain ⟨wt, ewt⟩ : ∃ wy : Wd, wy = ((w.set Y (.inr (11, .int (nI 0) :: .int st :: .ref (Y + 1) :: .ref (Y + 2) :: .ref (Y + 3) :: .ref (Y + 4) :: .int (nI 0) :: .ref (Y + 5) :: .ref (Y + 6) :: .ref (Y + 7) :: .int dg :: .ref (Y + 8) :: .int dd :: .ref (Y + 9) :: .ref (Y + 10) :: .ref (Y + 11) :: .ref (Y + 12) :: .int ld :: .int be :: .int ib :: .ref (Y + 13) :: .ref (Y + 14) :: .ref (Y + 15) :: .ref (Y + 16) :: .ref (Y + 17) :: .int (nI tl) :: .int fa :: .int re :: .int ig :: .ref (Y + 18) :: .ref (Y + 19) :: .ref (Y + 20) :: .ref (Y + 21) :: []))).set (Y + 2) (aI 0 626 (cpF g5 g2 (626 * k) 0 626))) := ⟨_, rfl⟩
            refine GP.weq wt ewt.symm ?_
            have hMt : mdC wt Y tl tb fa st rf V 0 pk ps im := by rw [ewt]; exact ⟨⟨_, _, _, _, _, _, _, _, (lk_ne (show (Y + 2) ≠ Y by omega) (lk_eq hY))⟩, ⟨⟨_, (lk_ne (show (Y + 2) ≠ (Y + 1) by omega) (lk_ne (show Y ≠ (Y + 1) by omega) a1)), b1⟩, ⟨_, (lk_eq (lk_ne (show Y ≠ (Y + 2) by omega) a2)), hr⟩, ⟨_, _, (lk_ne (show (Y + 2) ≠ (Y + 3) by omega) (lk_ne (show Y ≠ (Y + 3) by omega) a3)), (lk_ne (show (Y + 2) ≠ (Y + 4) by omega) (lk_ne (show Y ≠ (Y + 4) by omega) a4)), (by omega), (fun i hi => absurd hi (Nat.not_lt_zero _))⟩, ⟨_, _, (lk_ne (show (Y + 2) ≠ (Y + 5) by omega) (lk_ne (show Y ≠ (Y + 5) by omega) a5)), (lk_ne (show (Y + 2) ≠ (Y + 6) by omega) (lk_ne (show Y ≠ (Y + 6) by omega) a6)), b5⟩, ⟨_, (lk_ne (show (Y + 2) ≠ (Y + 11) by omega) (lk_ne (show Y ≠ (Y + 11) by omega) a11)), b11⟩, ⟨_, (lk_ne (show (Y + 2) ≠ (Y + 17) by omega) (lk_ne (show Y ≠ (Y + 17) by omega) a17)), b17⟩⟩, ⟨_, _, _, _, _, _, _, _, _, _, _, (lk_ne (show (Y + 2) ≠ (Y + 7) by omega) (lk_ne (show Y ≠ (Y + 7) by omega) a7)), (lk_ne (show (Y + 2) ≠ (Y + 8) by omega) (lk_ne (show Y ≠ (Y + 8) by omega) a8)), (lk_ne (show (Y + 2) ≠ (Y + 9) by omega) (lk_ne (show Y ≠ (Y + 9) by omega) a9)), (lk_ne (show (Y + 2) ≠ (Y + 10) by omega) (lk_ne (show Y ≠ (Y + 10) by omega) a10)), (lk_ne (show (Y + 2) ≠ (Y + 12) by omega) (lk_ne (show Y ≠ (Y + 12) by omega) a12)), (lk_ne (show (Y + 2) ≠ (Y + 13) by omega) (lk_ne (show Y ≠ (Y + 13) by omega) a13)), (lk_ne (show (Y + 2) ≠ (Y + 14) by omega) (lk_ne (show Y ≠ (Y + 14) by omega) a14)), (lk_ne (show (Y + 2) ≠ (Y + 18) by omega) (lk_ne (show Y ≠ (Y + 18) by omega) a18)), (lk_ne (show (Y + 2) ≠ (Y + 19) by omega) (lk_ne (show Y ≠ (Y + 19) by omega) a19)), (lk_ne (show (Y + 2) ≠ (Y + 20) by omega) (lk_ne (show Y ≠ (Y + 20) by omega) a20)), (lk_ne (show (Y + 2) ≠ (Y + 21) by omega) (lk_ne (show Y ≠ (Y + 21) by omega) a21))⟩, ⟨_, _, (lk_ne (show (Y + 2) ≠ (Y + 15) by omega) (lk_ne (show Y ≠ (Y + 15) by omega) a15)), (lk_ne (show (Y + 2) ≠ (Y + 16) by omega) (lk_ne (show Y ≠ (Y + 16) by omega) a16)), b15⟩⟩
            have hFt : FR (modS Y) w wt := by rw [ewt]; exact (FR.st (c' := aI 0 626 (cpF g5 g2 (626 * k) 0 626)) (FR.st (c' := .inr (11, .int (nI 0) :: .int st :: .ref (Y + 1) :: .ref (Y + 2) :: .ref (Y + 3) :: .ref (Y + 4) :: .int (nI 0) :: .ref (Y + 5) :: .ref (Y + 6) :: .ref (Y + 7) :: .int dg :: .ref (Y + 8) :: .int dd :: .ref (Y + 9) :: .ref (Y + 10) :: .ref (Y + 11) :: .ref (Y + 12) :: .int ld :: .int be :: .int ib :: .ref (Y + 13) :: .ref (Y + 14) :: .ref (Y + 15) :: .ref (Y + 16) :: .ref (Y + 17) :: .int (nI tl) :: .int fa :: .int re :: .int ig :: .ref (Y + 18) :: .ref (Y + 19) :: .ref (Y + 20) :: .ref (Y + 21) :: [])) FR.rf hY rfl (by unfold modS; omega)) (lk_ne (show Y ≠ (Y + 2) by omega) a2) rfl (by unfold modS; omega))
            refine g_callV (pc := 64) [.int (nI (dSum (fun i => (V.1 i).1) 8))] dX12_back_64 cv_X12_100.1 cv_X12_100.2.1 cv_X12_100.2.2.1 cv_X12_100.2.2.2 (by rw [ewt]; exact (lk_ne (show (Y + 2) ≠ Y by omega) (lk_eq hY))) rfl rfl (Nat.le_of_ble_eq_true rfl) (by decide) (by decide) (mq_tell _ (v := nI (dSum (fun i => (V.1 i).1) 8)) hMt) ?_
            rintro _ wu ⟨rfl, hMu, hFu⟩
            exact g_iret (pc := 67) dX12_back_67 (Or.inr (Or.inr ⟨k, V, rfl, hk, him, rfl, hMu, (hFt.tr hFu)⟩))
          · exact absurd hd9 (by decide)
    · exact absurd hd9 (by decide)
  · refine GP.weq _ e9 ?_
    rw [IL, L1, L00] at hi
    refine n_if_ne (pc := 12) 21 dX12_back_12 (by decide) (by omega) (fun hd9 => ?_) (fun hd9 => ?_)
    · exact absurd rfl hd9
    · refine g_aload_n (pc := 15) 0 dX12_back_15 rfl rfl ?_
      refine g_iconst (pc := 16) (v := -1) dX12_back_16 (by decide) ?_
      obtain ⟨wr, ewr⟩ : ∃ wy : Wd, wy = (w.set Y (.inr (11, .int (nI 0) :: .int st :: .ref (Y + 1) :: .ref (Y + 2) :: .ref (Y + 3) :: .ref (Y + 4) :: .int (nI pn) :: .ref (Y + 5) :: .ref (Y + 6) :: .ref (Y + 7) :: .int dg :: .ref (Y + 8) :: .int dd :: .ref (Y + 9) :: .ref (Y + 10) :: .ref (Y + 11) :: .ref (Y + 12) :: .int ld :: .int be :: .int ib :: .ref (Y + 13) :: .ref (Y + 14) :: .ref (Y + 15) :: .ref (Y + 16) :: .ref (Y + 17) :: .int (nI tl) :: .int fa :: .int re :: .int ig :: .ref (Y + 18) :: .ref (Y + 19) :: .ref (Y + 20) :: .ref (Y + 21) :: []))) := ⟨_, rfl⟩
      refine GP.weq wr ewr.symm ?_
      have hMr : mdC wr Y tl tb fa st rf sh pn pk ps im := by rw [ewr]; exact ⟨⟨_, _, _, _, _, _, _, _, (lk_eq hY)⟩, ⟨⟨_, (lk_ne (show Y ≠ (Y + 1) by omega) a1), b1⟩, ⟨_, (lk_ne (show Y ≠ (Y + 2) by omega) a2), b2⟩, ⟨_, _, (lk_ne (show Y ≠ (Y + 3) by omega) a3), (lk_ne (show Y ≠ (Y + 4) by omega) a4), b3, b4⟩, ⟨_, _, (lk_ne (show Y ≠ (Y + 5) by omega) a5), (lk_ne (show Y ≠ (Y + 6) by omega) a6), b5⟩, ⟨_, (lk_ne (show Y ≠ (Y + 11) by omega) a11), b11⟩, ⟨_, (lk_ne (show Y ≠ (Y + 17) by omega) a17), b17⟩⟩, ⟨_, _, _, _, _, _, _, _, _, _, _, (lk_ne (show Y ≠ (Y + 7) by omega) a7), (lk_ne (show Y ≠ (Y + 8) by omega) a8), (lk_ne (show Y ≠ (Y + 9) by omega) a9), (lk_ne (show Y ≠ (Y + 10) by omega) a10), (lk_ne (show Y ≠ (Y + 12) by omega) a12), (lk_ne (show Y ≠ (Y + 13) by omega) a13), (lk_ne (show Y ≠ (Y + 14) by omega) a14), (lk_ne (show Y ≠ (Y + 18) by omega) a18), (lk_ne (show Y ≠ (Y + 19) by omega) a19), (lk_ne (show Y ≠ (Y + 20) by omega) a20), (lk_ne (show Y ≠ (Y + 21) by omega) a21)⟩, ⟨_, _, (lk_ne (show Y ≠ (Y + 15) by omega) a15), (lk_ne (show Y ≠ (Y + 16) by omega) a16), b15⟩⟩
      have hFr : FR (modS Y) w wr := by rw [ewr]; exact (FR.st (c' := .inr (11, .int (nI 0) :: .int st :: .ref (Y + 1) :: .ref (Y + 2) :: .ref (Y + 3) :: .ref (Y + 4) :: .int (nI pn) :: .ref (Y + 5) :: .ref (Y + 6) :: .ref (Y + 7) :: .int dg :: .ref (Y + 8) :: .int dd :: .ref (Y + 9) :: .ref (Y + 10) :: .ref (Y + 11) :: .ref (Y + 12) :: .int ld :: .int be :: .int ib :: .ref (Y + 13) :: .ref (Y + 14) :: .ref (Y + 15) :: .ref (Y + 16) :: .ref (Y + 17) :: .int (nI tl) :: .int fa :: .int re :: .int ig :: .ref (Y + 18) :: .ref (Y + 19) :: .ref (Y + 20) :: .ref (Y + 21) :: [])) FR.rf hY rfl (by unfold modS; omega))
      refine g_callV (pc := 17) [.int (-1)] dX12_back_17 cv_X12_96.1 cv_X12_96.2.1 cv_X12_96.2.2.1 cv_X12_96.2.2.2 (by rw [ewr]; exact (lk_eq hY)) rfl rfl (Nat.le_of_ble_eq_true rfl) (by decide) (by decide) (mq_refuse1 _ hMr) ?_
      rintro _ wq ⟨rfl, hR⟩
      exact g_iret (pc := 20) dX12_back_20 (Or.inl ⟨hi, ⟨rfl, hR.1, hFr.tr hR.2⟩⟩)
