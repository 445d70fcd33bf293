/-! Gauge: its cells; powerOf -/
def binI : Nat → Nat → Nat
  | _, 0 => 1
  | 0, _ + 1 => 0
  | n + 1, k + 1 => binI n k + binI n (k + 1)
abbrev oG (G : Nat) (bb bl : Int32) : Ce := .inr (2, [.ref (G + 1), .ref (G + 2), .ref (G + 16), .ref (G + 18), .ref (G + 20), .ref (G + 22), .int bb, .int bl])
def thoC (w : Wd) (G : Nat) : Prop := (∃ tf, w[G + 1]? = some (aR 6 8 tf) ∧ ∀ s, s < 8 → tf s = some (G + 24 + 2 * s)) ∧ ∀ s, s < 8 → ∃ N, N < 100 ∧ whV w (G + 24 + 2 * s) N ((1000 ^ (2 ^ s) : Nat) : Int)
def wayC (w : Wd) (G : Nat) : Prop := (∃ yf, w[G + 2]? = some (aR 8 13 yf) ∧ ∀ n, n < 13 → yf n = some (G + 3 + n)) ∧ ∀ n, n < 13 → ∃ y, w[G + 3 + n]? = some (aI 0 13 y) ∧ ∀ i, i ≤ n → y i = nI (binI n i)
def gauC (w : Wd) (G : Nat) (bb bl : Int32) : Prop := w[G]? = some (oG G bb bl) ∧ thoC w G ∧ wayC w G ∧ whC w (G + 16) 8 ∧ whC w (G + 18) 64 ∧ whC w (G + 20) 128 ∧ whC w (G + 22) 128
def gauS (G i : Nat) : Prop := i = G ∨ (G + 16 ≤ i ∧ i ≤ G + 23)
def powS (G i : Nat) : Prop := G + 20 ≤ i ∧ i ≤ G + 23
theorem thoC.fr {S : Nat → Prop} {w w' : Wd} {G : Nat} (h : thoC w G) (hF : FR S w w') (hS : ∀ i, S i → ¬ (G + 1 ≤ i ∧ i ≤ G + 15) ∧ ¬ (G + 24 ≤ i ∧ i ≤ G + 39)) : thoC w' G := by
  obtain ⟨⟨tf, h1, h2⟩, h3⟩ := h
  refine ⟨⟨tf, hF.lk (fun g => (hS _ g).1 ⟨by omega, by omega⟩) h1, h2⟩, fun s hs => ?_⟩
  obtain ⟨N, hN, hV⟩ := h3 s hs
  exact ⟨N, hN, hV.fr hF (fun g => (hS _ g).2 ⟨by omega, by omega⟩) (fun g => (hS _ g).2 ⟨by omega, by omega⟩)⟩
theorem wayC.fr {S : Nat → Prop} {w w' : Wd} {G : Nat} (h : wayC w G) (hF : FR S w w') (hS : ∀ i, S i → ¬ (G + 1 ≤ i ∧ i ≤ G + 15) ∧ ¬ (G + 24 ≤ i ∧ i ≤ G + 39)) : wayC w' G := by
  obtain ⟨⟨tf, h1, h2⟩, h3⟩ := h
  refine ⟨⟨tf, hF.lk (fun g => (hS _ g).1 ⟨by omega, by omega⟩) h1, h2⟩, fun s hs => ?_⟩
  obtain ⟨y, hy, hV⟩ := h3 s hs
  exact ⟨y, hF.lk (fun g => (hS _ g).1 ⟨by omega, by omega⟩) hy, hV⟩
theorem nlt_ipow {a k : Nat} (h : a < 268435456 ^ k) : (a : Int) < 268435456 ^ k := by
  have e : ((268435456 ^ k : Nat) : Int) = 268435456 ^ k := by rw [Int.natCast_pow]; rfl
  rw [← e]
  exact Int.ofNat_lt.mpr h
theorem pow_sq (x i : Nat) : ((x ^ (2 ^ i) : Nat) : Int) * ((x ^ (2 ^ i) : Nat) : Int) = ((x ^ (2 ^ (i + 1)) : Nat) : Int) := by
  rw [← Int.natCast_mul, ← Nat.pow_add, Nat.pow_succ, Nat.mul_two]
abbrev BX2_powerOf (w0 : Wd) (Post : Option Value → Wd → Prop) (w : Wd) (pc : Nat) (ls : List (Nat × Value)) (st : List Value) : Prop := GP "powerOf" RX2 cX2_powerOf 7 (some (.object "MahlerBox$Whole")) 3 117 none w0 Post w pc ls st
abbrev EX2_powerOf (As : List Value) (w : Wd) (Post : Option Value → Wd → Prop) : Prop := EP yX2_powerOf cX2_powerOf 7 (some (.object "MahlerBox$Whole")) 3 As w Post
theorem pw_loop {w0 w : Wd} {G x s : Nat} (hx : x < 268435456) (hs : s ≤ 7) : ∀ (z i a b : Nat) (w1 : Wd), s = i + z → ((a = G + 20 ∧ b = G + 22) ∨ (a = G + 22 ∧ b = G + 20)) → whV w1 a 128 ((x ^ (2 ^ i) : Nat) : Int) → whC w1 b 128 → FR (powS G) w w1 → BX2_powerOf w0 (fun r w' => ∃ q, r = some (.ref q) ∧ (q = G + 20 ∨ q = G + 22) ∧ whV w' q 128 ((x ^ (2 ^ s) : Nat) : Int) ∧ whC w' (G + 20) 128 ∧ whC w' (G + 22) 128 ∧ FR (powS G) w w') w1 19 [(5, .int (nI i)), (4, .ref b), (3, .ref a), (0, .ref G), (1, .int (nI x)), (2, .int (nI s))] [] := by
  intro z
  induction z with
  | zero =>
    intro i a b w1 hi hab hV hC hF
    refine g_iload (pc := 19) 0 dX2_powerOf_19 rfl ?_
    refine g_iload_n (pc := 21) 5 dX2_powerOf_21 rfl rfl ?_
    refine n_icmp_ge (pc := 22) 47 dX2_powerOf_22 (by decide) (by omega) (by omega) (fun hb => ?_) (fun hb => ?_)
    · refine g_aload_n (pc := 47) 2 dX2_powerOf_47 rfl rfl ?_
      exact g_aret (pc := 48) dX2_powerOf_48 ⟨a, rfl, hab.elim (fun e => Or.inl e.1) (fun e => Or.inr e.1), by rw [show s = i by omega]; exact hV, by rcases hab with ⟨e1, e2⟩ | ⟨e1, e2⟩; · { rw [← e1]; exact hV.c }; · { rw [← e2]; exact hC }, by rcases hab with ⟨e1, e2⟩ | ⟨e1, e2⟩; · { rw [← e2]; exact hC }; · { rw [← e1]; exact hV.c }, hF⟩
    · exact absurd hb (by omega)
  | succ z ih =>
    intro i a b w1 hi hab hV hC hF
    have hk : 2 ^ i ≤ 2 ^ 6 := Nat.pow_le_pow_right (by decide) (by omega)
    have hlt : x ^ (2 ^ i) < 268435456 ^ (2 ^ i) := Nat.pow_lt_pow_left hx (Nat.ne_of_gt (Nat.two_pow_pos i))
    obtain ⟨nb, db, hb1, hb2⟩ := id hC
    refine g_iload (pc := 19) 0 dX2_powerOf_19 rfl ?_
    refine g_iload_n (pc := 21) 5 dX2_powerOf_21 rfl rfl ?_
    refine n_icmp_ge (pc := 22) 47 dX2_powerOf_22 (by decide) (by omega) (by omega) (fun hb => ?_) (fun hb => ?_)
    · exact absurd hb (by omega)
    · refine g_aload (pc := 25) 1 dX2_powerOf_25 rfl ?_
      refine g_aload_n (pc := 27) 2 dX2_powerOf_27 rfl rfl ?_
      refine g_callV (pc := 28) [.ref a] dX2_powerOf_28 cv_X2_51.1 cv_X2_51.2.1 cv_X2_51.2.2.1 cv_X2_51.2.2.2 hb1 rfl rfl (Nat.le_of_ble_eq_true rfl) (by decide) (by decide) (wh_square _ hC hV (by omega) (by decide) (by decide) (nlt_ipow hlt) (by omega) (by omega)) ?_
      rintro _ w2 ⟨rfl, hV2, hF2⟩
      refine g_aload_n (pc := 31) 2 dX2_powerOf_31 rfl rfl ?_
      refine g_astore (pc := 32) [(6, .ref a), (5, .int (nI i)), (4, .ref b), (3, .ref a), (0, .ref G), (1, .int (nI x)), (2, .int (nI s))] dX2_powerOf_32 (by decide) rfl ?_
      refine g_aload (pc := 34) 2 dX2_powerOf_34 rfl ?_
      refine g_astore_n (pc := 36) [(3, .ref b), (6, .ref a), (5, .int (nI i)), (4, .ref b), (0, .ref G), (1, .int (nI x)), (2, .int (nI s))] dX2_powerOf_36 rfl (by decide) rfl ?_
      refine g_aload (pc := 37) 1 dX2_powerOf_37 rfl ?_
      refine g_astore (pc := 39) [(4, .ref a), (3, .ref b), (6, .ref a), (5, .int (nI i)), (0, .ref G), (1, .int (nI x)), (2, .int (nI s))] dX2_powerOf_39 (by decide) rfl ?_
      refine n_iinc (pc := 41) (c := 1) [(5, .int (nI (i + 1))), (4, .ref a), (3, .ref b), (6, .ref a), (0, .ref G), (1, .int (nI x)), (2, .int (nI s))] 3 dX2_powerOf_41 rfl (by decide) (by decide) rfl ?_
      refine g_goto (pc := 44) 19 dX2_powerOf_44 (by decide) ?_
      rw [pow_sq] at hV2
      refine GP.lsub _ (by simp) (ih (i + 1) b a w2 (by omega) (by omega) hV2 ((hV.fr hF2 (by unfold wS; omega) (by unfold wS; omega)).c) (hF.tr (hF2.mono (fun j hj => ?_))))
      unfold wS at hj
      unfold powS
      omega
theorem sp_powerOf (w : Wd) {G x s : Nat} {bb bl : Int32} (hG : gauC w G bb bl) (hx : x < 268435456) (hs : s ≤ 7) : EX2_powerOf [.ref G, .int (nI x), .int (nI s)] w (fun r w' => ∃ q, r = some (.ref q) ∧ (q = G + 20 ∨ q = G + 22) ∧ whV w' q 128 ((x ^ (2 ^ s) : Nat) : Int) ∧ whC w' (G + 20) 128 ∧ whC w' (G + 22) 128 ∧ FR (powS G) w w') := by
  refine EP.of (plainFor_of_name (by decide)) [(0, .ref G), (1, .int (nI x)), (2, .int (nI s))] rfl (Nat.le_of_ble_eq_true rfl) (fun r wf h => by obtain ⟨q, rfl, -⟩ := h; trivial) ?_
  show BX2_powerOf w _ w 0 [(0, .ref G), (1, .int (nI x)), (2, .int (nI s))] []
  obtain ⟨hg, -, -, -, -, h20, h22⟩ := hG
  obtain ⟨nb, db, hb1, hb2⟩ := id h20
  refine g_aload_n (pc := 0) 0 dX2_powerOf_0 rfl rfl ?_
  refine g_get (pc := 1) dX2_powerOf_1 fk_X2_32 hg rfl ?_
  refine g_astore_n (pc := 4) [(3, .ref (G + 20)), (0, .ref G), (1, .int (nI x)), (2, .int (nI s))] dX2_powerOf_4 rfl (by decide) rfl ?_
  refine g_aload_n (pc := 5) 1 dX2_powerOf_5 rfl rfl ?_
  refine g_get (pc := 6) dX2_powerOf_6 fk_X2_35 hg rfl ?_
  refine g_astore (pc := 9) [(4, .ref (G + 22)), (3, .ref (G + 20)), (0, .ref G), (1, .int (nI x)), (2, .int (nI s))] dX2_powerOf_9 (by decide) rfl ?_
  refine g_aload_n (pc := 11) 1 dX2_powerOf_11 rfl rfl ?_
  refine g_iload_n (pc := 12) 3 dX2_powerOf_12 rfl rfl ?_
  refine g_callV (pc := 13) [.int (nI x)] dX2_powerOf_13 cv_X2_45.1 cv_X2_45.2.1 cv_X2_45.2.2.1 cv_X2_45.2.2.2 hb1 rfl rfl (Nat.le_of_ble_eq_true rfl) (by decide) (by decide) (wh_small _ h20 (by decide) (by decide) hx) ?_
  rintro _ w2 ⟨rfl, hV2, hF2⟩
  refine g_iconst (pc := 16) (v := nI 0) dX2_powerOf_16 (by decide) ?_
  refine g_istore (pc := 17) [(5, .int (nI 0)), (4, .ref (G + 22)), (3, .ref (G + 20)), (0, .ref G), (1, .int (nI x)), (2, .int (nI s))] dX2_powerOf_17 (by decide) rfl ?_
  refine GP.lsub _ (by simp) (pw_loop hx hs s 0 (G + 20) (G + 22) w2 (by omega) (Or.inl ⟨rfl, rfl⟩) (by rw [show x ^ 2 ^ 0 = x by simp]; exact hV2) (h22.fr hF2 (by unfold wS; omega) (by unfold wS; omega)) (hF2.mono (fun j hj => ?_)))
  unfold wS at hj
  unfold powS
  omega
