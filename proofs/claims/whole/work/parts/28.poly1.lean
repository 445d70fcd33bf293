/-! Poly: making one, its highest power, whether it can be in STORE, writing it into a row -/
theorem set_new' {W : Wd} {c c' : Ce} {L : Nat} (h : W.length = L) : (W ++ [c]).set L c' = W ++ [c'] := by
  subst h
  exact set_new
theorem lk_new' {W : Wd} {c : Ce} {L : Nat} (h : W.length = L) : (W ++ [c])[L]? = some c := by
  subst h
  exact lk_new
def toJ (f : Nat → Int32) : Nat → Int := fun t => (f t).toInt
abbrev oP (n b : Nat) : Ce := .inr (6, [.int (nI n), .ref b])
theorem upd_s {f : Nat → Int32} {k : Nat} {x : Int32} : upd f k x k = x := if_pos rfl
theorem upd_n {f : Nat → Int32} {k j : Nat} {x : Int32} (h : j ≠ k) : upd f k x j = f j := if_neg h
abbrev BX6_init (w0 : Wd) (Post : Option Value → Wd → Prop) (w : Wd) (pc : Nat) (ls : List (Nat × Value)) (st : List Value) : Prop := GP "<init>" RX6 cX6_init 4 none 1 39 none w0 Post w pc ls st
abbrev EX6_init (As : List Value) (w : Wd) (Post : Option Value → Wd → Prop) : Prop := EP yX6_init cX6_init 4 none 1 As w Post
theorem pi_loop {w0 w : Wd} {Post : Option Value → Wd → Prop} {o b q K n : Nat} {g : Nat → Int64} {f0 : Nat → Int32} (ho : w[o]? = some (oP n b)) (hq : w[q]? = some (aL K g)) (hb : w[b]? = some (aI 0 (n + 1) f0)) (hbo : b ≠ o) (hbq : b ≠ q) (hK : K < 2147483648) (hn : n < K) (hr : ∀ j, j ≤ n → -2147483648 ≤ (g j).toInt ∧ (g j).toInt < 2147483648) (hx : ∀ f, (∀ j, j ≤ n → (f j).toInt = (g j).toInt) → Post none (w.set b (aI 0 (n + 1) f))) : ∀ (k i : Nat) (cur : Nat → Int32), n + 1 = i + k → (∀ j, j < i → (cur j).toInt = (g j).toInt) → BX6_init w0 Post (w.set b (aI 0 (n + 1) cur)) 39 [(3, .int (nI i)), (0, .ref o), (1, .ref q), (2, .int (nI n))] [] := by
  intro k
  induction k with
  | zero =>
    intro i cur hi h
    refine g_iload_n (pc := 39) 0 dX6_init_39 rfl rfl ?_
    refine g_aload_n (pc := 40) 1 dX6_init_40 rfl rfl ?_
    refine g_get (pc := 41) dX6_init_41 fk_X6_18 (lk_ne hbo ho) rfl ?_
    refine n_icmp_gt (pc := 44) 69 dX6_init_44 (by decide) (by omega) (by omega) (fun hz => ?_) (fun hz => ?_)
    · exact g_vret (pc := 69) dX6_init_69 (hx cur (fun j hj => h j (by omega)))
    · exact absurd hz (by omega)
  | succ k ih =>
    intro i cur hi h
    refine g_iload_n (pc := 39) 0 dX6_init_39 rfl rfl ?_
    refine g_aload_n (pc := 40) 1 dX6_init_40 rfl rfl ?_
    refine g_get (pc := 41) dX6_init_41 fk_X6_18 (lk_ne hbo ho) rfl ?_
    refine n_icmp_gt (pc := 44) 69 dX6_init_44 (by decide) (by omega) (by omega) (fun hz => ?_) (fun hz => ?_)
    · exact absurd hz (by omega)
    · refine g_iload_n (pc := 47) 0 dX6_init_47 rfl rfl ?_
      refine g_aload_n (pc := 48) 2 dX6_init_48 rfl rfl ?_
      refine g_alen (pc := 49) dX6_init_49 (lk_ne hbq hq) (by decide) ?_
      refine n_icmp_ge (pc := 50) 69 dX6_init_50 (by decide) (by omega) (by omega) (fun hz2 => ?_) (fun hz2 => ?_)
      · exact absurd hz2 (by omega)
      · refine g_aload_n (pc := 53) 1 dX6_init_53 rfl rfl ?_
        refine g_get (pc := 54) dX6_init_54 fk_X6_24 (lk_ne hbo ho) rfl ?_
        refine g_iload_n (pc := 57) 0 dX6_init_57 rfl rfl ?_
        refine g_aload_n (pc := 58) 2 dX6_init_58 rfl rfl ?_
        refine g_iload_n (pc := 59) 0 dX6_init_59 rfl rfl ?_
        refine g_lald (pc := 60) i dX6_init_60 (lk_ne hbq hq) (IXn (by omega) (by omega)) ?_
        refine g_l2i (pc := 61) dX6_init_61 ?_
        refine g_iast (pc := 62) i dX6_init_62 (lk_eq hb) (IXn (by omega) (by omega)) ?_
        refine GP.weq (w.set b (aI 0 (n + 1) (upd cur i ((g i).toInt32)))) (by rw [List.set_set]) ?_
        refine n_iinc (pc := 63) (c := 1) [(3, .int (nI (i + 1))), (0, .ref o), (1, .ref q), (2, .int (nI n))] 0 dX6_init_63 rfl (by decide) (by decide) rfl ?_
        refine g_goto (pc := 66) 39 dX6_init_66 (by decide) ?_
        refine GP.lsub _ (by simp) (ih (i + 1) _ (by omega) (fun j hj => ?_))
        by_cases hji : j = i
        · subst hji; rw [upd_s]; exact LI (hr j (by omega)).1 (hr j (by omega)).2
        · rw [upd_n hji]; exact h j (by omega)
theorem sp_newPoly (w : Wd) {o q K n : Nat} {g : Nat → Int64} (ho : w[o]? = some (.inr (6, [.int 0, .null]))) (hq : w[q]? = some (aL K g)) (hoq : o ≠ q) (hK : K < 2147483648) (hn : n < K) (hn2 : n ≤ 12) (hr : ∀ j, j ≤ n → -2147483648 ≤ (g j).toInt ∧ (g j).toInt < 2147483648) : EX6_init [.ref o, .ref q, .int (nI n)] w (fun r w' => r = none ∧ ∃ f, (∀ j, j ≤ n → (f j).toInt = (g j).toInt) ∧ w' = w.set o (oP n w.length) ++ [aI 0 (n + 1) f]) := by
  refine EP.of (plainFor_of_name (by decide)) [(0, .ref o), (1, .ref q), (2, .int (nI n))] rfl (Nat.le_of_ble_eq_true rfl) (fun r wf h => by obtain ⟨rfl, -⟩ := h; trivial) ?_
  show BX6_init w _ w 0 [(0, .ref o), (1, .ref q), (2, .int (nI n))] []
  refine g_aload_n (pc := 0) 0 dX6_init_0 rfl rfl ?_
  refine g_oinit (pc := 1) dX6_init_1 ol_X6_3 oi_in oi_co (by decide) (Nat.le_of_ble_eq_true rfl) (by decide) ?_
  refine g_aload_n (pc := 4) 0 dX6_init_4 rfl rfl ?_
  refine g_iconst (pc := 5) (v := nI 0) dX6_init_5 (by decide) ?_
  refine g_iload_n (pc := 6) 2 dX6_init_6 rfl rfl ?_
  refine g_aload_n (pc := 7) 1 dX6_init_7 rfl rfl ?_
  refine g_alen (pc := 8) dX6_init_8 hq (by decide) ?_
  refine g_iconst (pc := 9) (v := nI 1) dX6_init_9 (by decide) ?_
  refine n_isub (pc := 10) dX6_init_10 (by omega) ?_
  refine g_bipush (pc := 11) (v := nI 12) dX6_init_11 (by decide) ?_
  refine g_callS (pc := 13) [.int (nI (K - 1)), .int (nI 12)] dX6_init_13 cs_X6_9.1 cs_X6_9.2 rfl rfl (Nat.le_of_ble_eq_true rfl) (by decide) (by decide) (sp_minI _ (nI (K - 1)) (nI 12)) ?_
  rintro _ w9 ⟨rfl, e9⟩
  refine GP.weq _ e9 ?_
  refine GP.ti (nI (min (K - 1) 12)) (minN (by omega) (by omega)) ?_
  refine g_callS (pc := 16) [.int (nI n), .int (nI (min (K - 1) 12))] dX6_init_16 cs_X6_9.1 cs_X6_9.2 rfl rfl (Nat.le_of_ble_eq_true rfl) (by decide) (by decide) (sp_minI _ (nI n) (nI (min (K - 1) 12))) ?_
  rintro _ w9 ⟨rfl, e9⟩
  refine GP.weq _ e9 ?_
  refine GP.ti (nI n) (by rw [minN (by omega) (by omega)]; congr 1; omega) ?_
  refine g_callS (pc := 19) [.int (nI 0), .int (nI n)] dX6_init_19 cs_X6_15.1 cs_X6_15.2 rfl rfl (Nat.le_of_ble_eq_true rfl) (by decide) (by decide) (sp_maxI _ (nI 0) (nI n)) ?_
  rintro _ w9 ⟨rfl, e9⟩
  refine GP.weq _ e9 ?_
  refine GP.ti (nI n) (by rw [maxN (by omega) (by omega), Nat.zero_max]) ?_
  refine g_putF (pc := 22) [.int (nI n), .null] dX6_init_22 fk_X6_18 (fun _ _ _ h => by cases h; rfl) rfl ho (Nat.le_of_ble_eq_true rfl) rfl rfl ?_
  refine g_aload_n (pc := 25) 0 dX6_init_25 rfl rfl ?_
  refine g_aload_n (pc := 26) 0 dX6_init_26 rfl rfl ?_
  refine g_get (pc := 27) dX6_init_27 fk_X6_18 (lk_eq ho) rfl ?_
  refine g_iconst (pc := 30) (v := nI 1) dX6_init_30 (by decide) ?_
  refine n_iadd (pc := 31) dX6_init_31 ?_
  refine g_newaI (pc := 32) (n + 1) dX6_init_32 acI (nI_toInt (by omega)) (by omega) ?_
  refine GP.tr w.length (by rw [List.length_set]) ?_
  obtain ⟨w2, hw2⟩ : ∃ w2 : Wd, w2 = (w.set o (.inr (6, [.int (nI n), .null]))) ++ [aI 0 (n + 1) (fun _ => 0)] := ⟨_, rfl⟩
  rw [← hw2]
  have ho2 : w2[o]? = some (.inr (6, [.int (nI n), .null])) := by rw [hw2]; exact lk_app (lk_eq ho)
  have hq2 : w2[q]? = some (aL K g) := by rw [hw2]; exact lk_app (lk_ne hoq hq)
  have hb2 : w2[w.length]? = some (aI 0 (n + 1) (fun _ => 0)) := by rw [hw2]; exact lk_new' (by rw [List.length_set])
  have hbo : w.length ≠ o := new_ne ho
  have hbq : w.length ≠ q := new_ne hq
  refine g_putF (pc := 34) [.int (nI n), .ref w.length] dX6_init_34 fk_X6_24 (fun _ _ _ h => by cases h; rfl) rfl ho2 (Nat.le_of_ble_eq_true rfl) rfl rfl ?_
  refine g_iconst (pc := 37) (v := nI 0) dX6_init_37 (by decide) ?_
  refine g_istore_n (pc := 38) [(3, .int (nI 0)), (0, .ref o), (1, .ref q), (2, .int (nI n))] dX6_init_38 rfl (by decide) rfl ?_
  refine GP.weq ((w2.set o (oP n w.length)).set w.length (aI 0 (n + 1) (fun _ => 0))) (by rw [set_same (lk_ne (Ne.symm hbo) hb2)]) ?_
  refine GP.lsub _ (by simp) (pi_loop (lk_eq ho2) (lk_ne hoq hq2) (lk_ne (Ne.symm hbo) hb2) hbo hbq hK hn hr (fun f hf => ⟨rfl, f, hf, ?_⟩) (n + 1) 0 (fun _ => 0) (by omega) (fun j hj => absurd hj (by omega)))
  rw [hw2, set_app (lk_eq ho), List.set_set, set_new' (by rw [List.length_set])]
abbrev BX6_topOf (w0 : Wd) (Post : Option Value → Wd → Prop) (w : Wd) (pc : Nat) (ls : List (Nat × Value)) (st : List Value) : Prop := GP "topOf" RX6 cX6_topOf 2 (some .int) 0 0 none w0 Post w pc ls st
abbrev EX6_topOf (As : List Value) (w : Wd) (Post : Option Value → Wd → Prop) : Prop := EP yX6_topOf cX6_topOf 2 (some .int) 0 As w Post
theorem to_loop {w0 w : Wd} {q K : Nat} {g : Nat → Int64} (hq : w[q]? = some (aL K g)) (hK : K < 2147483648) : ∀ c : Nat, c ≤ K → (∀ j, c ≤ j → j < K → g j = 0) → BX6_topOf w0 (fun r w' => ∃ c, r = some (.int (nI c - 1)) ∧ c ≤ K ∧ (∀ j, c ≤ j → j < K → g j = 0) ∧ (c = 0 ∨ g (c - 1) ≠ 0) ∧ w' = w) w 5 [(1, .int (nI c - 1)), (0, .ref q)] [] := by
  intro c
  induction c with
  | zero =>
    intro hc h
    rw [nI_dec0]
    refine g_iload_n (pc := 5) 0 dX6_topOf_5 rfl rfl ?_
    refine g_if_lt (pc := 6) 23 dX6_topOf_6 (by decide) (fun hz => ?_) (fun hz => ?_)
    · refine g_iload_n (pc := 23) 0 dX6_topOf_23 rfl rfl ?_
      exact g_iret (pc := 24) dX6_topOf_24 ⟨0, by rw [nI_dec0], by omega, h, Or.inl rfl, rfl⟩
    · exact absurd (by decide) hz
  | succ c ih =>
    intro hc h
    rw [nI_pred]
    refine g_iload_n (pc := 5) 0 dX6_topOf_5 rfl rfl ?_
    refine n_if_lt (pc := 6) 23 dX6_topOf_6 (by decide) (by omega) ?_
    refine g_aload_n (pc := 9) 1 dX6_topOf_9 rfl rfl ?_
    refine g_iload_n (pc := 10) 0 dX6_topOf_10 rfl rfl ?_
    refine g_lald (pc := 11) c dX6_topOf_11 hq (IXn (by omega) (by omega)) ?_
    refine g_lconst (pc := 12) (v := 0) dX6_topOf_12 (by decide) ?_
    refine g_lcmp_ne (pc := 13) 23 dX6_topOf_13 dX6_topOf_14 (by decide) (fun hz => ?_) (fun hz => ?_)
    · refine g_iload_n (pc := 23) 0 dX6_topOf_23 rfl rfl ?_
      exact g_iret (pc := 24) dX6_topOf_24 ⟨c + 1, by rw [nI_pred], hc, h, Or.inr hz, rfl⟩
    · refine g_iinc (pc := 17) [(1, .int (nI c - 1)), (0, .ref q)] 0 dX6_topOf_17 rfl (dec1 _) (by decide) rfl ?_
      refine g_goto (pc := 20) 5 dX6_topOf_20 (by decide) ?_
      refine GP.lsub _ (by simp) (ih (by omega) (fun j h1 h2 => ?_))
      by_cases hj : j = c
      · rw [hj]; exact Classical.not_not.mp hz
      · exact h j (by omega) h2
theorem sp_topOf (w : Wd) {q K : Nat} {g : Nat → Int64} (hq : w[q]? = some (aL K g)) (hK : K < 2147483648) : EX6_topOf [.ref q] w (fun r w' => ∃ c, r = some (.int (nI c - 1)) ∧ c ≤ K ∧ (∀ j, c ≤ j → j < K → g j = 0) ∧ (c = 0 ∨ g (c - 1) ≠ 0) ∧ w' = w) := by
  refine EP.of (plainFor_of_name (by decide)) [(0, .ref q)] rfl (Nat.le_of_ble_eq_true rfl) (fun r wf h => by obtain ⟨c, rfl, -⟩ := h; trivial) ?_
  show BX6_topOf w _ w 0 [(0, .ref q)] []
  refine g_aload_n (pc := 0) 0 dX6_topOf_0 rfl rfl ?_
  refine g_alen (pc := 1) dX6_topOf_1 hq (by decide) ?_
  refine g_iconst (pc := 2) (v := nI 1) dX6_topOf_2 (by decide) ?_
  refine g_isub (pc := 3) dX6_topOf_3 ?_
  refine g_istore_n (pc := 4) [(1, .int ((nI K) - (nI 1))), (0, .ref q)] dX6_topOf_4 rfl (by decide) rfl ?_
  exact GP.lsub _ (by simp; rfl) (to_loop hq hK K (Nat.le_refl _) (fun j h1 h2 => absurd h2 (by omega)))
abbrev BX6_canBeInStore (w0 : Wd) (Post : Option Value → Wd → Prop) (w : Wd) (pc : Nat) (ls : List (Nat × Value)) (st : List Value) : Prop := GP "canBeInStore" RX6 cX6_canBeInStore 3 (some .boolean) 0 0 none w0 Post w pc ls st
abbrev EX6_canBeInStore (As : List Value) (w : Wd) (Post : Option Value → Wd → Prop) : Prop := EP yX6_canBeInStore cX6_canBeInStore 3 (some .boolean) 0 As w Post
/-- can be in STORE: c places, the last one's power c - 1 -/
def fitS (g : Nat → Int64) (c : Nat) : Prop := 1 ≤ c ∧ c ≤ 13 ∧ ∀ j, j < c → -9999 ≤ (g j).toInt ∧ (g j).toInt ≤ 9999
theorem k9 : (9999 : Int64).toInt = 9999 := by decide
theorem k9' : (-9999 : Int64).toInt = -9999 := by decide
theorem cs_loop {w0 w : Wd} {q K d : Nat} {g : Nat → Int64} (hq : w[q]? = some (aL K g)) (hK : K < 2147483648) (hd : d < K) (hd2 : d ≤ 12) : ∀ (k i : Nat), d + 1 = i + k → (∀ j, j < i → -9999 ≤ (g j).toInt ∧ (g j).toInt ≤ 9999) → BX6_canBeInStore w0 (fun r w' => (r = some (.int (nI 1)) ∧ fitS g (d + 1) ∧ w' = w) ∨ (r = some (.int (nI 0)) ∧ ¬ fitS g (d + 1) ∧ w' = w)) w 20 [(2, .int (nI i)), (0, .ref q), (1, .int (nI d))] [] := by
  intro k
  induction k with
  | zero =>
    intro i hi h
    refine g_iload_n (pc := 20) 0 dX6_canBeInStore_20 rfl rfl ?_
    refine g_iload_n (pc := 21) 2 dX6_canBeInStore_21 rfl rfl ?_
    refine n_icmp_gt (pc := 22) 53 dX6_canBeInStore_22 (by decide) (by omega) (by omega) (fun hz => ?_) (fun hz => ?_)
    · refine g_iconst (pc := 53) (v := nI 1) dX6_canBeInStore_53 (by decide) ?_
      exact g_iret (pc := 54) dX6_canBeInStore_54 (Or.inl ⟨rfl, ⟨by omega, by omega, fun j hj => h j (by omega)⟩, rfl⟩)
    · exact absurd hz (by omega)
  | succ k ih =>
    intro i hi h
    refine g_iload_n (pc := 20) 0 dX6_canBeInStore_20 rfl rfl ?_
    refine g_iload_n (pc := 21) 2 dX6_canBeInStore_21 rfl rfl ?_
    refine n_icmp_gt (pc := 22) 53 dX6_canBeInStore_22 (by decide) (by omega) (by omega) (fun hz => ?_) (fun hz => ?_)
    · exact absurd hz (by omega)
    · refine g_aload_n (pc := 25) 1 dX6_canBeInStore_25 rfl rfl ?_
      refine g_iload_n (pc := 26) 0 dX6_canBeInStore_26 rfl rfl ?_
      refine g_lald (pc := 27) i dX6_canBeInStore_27 hq (IXn (by omega) (by omega)) ?_
      refine g_ldc2 (pc := 28) kc_X6_28 dX6_canBeInStore_28 ?_
      refine g_lcmp_gt (pc := 31) 45 dX6_canBeInStore_31 dX6_canBeInStore_32 (by decide) (fun hz2 => ?_) (fun hz2 => ?_)
      · refine g_iconst (pc := 45) (v := nI 0) dX6_canBeInStore_45 (by decide) ?_
        exact g_iret (pc := 46) dX6_canBeInStore_46 (Or.inr ⟨rfl, fun g9 => by have a := (g9.2.2 i (by omega)).2; have b := Int64.lt_iff_toInt_lt.mp hz2; rw [k9] at b; omega, rfl⟩)
      · refine g_aload_n (pc := 35) 1 dX6_canBeInStore_35 rfl rfl ?_
        refine g_iload_n (pc := 36) 0 dX6_canBeInStore_36 rfl rfl ?_
        refine g_lald (pc := 37) i dX6_canBeInStore_37 hq (IXn (by omega) (by omega)) ?_
        refine g_ldc2 (pc := 38) kc_X6_30 dX6_canBeInStore_38 ?_
        refine g_lcmp_ge (pc := 41) 47 dX6_canBeInStore_41 dX6_canBeInStore_42 (by decide) (fun hz3 => ?_) (fun hz3 => ?_)
        · refine n_iinc (pc := 47) (c := 1) [(2, .int (nI (i + 1))), (0, .ref q), (1, .int (nI d))] 0 dX6_canBeInStore_47 rfl (by decide) (by decide) rfl ?_
          refine g_goto (pc := 50) 20 dX6_canBeInStore_50 (by decide) ?_
          refine GP.lsub _ (by simp) (ih (i + 1) (by omega) (fun j hj => ?_))
          by_cases hji : j = i
          · subst hji
            have a : ¬ (9999 : Int64).toInt < (g j).toInt := fun q9 => hz2 (Int64.lt_iff_toInt_lt.mpr q9)
            have b := Int64.le_iff_toInt_le.mp hz3
            rw [k9] at a
            rw [k9'] at b
            omega
          · exact h j (by omega)
        · refine g_iconst (pc := 45) (v := nI 0) dX6_canBeInStore_45 (by decide) ?_
          exact g_iret (pc := 46) dX6_canBeInStore_46 (Or.inr ⟨rfl, fun g9 => hz3 (Int64.le_iff_toInt_le.mpr (by rw [k9']; exact (g9.2.2 i (by omega)).1)), rfl⟩)
theorem sp_canBeInStore (w : Wd) {q K c : Nat} {g : Nat → Int64} (hq : w[q]? = some (aL K g)) (hK : K < 2147483648) (hc : c ≤ K) : EX6_canBeInStore [.ref q, .int (nI c - 1)] w (fun r w' => (r = some (.int (nI 1)) ∧ fitS g c ∧ w' = w) ∨ (r = some (.int (nI 0)) ∧ ¬ fitS g c ∧ w' = w)) := by
  refine EP.of (plainFor_of_name (by decide)) [(0, .ref q), (1, .int (nI c - 1))] rfl (Nat.le_of_ble_eq_true rfl) (fun r wf h => by rcases h with ⟨rfl, -⟩ | ⟨rfl, -⟩; exact Or.inr rfl; exact Or.inl rfl) ?_
  show BX6_canBeInStore w _ w 0 [(0, .ref q), (1, .int (nI c - 1))] []
  rcases Nat.eq_zero_or_pos c with h0 | h0
  · subst h0
    rw [nI_dec0]
    refine g_iload_n (pc := 0) 1 dX6_canBeInStore_0 rfl rfl ?_
    refine g_if_lt (pc := 1) 16 dX6_canBeInStore_1 (by decide) (fun hz => ?_) (fun hz => ?_)
    · refine g_iconst (pc := 16) (v := nI 0) dX6_canBeInStore_16 (by decide) ?_
      exact g_iret (pc := 17) dX6_canBeInStore_17 (Or.inr ⟨rfl, fun g9 => absurd g9.1 (by omega), rfl⟩)
    · exact absurd (by decide) hz
  · obtain ⟨d, rfl⟩ : ∃ d, c = d + 1 := ⟨c - 1, by omega⟩
    rw [nI_pred]
    refine g_iload_n (pc := 0) 1 dX6_canBeInStore_0 rfl rfl ?_
    refine n_if_lt (pc := 1) 16 dX6_canBeInStore_1 (by decide) (by omega) ?_
    refine g_iload_n (pc := 4) 1 dX6_canBeInStore_4 rfl rfl ?_
    refine g_bipush (pc := 5) (v := nI 12) dX6_canBeInStore_5 (by decide) ?_
    refine n_icmp_gt (pc := 7) 16 dX6_canBeInStore_7 (by decide) (by omega) (by omega) (fun hz => ?_) (fun hz => ?_)
    · refine g_iconst (pc := 16) (v := nI 0) dX6_canBeInStore_16 (by decide) ?_
      exact g_iret (pc := 17) dX6_canBeInStore_17 (Or.inr ⟨rfl, fun g9 => absurd g9.2.1 (by omega), rfl⟩)
    · refine g_iload_n (pc := 10) 1 dX6_canBeInStore_10 rfl rfl ?_
      refine g_aload_n (pc := 11) 0 dX6_canBeInStore_11 rfl rfl ?_
      refine g_alen (pc := 12) dX6_canBeInStore_12 hq (by decide) ?_
      refine n_icmp_lt (pc := 13) 18 dX6_canBeInStore_13 (by decide) (by omega) (by omega) (fun hz2 => ?_) (fun hz2 => ?_)
      · refine g_iconst (pc := 18) (v := nI 0) dX6_canBeInStore_18 (by decide) ?_
        refine g_istore_n (pc := 19) [(2, .int (nI 0)), (0, .ref q), (1, .int (nI d))] dX6_canBeInStore_19 rfl (by decide) rfl ?_
        exact GP.lsub _ (by simp) (cs_loop hq hK (by omega) (by omega) (d + 1) 0 (by omega) (fun j hj => absurd hj (by omega)))
      · exact absurd hz2 (by omega)
