/-! Poly: writeTo, writeProduct, ofPower -/
theorem fill0 {g : Nat → Int64} {K j : Nat} (h : j < K) : (fillF g 0 K 0 j).toInt = 0 := by
  simp only [fillF]
  rw [if_pos (by omega)]
  decide
abbrev BX6_writeTo (w0 : Wd) (Post : Option Value → Wd → Prop) (w : Wd) (pc : Nat) (ls : List (Nat × Value)) (st : List Value) : Prop := GP "writeTo" RX6 cX6_writeTo 3 none 1 39 none w0 Post w pc ls st
abbrev EX6_writeTo (As : List Value) (w : Wd) (Post : Option Value → Wd → Prop) : Prop := EP yX6_writeTo cX6_writeTo 3 none 1 As w Post
theorem wt_loop {w0 w : Wd} {Post : Option Value → Wd → Prop} {o b n q K : Nat} {f : Nat → Int32} {g : Nat → Int64} (ho : w[o]? = some (oP n b)) (hb : w[b]? = some (aI 0 (n + 1) f)) (hq : w[q]? = some (aL K g)) (hqo : q ≠ o) (hqb : q ≠ b) (hK : K < 2147483648) (hn : n < K) (hx : ∀ cur : Nat → Int64, (∀ j, j < K → (cur j).toInt = if j ≤ n then (f j).toInt else 0) → Post none (w.set q (aL K cur))) : ∀ (k i : Nat) (cur : Nat → Int64), n + 1 = i + k → (∀ j, j < K → (cur j).toInt = if j < i then (f j).toInt else 0) → BX6_writeTo w0 Post (w.set q (aL K cur)) 7 [(2, .int (nI i)), (0, .ref o), (1, .ref q)] [] := by
  intro k
  induction k with
  | zero =>
    intro i cur hi h
    refine g_iload_n (pc := 7) 0 dX6_writeTo_7 rfl rfl ?_
    refine g_aload_n (pc := 8) 1 dX6_writeTo_8 rfl rfl ?_
    refine g_get (pc := 9) dX6_writeTo_9 fk_X6_18 (lk_ne hqo ho) rfl ?_
    refine n_icmp_gt (pc := 12) 37 dX6_writeTo_12 (by decide) (by omega) (by omega) (fun hz => ?_) (fun hz => ?_)
    · exact g_vret (pc := 37) dX6_writeTo_37 (hx cur (fun j hj => by rw [h j hj]; by_cases hjn : j ≤ n; rw [if_pos hjn, if_pos (by omega)]; rw [if_neg hjn, if_neg (by omega)]))
    · exact absurd hz (by omega)
  | succ k ih =>
    intro i cur hi h
    refine g_iload_n (pc := 7) 0 dX6_writeTo_7 rfl rfl ?_
    refine g_aload_n (pc := 8) 1 dX6_writeTo_8 rfl rfl ?_
    refine g_get (pc := 9) dX6_writeTo_9 fk_X6_18 (lk_ne hqo ho) rfl ?_
    refine n_icmp_gt (pc := 12) 37 dX6_writeTo_12 (by decide) (by omega) (by omega) (fun hz => ?_) (fun hz => ?_)
    · exact absurd hz (by omega)
    · refine g_iload_n (pc := 15) 0 dX6_writeTo_15 rfl rfl ?_
      refine g_aload_n (pc := 16) 2 dX6_writeTo_16 rfl rfl ?_
      refine g_alen (pc := 17) dX6_writeTo_17 (lk_eq hq) (by decide) ?_
      refine n_icmp_ge (pc := 18) 37 dX6_writeTo_18 (by decide) (by omega) (by omega) (fun hz2 => ?_) (fun hz2 => ?_)
      · exact absurd hz2 (by omega)
      · refine g_aload_n (pc := 21) 2 dX6_writeTo_21 rfl rfl ?_
        refine g_iload_n (pc := 22) 0 dX6_writeTo_22 rfl rfl ?_
        refine g_aload_n (pc := 23) 1 dX6_writeTo_23 rfl rfl ?_
        refine g_get (pc := 24) dX6_writeTo_24 fk_X6_24 (lk_ne hqo ho) rfl ?_
        refine g_iload_n (pc := 27) 0 dX6_writeTo_27 rfl rfl ?_
        refine g_iald (pc := 28) i dX6_writeTo_28 (lk_ne hqb hb) (IXn (by omega) (by omega)) ?_
        refine g_i2l (pc := 29) dX6_writeTo_29 ?_
        refine g_last (pc := 30) i dX6_writeTo_30 (lk_eq hq) (IXn (by omega) (by omega)) ?_
        refine GP.weq (w.set q (aL K (vp_updL cur i ((f i).toInt64)))) (by rw [List.set_set]) ?_
        refine n_iinc (pc := 31) (c := 1) [(2, .int (nI (i + 1))), (0, .ref o), (1, .ref q)] 0 dX6_writeTo_31 rfl (by decide) (by decide) rfl ?_
        refine g_goto (pc := 34) 7 dX6_writeTo_34 (by decide) ?_
        refine GP.lsub _ (by simp) (ih (i + 1) _ (by omega) (fun j hj => ?_))
        by_cases hji : j = i
        · subst hji; rw [upL_s, if_pos (by omega), IL]
        · rw [upL_n hji, h j hj]
          by_cases hlt : j < i
          · rw [if_pos hlt, if_pos (by omega)]
          · rw [if_neg hlt, if_neg (by omega)]
theorem sp_writeTo (w : Wd) {o b n q K : Nat} {f : Nat → Int32} {g : Nat → Int64} (ho : w[o]? = some (oP n b)) (hb : w[b]? = some (aI 0 (n + 1) f)) (hq : w[q]? = some (aL K g)) (hqo : q ≠ o) (hqb : q ≠ b) (hK : K < 2147483648) (hn : n < K) : EX6_writeTo [.ref o, .ref q] w (fun r w' => r = none ∧ ∃ g' : Nat → Int64, (∀ j, j < K → (g' j).toInt = if j ≤ n then (f j).toInt else 0) ∧ w' = w.set q (aL K g')) := by
  refine EP.of (plainFor_of_name (by decide)) [(0, .ref o), (1, .ref q)] rfl (Nat.le_of_ble_eq_true rfl) (fun r wf h => by obtain ⟨rfl, -⟩ := h; trivial) ?_
  show BX6_writeTo w _ w 0 [(0, .ref o), (1, .ref q)] []
  refine g_aload_n (pc := 0) 1 dX6_writeTo_0 rfl rfl ?_
  refine g_lconst (pc := 1) (v := 0) dX6_writeTo_1 (by decide) ?_
  refine g_callS (pc := 2) [.ref q, .long 0] dX6_writeTo_2 cs_X6_32.1 cs_X6_32.2 rfl rfl (Nat.le_of_ble_eq_true rfl) (by decide) (by decide) (sp_fill1 _ q K g 0 hq hK) ?_
  rintro _ w9 ⟨rfl, e9⟩
  refine GP.weq _ e9 ?_
  refine g_iconst (pc := 5) (v := nI 0) dX6_writeTo_5 (by decide) ?_
  refine g_istore_n (pc := 6) [(2, .int (nI 0)), (0, .ref o), (1, .ref q)] dX6_writeTo_6 rfl (by decide) rfl ?_
  exact GP.lsub _ (by simp) (wt_loop ho hb hq hqo hqb hK hn (fun cur h => ⟨rfl, cur, h, rfl⟩) (n + 1) 0 _ (by omega) (fun j hj => by rw [fill0 hj, if_neg (by omega)]))
abbrev BX6_ofPower (w0 : Wd) (Post : Option Value → Wd → Prop) (w : Wd) (pc : Nat) (ls : List (Nat × Value)) (st : List Value) : Prop := GP "ofPower" RX6 cX6_ofPower 2 (some .int) 0 0 none w0 Post w pc ls st
abbrev EX6_ofPower (As : List Value) (w : Wd) (Post : Option Value → Wd → Prop) : Prop := EP yX6_ofPower cX6_ofPower 2 (some .int) 0 As w Post
theorem sp_ofPower (w : Wd) {o b n x : Nat} {f : Nat → Int32} (ho : w[o]? = some (oP n b)) (hb : w[b]? = some (aI 0 (n + 1) f)) (hn : n ≤ 12) (hx : x ≤ 12) : EX6_ofPower [.ref o, .int (nI x)] w (fun r w' => r = some (.int (if x ≤ n then f x else 0)) ∧ w' = w) := by
  refine EP.of (plainFor_of_name (by decide)) [(0, .ref o), (1, .int (nI x))] rfl (Nat.le_of_ble_eq_true rfl) (fun r wf h => by obtain ⟨rfl, -⟩ := h; trivial) ?_
  show BX6_ofPower w _ w 0 [(0, .ref o), (1, .int (nI x))] []
  refine g_iload_n (pc := 0) 1 dX6_ofPower_0 rfl rfl ?_
  refine n_if_lt (pc := 1) 21 dX6_ofPower_1 (by decide) (by omega) ?_
  refine g_iload_n (pc := 4) 1 dX6_ofPower_4 rfl rfl ?_
  refine g_aload_n (pc := 5) 0 dX6_ofPower_5 rfl rfl ?_
  refine g_get (pc := 6) dX6_ofPower_6 fk_X6_18 ho rfl ?_
  refine n_icmp_gt (pc := 9) 21 dX6_ofPower_9 (by decide) (by omega) (by omega) (fun hz => ?_) (fun hz => ?_)
  · refine g_iconst (pc := 21) (v := nI 0) dX6_ofPower_21 (by decide) ?_
    exact g_iret (pc := 22) dX6_ofPower_22 ⟨by rw [if_neg (by omega)]; rfl, rfl⟩
  · refine g_aload_n (pc := 12) 0 dX6_ofPower_12 rfl rfl ?_
    refine g_get (pc := 13) dX6_ofPower_13 fk_X6_24 ho rfl ?_
    refine g_iload_n (pc := 16) 1 dX6_ofPower_16 rfl rfl ?_
    refine g_iald (pc := 17) x dX6_ofPower_17 hb (IXn (by omega) (by omega)) ?_
    refine g_goto (pc := 18) 22 dX6_ofPower_18 (by decide) ?_
    exact g_iret (pc := 22) dX6_ofPower_22 ⟨by rw [if_pos (by omega)], rfl⟩
abbrev BX6_writeProduct (w0 : Wd) (Post : Option Value → Wd → Prop) (w : Wd) (pc : Nat) (ls : List (Nat × Value)) (st : List Value) : Prop := GP "writeProduct" RX6 cX6_writeProduct 5 none 1 39 none w0 Post w pc ls st
abbrev EX6_writeProduct (As : List Value) (w : Wd) (Post : Option Value → Wd → Prop) : Prop := EP yX6_writeProduct cX6_writeProduct 5 none 1 As w Post
/-- rows 0 .. I - 1 of the product, at place j -/
def mulP (f g : Nat → Int) (n2 : Nat) : Nat → Nat → Int
  | 0, _ => 0
  | I + 1, j => mulP f g n2 I j + if I ≤ j ∧ j - I ≤ n2 then f I * g (j - I) else 0
theorem sm_prod {x y : Int32} {c : Int} (hx : -c ≤ x.toInt ∧ x.toInt ≤ c) (hy : -c ≤ y.toInt ∧ y.toInt ≤ c) (hc : c ≤ 100000) : (x.toInt64 * y.toInt64).toInt = x.toInt * y.toInt ∧ -10000000000 ≤ x.toInt * y.toInt ∧ x.toInt * y.toInt ≤ 10000000000 := by
  have h1 := sq_le (x := x.toInt) (b := 100000) (by omega) (by omega)
  have h2 := sq_le (x := y.toInt) (b := 100000) (by omega) (by omega)
  have h3 : 0 ≤ (x.toInt + y.toInt) * (x.toInt + y.toInt) := by rcases Int.le_total 0 (x.toInt + y.toInt) with h | h; exact Int.mul_nonneg h h; exact Int.mul_nonneg_of_nonpos_of_nonpos h h
  have h4 : 0 ≤ (x.toInt - y.toInt) * (x.toInt - y.toInt) := by rcases Int.le_total 0 (x.toInt - y.toInt) with h | h; exact Int.mul_nonneg h h; exact Int.mul_nonneg_of_nonpos_of_nonpos h h
  have e3 : (x.toInt + y.toInt) * (x.toInt + y.toInt) = x.toInt * x.toInt + 2 * (x.toInt * y.toInt) + y.toInt * y.toInt := by grind
  have e4 : (x.toInt - y.toInt) * (x.toInt - y.toInt) = x.toInt * x.toInt - 2 * (x.toInt * y.toInt) + y.toInt * y.toInt := by grind
  have h5 : (x.toInt64 * y.toInt64).toInt = x.toInt64.toInt * y.toInt64.toInt := L_mul (by rw [IL, IL]; omega) (by rw [IL, IL]; omega)
  rw [IL, IL] at h5
  exact ⟨h5, by omega, by omega⟩
def wpI (f g : Nat → Int) (n2 I J : Nat) (cur : Nat → Int64) : Prop := ∀ j, j < 25 → (cur j).toInt = mulP f g n2 I j + (if I ≤ j ∧ j - I < J then f I * g (j - I) else 0) ∧ -((I + 1 : Nat) * 10000000000 : Int) ≤ (cur j).toInt ∧ (cur j).toInt ≤ (I + 1 : Nat) * 10000000000 ∧ (¬ (I ≤ j ∧ j - I < J) → -(I * 10000000000 : Int) ≤ (cur j).toInt ∧ (cur j).toInt ≤ I * 10000000000)
theorem wpI_s {f g : Nat → Int32} {n1 n2 I J : Nat} {cur : Nat → Int64} (hI : I ≤ n1) (hJ : J ≤ n2) (hn1 : n1 ≤ 12) (hn2 : n2 ≤ 12) (hf : ∀ t, t ≤ n1 → -9999 ≤ (f t).toInt ∧ (f t).toInt ≤ 9999) (hg : ∀ t, t ≤ n2 → -9999 ≤ (g t).toInt ∧ (g t).toInt ≤ 9999) (h : wpI (toJ f) (toJ g) n2 I J cur) : wpI (toJ f) (toJ g) n2 I (J + 1) (vp_updL cur (I + J) (cur (I + J) + (f I).toInt64 * (g J).toInt64)) := by
  have hp := sm_prod (hf I hI) (hg J hJ) (by decide)
  have h0 := h (I + J) (by omega)
  have hno : ¬ (I ≤ I + J ∧ I + J - I < J) := by omega
  rw [if_neg hno] at h0
  have hb := h0.2.2.2 hno
  have hadd : (cur (I + J) + (f I).toInt64 * (g J).toInt64).toInt = (cur (I + J)).toInt + (f I).toInt * (g J).toInt := by
    rw [L_add (by rw [hp.1]; omega) (by rw [hp.1]; omega), hp.1]
  intro j hj
  by_cases hjj : j = I + J
  · subst hjj
    rw [upL_s, hadd, if_pos (by omega), show I + J - I = J by omega]
    refine ⟨?_, by omega, by omega, fun g9 => absurd g9 (by omega)⟩
    rw [h0.1]
    show _ = _ + (f I).toInt * (g J).toInt
    omega
  · rw [upL_n hjj]
    have h1 := h j hj
    refine ⟨?_, h1.2.1, h1.2.2.1, fun g9 => h1.2.2.2 (by omega)⟩
    rw [h1.1]
    by_cases hc : I ≤ j ∧ j - I < J
    · rw [if_pos hc, if_pos (by omega)]
    · rw [if_neg hc, if_neg (by omega)]
theorem wpI_end {f g : Nat → Int} {n2 I : Nat} {cur : Nat → Int64} (h : wpI f g n2 I (n2 + 1) cur) : wpI f g n2 (I + 1) 0 cur := by
  intro j hj
  have h1 := h j hj
  refine ⟨?_, by omega, by omega, fun _ => ⟨by omega, by omega⟩⟩
  rw [h1.1, if_neg (show ¬ (I + 1 ≤ j ∧ j - (I + 1) < 0) by omega)]
  show _ = mulP f g n2 I j + _ + 0
  by_cases hc : I ≤ j ∧ j - I ≤ n2
  · rw [if_pos hc, if_pos (by omega)]; omega
  · rw [if_neg hc, if_neg (by omega)]; omega
theorem wp_inner {w0 w : Wd} {Post : Option Value → Wd → Prop} {o b n1 p c n2 q : Nat} {f g : Nat → Int32} {e : Nat → Int64} (ho : w[o]? = some (oP n1 b)) (hb : w[b]? = some (aI 0 (n1 + 1) f)) (hp : w[p]? = some (oP n2 c)) (hc : w[c]? = some (aI 0 (n2 + 1) g)) (hq : w[q]? = some (aL 25 e)) (hqo : q ≠ o) (hqb : q ≠ b) (hqp : q ≠ p) (hqc : q ≠ c) (hn1 : n1 ≤ 12) (hn2 : n2 ≤ 12) (hf : ∀ t, t ≤ n1 → -9999 ≤ (f t).toInt ∧ (f t).toInt ≤ 9999) (hg : ∀ t, t ≤ n2 → -9999 ≤ (g t).toInt ∧ (g t).toInt ≤ 9999) {I : Nat} (hI : I ≤ n1) (hx : ∀ cur, wpI (toJ f) (toJ g) n2 (I + 1) 0 cur → BX6_writeProduct w0 Post (w.set q (aL 25 cur)) 67 [(3, .int (nI I)), (0, .ref o), (1, .ref p), (2, .ref q)] []) : ∀ (z J : Nat) (cur : Nat → Int64), n2 + 1 = J + z → wpI (toJ f) (toJ g) n2 I J cur → BX6_writeProduct w0 Post (w.set q (aL 25 cur)) 18 [(4, .int (nI J)), (3, .int (nI I)), (0, .ref o), (1, .ref p), (2, .ref q)] [] := by
  intro z
  induction z with
  | zero =>
    intro J cur hJ h
    refine g_iload (pc := 18) 0 dX6_writeProduct_18 rfl ?_
    refine g_aload_n (pc := 20) 3 dX6_writeProduct_20 rfl rfl ?_
    refine g_get (pc := 21) dX6_writeProduct_21 fk_X6_18 (lk_ne hqp hp) rfl ?_
    refine n_icmp_gt (pc := 24) 67 dX6_writeProduct_24 (by decide) (by omega) (by omega) (fun hz => ?_) (fun hz => ?_)
    · refine GP.lsub [(3, .int (nI I)), (0, .ref o), (1, .ref p), (2, .ref q)] (by simp) ?_
      refine hx cur (wpI_end ?_)
      rw [show n2 + 1 = J by omega]
      exact h
    · exact absurd hz (by omega)
  | succ z ih =>
    intro J cur hJ h
    refine g_iload (pc := 18) 0 dX6_writeProduct_18 rfl ?_
    refine g_aload_n (pc := 20) 3 dX6_writeProduct_20 rfl rfl ?_
    refine g_get (pc := 21) dX6_writeProduct_21 fk_X6_18 (lk_ne hqp hp) rfl ?_
    refine n_icmp_gt (pc := 24) 67 dX6_writeProduct_24 (by decide) (by omega) (by omega) (fun hz => ?_) (fun hz => ?_)
    · exact absurd hz (by omega)
    · refine g_iload_n (pc := 27) 1 dX6_writeProduct_27 rfl rfl ?_
      refine g_iload (pc := 28) 0 dX6_writeProduct_28 rfl ?_
      refine n_iadd (pc := 30) dX6_writeProduct_30 ?_
      refine g_aload_n (pc := 31) 4 dX6_writeProduct_31 rfl rfl ?_
      refine g_alen (pc := 32) dX6_writeProduct_32 (lk_eq hq) (by decide) ?_
      refine n_icmp_ge (pc := 33) 67 dX6_writeProduct_33 (by decide) (by omega) (by omega) (fun hz2 => ?_) (fun hz2 => ?_)
      · exact absurd hz2 (by omega)
      · refine g_aload_n (pc := 36) 4 dX6_writeProduct_36 rfl rfl ?_
        refine g_iload_n (pc := 37) 1 dX6_writeProduct_37 rfl rfl ?_
        refine g_iload (pc := 38) 0 dX6_writeProduct_38 rfl ?_
        refine n_iadd (pc := 40) dX6_writeProduct_40 ?_
        refine g_dup2 (pc := 41) dX6_writeProduct_41 rfl rfl ?_
        refine g_lald (pc := 42) (I + J) dX6_writeProduct_42 (lk_eq hq) (IXn (by omega) (by omega)) ?_
        refine g_aload_n (pc := 43) 2 dX6_writeProduct_43 rfl rfl ?_
        refine g_get (pc := 44) dX6_writeProduct_44 fk_X6_24 (lk_ne hqo ho) rfl ?_
        refine g_iload_n (pc := 47) 1 dX6_writeProduct_47 rfl rfl ?_
        refine g_iald (pc := 48) I dX6_writeProduct_48 (lk_ne hqb hb) (IXn (by omega) (by omega)) ?_
        refine g_i2l (pc := 49) dX6_writeProduct_49 ?_
        refine g_aload_n (pc := 50) 3 dX6_writeProduct_50 rfl rfl ?_
        refine g_get (pc := 51) dX6_writeProduct_51 fk_X6_24 (lk_ne hqp hp) rfl ?_
        refine g_iload (pc := 54) 0 dX6_writeProduct_54 rfl ?_
        refine g_iald (pc := 56) J dX6_writeProduct_56 (lk_ne hqc hc) (IXn (by omega) (by omega)) ?_
        refine g_i2l (pc := 57) dX6_writeProduct_57 ?_
        refine g_lmul (pc := 58) dX6_writeProduct_58 ?_
        refine g_ladd (pc := 59) dX6_writeProduct_59 ?_
        refine g_last (pc := 60) (I + J) dX6_writeProduct_60 (lk_eq hq) (IXn (by omega) (by omega)) ?_
        refine GP.weq (w.set q (aL 25 (vp_updL cur (I + J) ((cur (I + J)) + (((f I).toInt64) * ((g J).toInt64)))))) (by rw [List.set_set]) ?_
        refine n_iinc (pc := 61) (c := 1) [(4, .int (nI (J + 1))), (3, .int (nI I)), (0, .ref o), (1, .ref p), (2, .ref q)] 0 dX6_writeProduct_61 rfl (by decide) (by decide) rfl ?_
        refine g_goto (pc := 64) 18 dX6_writeProduct_64 (by decide) ?_
        exact GP.lsub _ (by simp) (ih (J + 1) _ (by omega) (wpI_s hI (by omega) hn1 hn2 hf hg h))
theorem wp_outer {w0 w : Wd} {Post : Option Value → Wd → Prop} {o b n1 p c n2 q : Nat} {f g : Nat → Int32} {e : Nat → Int64} (ho : w[o]? = some (oP n1 b)) (hb : w[b]? = some (aI 0 (n1 + 1) f)) (hp : w[p]? = some (oP n2 c)) (hc : w[c]? = some (aI 0 (n2 + 1) g)) (hq : w[q]? = some (aL 25 e)) (hqo : q ≠ o) (hqb : q ≠ b) (hqp : q ≠ p) (hqc : q ≠ c) (hn1 : n1 ≤ 12) (hn2 : n2 ≤ 12) (hf : ∀ t, t ≤ n1 → -9999 ≤ (f t).toInt ∧ (f t).toInt ≤ 9999) (hg : ∀ t, t ≤ n2 → -9999 ≤ (g t).toInt ∧ (g t).toInt ≤ 9999) (hx : ∀ cur, wpI (toJ f) (toJ g) n2 (n1 + 1) 0 cur → Post none (w.set q (aL 25 cur))) : ∀ (z I : Nat) (cur : Nat → Int64), n1 + 1 = I + z → wpI (toJ f) (toJ g) n2 I 0 cur → BX6_writeProduct w0 Post (w.set q (aL 25 cur)) 7 [(3, .int (nI I)), (0, .ref o), (1, .ref p), (2, .ref q)] [] := by
  intro z
  induction z with
  | zero =>
    intro I cur hI h
    refine g_iload_n (pc := 7) 0 dX6_writeProduct_7 rfl rfl ?_
    refine g_aload_n (pc := 8) 1 dX6_writeProduct_8 rfl rfl ?_
    refine g_get (pc := 9) dX6_writeProduct_9 fk_X6_18 (lk_ne hqo ho) rfl ?_
    refine n_icmp_gt (pc := 12) 73 dX6_writeProduct_12 (by decide) (by omega) (by omega) (fun hz => ?_) (fun hz => ?_)
    · exact g_vret (pc := 73) dX6_writeProduct_73 (hx cur (by rw [show n1 + 1 = I by omega]; exact h))
    · exact absurd hz (by omega)
  | succ z ih =>
    intro I cur hI h
    refine g_iload_n (pc := 7) 0 dX6_writeProduct_7 rfl rfl ?_
    refine g_aload_n (pc := 8) 1 dX6_writeProduct_8 rfl rfl ?_
    refine g_get (pc := 9) dX6_writeProduct_9 fk_X6_18 (lk_ne hqo ho) rfl ?_
    refine n_icmp_gt (pc := 12) 73 dX6_writeProduct_12 (by decide) (by omega) (by omega) (fun hz => ?_) (fun hz => ?_)
    · exact absurd hz (by omega)
    · refine g_iconst (pc := 15) (v := nI 0) dX6_writeProduct_15 (by decide) ?_
      refine g_istore (pc := 16) [(4, .int (nI 0)), (3, .int (nI I)), (0, .ref o), (1, .ref p), (2, .ref q)] dX6_writeProduct_16 (by decide) rfl ?_
      refine GP.lsub [(4, .int (nI 0)), (3, .int (nI I)), (0, .ref o), (1, .ref p), (2, .ref q)] (by simp) ?_
      refine wp_inner ho hb hp hc hq hqo hqb hqp hqc hn1 hn2 hf hg (by omega) (fun cur h => ?_) (n2 + 1) 0 cur (by omega) h
      refine n_iinc (pc := 67) (c := 1) [(3, .int (nI (I + 1))), (0, .ref o), (1, .ref p), (2, .ref q)] 0 dX6_writeProduct_67 rfl (by decide) (by decide) rfl ?_
      refine g_goto (pc := 70) 7 dX6_writeProduct_70 (by decide) ?_
      exact GP.lsub _ (by simp) (ih (I + 1) cur (by omega) h)
theorem sp_writeProduct (w : Wd) {o b n1 p c n2 q : Nat} {f g : Nat → Int32} {e : Nat → Int64} (ho : w[o]? = some (oP n1 b)) (hb : w[b]? = some (aI 0 (n1 + 1) f)) (hp : w[p]? = some (oP n2 c)) (hc : w[c]? = some (aI 0 (n2 + 1) g)) (hq : w[q]? = some (aL 25 e)) (hqo : q ≠ o) (hqb : q ≠ b) (hqp : q ≠ p) (hqc : q ≠ c) (hn1 : n1 ≤ 12) (hn2 : n2 ≤ 12) (hf : ∀ t, t ≤ n1 → -9999 ≤ (f t).toInt ∧ (f t).toInt ≤ 9999) (hg : ∀ t, t ≤ n2 → -9999 ≤ (g t).toInt ∧ (g t).toInt ≤ 9999) : EX6_writeProduct [.ref o, .ref p, .ref q] w (fun r w' => r = none ∧ ∃ e' : Nat → Int64, (∀ j, j < 25 → (e' j).toInt = mulP (toJ f) (toJ g) n2 (n1 + 1) j) ∧ w' = w.set q (aL 25 e')) := by
  refine EP.of (plainFor_of_name (by decide)) [(0, .ref o), (1, .ref p), (2, .ref q)] rfl (Nat.le_of_ble_eq_true rfl) (fun r wf h => by obtain ⟨rfl, -⟩ := h; trivial) ?_
  show BX6_writeProduct w _ w 0 [(0, .ref o), (1, .ref p), (2, .ref q)] []
  refine g_aload_n (pc := 0) 2 dX6_writeProduct_0 rfl rfl ?_
  refine g_lconst (pc := 1) (v := 0) dX6_writeProduct_1 (by decide) ?_
  refine g_callS (pc := 2) [.ref q, .long 0] dX6_writeProduct_2 cs_X6_32.1 cs_X6_32.2 rfl rfl (Nat.le_of_ble_eq_true rfl) (by decide) (by decide) (sp_fill1 _ q 25 e 0 hq (by decide)) ?_
  rintro _ w9 ⟨rfl, e9⟩
  refine GP.weq _ e9 ?_
  refine g_iconst (pc := 5) (v := nI 0) dX6_writeProduct_5 (by decide) ?_
  refine g_istore_n (pc := 6) [(3, .int (nI 0)), (0, .ref o), (1, .ref p), (2, .ref q)] dX6_writeProduct_6 rfl (by decide) rfl ?_
  refine GP.lsub _ (by simp) (wp_outer ho hb hp hc hq hqo hqb hqp hqc hn1 hn2 hf hg (fun cur h => ⟨rfl, cur, fun j hj => by rw [(h j hj).1, if_neg (by omega)]; omega, rfl⟩) (n1 + 1) 0 _ (by omega) (fun j hj => ?_))
  rw [fill0 hj, if_neg (by omega)]
  exact ⟨by show (0 : Int) = 0 + 0; rfl, by omega, by omega, fun _ => ⟨by omega, by omega⟩⟩
