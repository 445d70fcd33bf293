/-! Whole: lessOne, isAbove -/
def loI (ds : Nat → Int64) (n i : Nat) (cur : Nat → Int64) : Prop := (∀ j, j < i → (ds j).toInt = 0) ∧ (∀ j, i ≤ j → cur j = ds j) ∧ (∀ j, j < i → (cur j).toInt = 268435455) ∧ vl cur n = vl ds n + 268435456 ^ i - 1
theorem loI_0 (ds : Nat → Int64) (n : Nat) : loI ds n 0 ds := ⟨fun j h => absurd h (by omega), fun _ _ => rfl, fun j h => absurd h (by omega), by show _ = _ + 1 - 1; omega⟩
theorem loI_s {ds cur : Nat → Int64} {n i : Nat} (hi : i < n) (hz : (cur i).toInt = 0) (h : loI ds n i cur) : loI ds n (i + 1) (vp_updL cur i 268435455) := by
  obtain ⟨h1, h2, h3, h4⟩ := h
  refine ⟨fun j hj => ?_, fun j hj => by rw [upL_n (by omega)]; exact h2 j (by omega), fun j hj => ?_, ?_⟩
  · by_cases hj2 : j = i
    · subst hj2; rw [← h2 j (Nat.le_refl _)]; exact hz
    · exact h1 j (by omega)
  · by_cases hj2 : j = i
    · subst hj2; rw [upL_s]; decide
    · rw [upL_n hj2]; exact h3 j (by omega)
  · rw [vl_up hi, h4, hz, Int.pow_succ]
    have : (268435455 : Int64).toInt = 268435455 := by decide
    rw [this]
    omega
theorem loI_end {ds cur : Nat → Int64} {n i : Nat} (hd : dgs ds n) (hi : i < n) (hz : (ds i).toInt ≠ 0) (h : loI ds n i cur) : dgs (vp_updL cur i (cur i - 1)) n ∧ vl (vp_updL cur i (cur i - 1)) n = vl ds n - 1 := by
  obtain ⟨h1, h2, h3, h4⟩ := h
  have e := h2 i (Nat.le_refl _)
  have g := hd i hi
  have e1 : (cur i - 1).toInt = (ds i).toInt - 1 := by
    rw [e, L_sub (by show -9223372036854775808 ≤ _ - (1 : Int); omega) (by show _ - (1 : Int) < _; omega)]
    rfl
  refine ⟨fun j hj => ?_, ?_⟩
  · by_cases hj2 : j = i
    · subst hj2; rw [upL_s, e1]; omega
    · rw [upL_n hj2]
      by_cases hj3 : j < i
      · rw [h3 j hj3]; omega
      · rw [h2 j (by omega)]; exact hd j hj
  · rw [vl_up hi, h4, e1, e]
    have : (ds i).toInt - 1 - (ds i).toInt = -1 := by omega
    rw [this]
    omega
abbrev BX10_lessOne (w0 : Wd) (Post : Option Value → Wd → Prop) (w : Wd) (pc : Nat) (ls : List (Nat × Value)) (st : List Value) : Prop := GP "lessOne" RX10 cX10_lessOne 2 none 1 39 none w0 Post w pc ls st
abbrev EX10_lessOne (As : List Value) (w : Wd) (Post : Option Value → Wd → Prop) : Prop := EP yX10_lessOne cX10_lessOne 2 none 1 As w Post
theorem lo_loop {w0 w : Wd} {Post : Option Value → Wd → Prop} {o a N n : Nat} {ds : Nat → Int64} (ho : w[o]? = some (oW a n)) (ha : w[a]? = some (aL N ds)) (hoa : o ≠ a) (hN : N < 2147483648) (hn : n ≤ N) (hd : wf ds n) (h0 : 0 < n) (hx : ∀ (i : Nat) (cur : Nat → Int64), i < n → (ds i).toInt ≠ 0 → loI ds n i cur → BX10_lessOne w0 Post (w.set a (aL N cur)) 38 [(1, .int (nI i)), (0, .ref o)] []) : ∀ (k i : Nat) (cur : Nat → Int64), n = i + k → 0 < k → loI ds n i cur → BX10_lessOne w0 Post (w.set a (aL N cur)) 2 [(1, .int (nI i)), (0, .ref o)] [] := by
  intro k
  induction k with
  | zero => intro i cur hi hk; exact absurd hk (by omega)
  | succ k ih =>
    intro i cur hi hk h
    refine g_iload_n (pc := 2) 0 dX10_lessOne_2 rfl rfl ?_
    refine g_aload_n (pc := 3) 1 dX10_lessOne_3 rfl rfl ?_
    refine g_get (pc := 4) dX10_lessOne_4 fk_X10_9 (lk_ne (Ne.symm hoa) ho) rfl ?_
    refine g_iconst (pc := 7) (v := nI 1) dX10_lessOne_7 (by decide) ?_
    refine n_isub (pc := 8) dX10_lessOne_8 (by omega) ?_
    refine n_icmp_ge (pc := 9) 38 dX10_lessOne_9 (by decide) (by omega) (by omega) (fun hz => ?_) (fun hz => ?_)
    · refine hx i cur (by omega) ?_ h
      have e : i = n - 1 := by omega
      rw [e]
      exact hd.2.resolve_left (by omega)
    · refine g_aload_n (pc := 12) 1 dX10_lessOne_12 rfl rfl ?_
      refine g_get (pc := 13) dX10_lessOne_13 fk_X10_19 (lk_ne (Ne.symm hoa) ho) rfl ?_
      refine g_iload_n (pc := 16) 0 dX10_lessOne_16 rfl rfl ?_
      refine g_lald (pc := 17) i dX10_lessOne_17 (lk_eq ha) (IXn (by omega) (by omega)) ?_
      refine g_lconst (pc := 18) (v := 0) dX10_lessOne_18 (by decide) ?_
      refine g_lcmp_ne (pc := 19) 38 dX10_lessOne_19 dX10_lessOne_20 (by decide) (fun hz2 => ?_) (fun hz2 => ?_)
      · refine hx i cur (by omega) ?_ h
        rw [← h.2.1 i (Nat.le_refl _)]
        exact fun g => hz2 (L0.mp g)
      · refine g_aload_n (pc := 23) 1 dX10_lessOne_23 rfl rfl ?_
        refine g_get (pc := 24) dX10_lessOne_24 fk_X10_19 (lk_ne (Ne.symm hoa) ho) rfl ?_
        refine g_iload_n (pc := 27) 0 dX10_lessOne_27 rfl rfl ?_
        refine g_ldc2 (pc := 28) kc_X10_23 dX10_lessOne_28 ?_
        refine g_last (pc := 31) i dX10_lessOne_31 (lk_eq ha) (IXn (by omega) (by omega)) ?_
        refine GP.weq (w.set a (aL N (vp_updL cur i (268435455)))) (by rw [List.set_set]) ?_
        refine n_iinc (pc := 32) (c := 1) [(1, .int (nI (i + 1))), (0, .ref o)] 0 dX10_lessOne_32 rfl (by decide) (by decide) rfl ?_
        refine g_goto (pc := 35) 2 dX10_lessOne_35 (by decide) ?_
        exact GP.lsub _ (by simp) (ih (i + 1) _ (by omega) (by omega) (loI_s (by omega) (L0.mpr (Classical.not_not.mp hz2)) h))
theorem sp_lessOne (w : Wd) {o a N n : Nat} {ds : Nat → Int64} (ho : w[o]? = some (oW a n)) (ha : w[a]? = some (aL N ds)) (hoa : o ≠ a) (hN : N < 2147483648) (hn : n ≤ N) (hd : wf ds n) (h0 : 0 < n) : EX10_lessOne [.ref o] w (fun r w' => r = none ∧ ∃ ds' n', wf ds' n' ∧ vl ds' n' = vl ds n - 1 ∧ n' ≤ n ∧ w' = (w.set o (oW a n')).set a (aL N ds')) := by
  refine EP.of (plainFor_of_name (by decide)) [(0, .ref o)] rfl (Nat.le_of_ble_eq_true rfl) (fun r wf h => by obtain ⟨rfl, -⟩ := h; trivial) ?_
  show BX10_lessOne w _ w 0 [(0, .ref o)] []
  refine g_iconst (pc := 0) (v := nI 0) dX10_lessOne_0 (by decide) ?_
  refine g_istore_n (pc := 1) [(1, .int (nI 0)), (0, .ref o)] dX10_lessOne_1 rfl (by decide) rfl ?_
  refine GP.weq (w.set a (aL N ds)) (by rw [set_same ha]) ?_
  refine lo_loop ho ha hoa hN hn hd h0 (fun i cur hi hz h => ?_) n 0 ds (by omega) h0 (loI_0 ds n)
  refine g_iload_n (pc := 38) 0 dX10_lessOne_38 rfl rfl ?_
  refine g_aload_n (pc := 39) 1 dX10_lessOne_39 rfl rfl ?_
  refine g_get (pc := 40) dX10_lessOne_40 fk_X10_9 (lk_ne (Ne.symm hoa) ho) rfl ?_
  refine n_icmp_ge (pc := 43) 56 dX10_lessOne_43 (by decide) (by omega) (by omega) (fun hz2 => ?_) (fun hz2 => ?_)
  · exact absurd hz2 (by omega)
  · refine g_aload_n (pc := 46) 1 dX10_lessOne_46 rfl rfl ?_
    refine g_get (pc := 47) dX10_lessOne_47 fk_X10_19 (lk_ne (Ne.symm hoa) ho) rfl ?_
    refine g_iload_n (pc := 50) 0 dX10_lessOne_50 rfl rfl ?_
    refine g_dup2 (pc := 51) dX10_lessOne_51 rfl rfl ?_
    refine g_lald (pc := 52) i dX10_lessOne_52 (lk_eq ha) (IXn (by omega) (by omega)) ?_
    refine g_lconst (pc := 53) (v := 1) dX10_lessOne_53 (by decide) ?_
    refine g_lsub (pc := 54) dX10_lessOne_54 ?_
    refine g_last (pc := 55) i dX10_lessOne_55 (lk_eq ha) (IXn (by omega) (by omega)) ?_
    refine GP.weq (w.set a (aL N (vp_updL cur i ((cur i) - 1)))) (by rw [List.set_set]) ?_
    refine g_aload_n (pc := 56) 1 dX10_lessOne_56 rfl rfl ?_
    refine g_aload_n (pc := 57) 1 dX10_lessOne_57 rfl rfl ?_
    refine g_get (pc := 58) dX10_lessOne_58 fk_X10_9 (lk_ne (Ne.symm hoa) ho) rfl ?_
    obtain ⟨hc, hv⟩ := loI_end hd.1 hi hz h
    refine g_callV (pc := 61) [.int (nI n)] dX10_lessOne_61 cv_X10_28.1 cv_X10_28.2.1 cv_X10_28.2.2.1 cv_X10_28.2.2.2 (lk_ne (Ne.symm hoa) ho) rfl rfl (Nat.le_of_ble_eq_true rfl) (by decide) (by decide) (sp_carry _ o a N n n _ (lk_ne (Ne.symm hoa) ho) (lk_eq ha) hoa hn hN (fun i hi => ⟨(hc i hi).1, by have := (hc i hi).2; omega⟩)) ?_
    rintro _ w9 ⟨rfl, ds', n', hcd, e9⟩
    refine GP.weq _ e9 ?_
    obtain ⟨c1, c2, c3, c4⟩ := carried_val hcd (vl_lt hc)
    exact g_vret (pc := 64) dX10_lessOne_64 ⟨rfl, ds', n', ⟨c2, c3⟩, by rw [c1, hv], c4, by rw [List.set_comm _ _ hoa, List.set_set, List.set_comm _ _ (Ne.symm hoa)]⟩
theorem vl_ge {f : Nat → Int64} {n : Nat} (h : wf f n) (hn : 0 < n) : 268435456 ^ (n - 1) ≤ vl f n := by
  obtain ⟨k, rfl⟩ : ∃ k, n = k + 1 := ⟨n - 1, by omega⟩
  have h1 := h.2.resolve_left (by omega)
  rw [Nat.add_sub_cancel] at h1 ⊢
  have h2 := (h.1 k (by omega)).1
  have h3 : 0 ≤ vl f k := vl_nn (fun j hj => (h.1 j (by omega)).1)
  have h4 : 1 * 268435456 ^ k ≤ (f k).toInt * 268435456 ^ k := Int.mul_le_mul_of_nonneg_right (by omega) (Int.pow_nonneg (by decide))
  show _ ≤ vl f k + (f k).toInt * 268435456 ^ k
  omega
theorem ipow_le {a b : Nat} (h : a ≤ b) : (268435456 : Int) ^ a ≤ 268435456 ^ b := by
  obtain ⟨c, rfl⟩ := Nat.exists_eq_add_of_le h
  rw [Int.pow_add]
  have h1 : (0 : Int) < 268435456 ^ a := Int.pow_pos (by decide)
  have h2 : (0 : Int) < 268435456 ^ c := Int.pow_pos (by decide)
  have h3 : (268435456 : Int) ^ a * 1 ≤ (268435456 : Int) ^ a * 268435456 ^ c := Int.mul_le_mul_of_nonneg_left (by omega) (by omega)
  omega
theorem vl_shorter {f g : Nat → Int64} {n m : Nat} (hf : wf f n) (hg : wf g m) (h : n < m) : vl f n < vl g m := by
  have h1 := vl_lt hf.1
  have h2 := vl_ge hg (by omega)
  have h3 := ipow_le (show n ≤ m - 1 by omega)
  omega
theorem vl_top {f g : Nat → Int64} {c : Nat} : ∀ {k : Nat}, (∀ j, c ≤ j → j < c + k → f j = g j) → vl f (c + k) - vl f c = vl g (c + k) - vl g c
  | 0, _ => by simp
  | k + 1, h => by
    have h1 := vl_top (f := f) (g := g) (c := c) (k := k) (fun j a b => h j a (by omega))
    have h2 := h (c + k) (by omega) (by omega)
    show vl f (c + k) + (f (c + k)).toInt * 268435456 ^ (c + k) - _ = vl g (c + k) + (g (c + k)).toInt * 268435456 ^ (c + k) - _
    rw [h2]
    omega
theorem vl_cmp {f g : Nat → Int64} {n c : Nat} (hf : dgs f n) (hg : dgs g n) (hc : c < n) (h : ∀ j, c + 1 ≤ j → j < n → f j = g j) (hlt : (f c).toInt < (g c).toInt) : vl f n < vl g n := by
  obtain ⟨k, rfl⟩ := Nat.exists_eq_add_of_le (show c + 1 ≤ n by omega)
  have h1 := vl_top (f := f) (g := g) (c := c + 1) (k := k) (fun j a b => h j a b)
  have h2 : vl f (c + 1) < vl g (c + 1) := by
    have h3 := vl_lt (fun j hj => hf j (by omega) : dgs f c)
    have h4 : 0 ≤ vl g c := vl_nn (fun j hj => (hg j (by omega)).1)
    have h5 : ((f c).toInt + 1) * 268435456 ^ c ≤ (g c).toInt * 268435456 ^ c := Int.mul_le_mul_of_nonneg_right (by omega) (Int.pow_nonneg (by decide))
    rw [Int.add_mul] at h5
    show vl f c + (f c).toInt * 268435456 ^ c < vl g c + (g c).toInt * 268435456 ^ c
    omega
  omega
abbrev BX10_isAbove (w0 : Wd) (Post : Option Value → Wd → Prop) (w : Wd) (pc : Nat) (ls : List (Nat × Value)) (st : List Value) : Prop := GP "isAbove" RX10 cX10_isAbove 3 (some .boolean) 0 0 none w0 Post w pc ls st
abbrev EX10_isAbove (As : List Value) (w : Wd) (Post : Option Value → Wd → Prop) : Prop := EP yX10_isAbove cX10_isAbove 3 (some .boolean) 0 As w Post
theorem ab_loop {w0 w : Wd} {o a N n p b M m : Nat} {ds es : Nat → Int64} (ho : w[o]? = some (oW a n)) (ha : w[a]? = some (aL N ds)) (hp : w[p]? = some (oW b m)) (hb : w[b]? = some (aL M es)) (hN : N < 2147483648) (hM : M < 2147483648) (hn : n ≤ N) (hm : m ≤ M) (hd : wf ds n) (he : wf es m) (hmn : m = n) : ∀ c : Nat, c ≤ n → (∀ j, c ≤ j → j < n → ds j = es j) → BX10_isAbove w0 (fun r w' => r = some (.int (if vl es m < vl ds n then 1 else 0)) ∧ w' = w) w 35 [(2, .int (nI c - 1)), (0, .ref o), (1, .ref p)] [] := by
  intro c
  induction c with
  | zero =>
    intro hc h
    rw [nI_dec0]
    refine g_iload_n (pc := 35) 0 dX10_isAbove_35 rfl rfl ?_
    refine g_if_lt (pc := 36) 83 dX10_isAbove_36 (by decide) (fun hz => ?_) (fun hz => ?_)
    · refine g_iconst (pc := 83) (v := nI 0) dX10_isAbove_83 (by decide) ?_
      have e : vl es m = vl ds n := by rw [hmn]; exact vl_congr (fun j hj => (h j (by omega) hj).symm)
      exact g_iret (pc := 84) dX10_isAbove_84 ⟨by rw [if_neg (by omega)]; rfl, rfl⟩
    · exact absurd (by decide) hz
  | succ c ih =>
    intro hc h
    rw [nI_pred]
    subst hmn
    refine g_iload_n (pc := 35) 0 dX10_isAbove_35 rfl rfl ?_
    refine n_if_lt (pc := 36) 83 dX10_isAbove_36 (by decide) (by omega) ?_
    refine g_aload_n (pc := 39) 1 dX10_isAbove_39 rfl rfl ?_
    refine g_get (pc := 40) dX10_isAbove_40 fk_X10_19 ho rfl ?_
    refine g_iload_n (pc := 43) 0 dX10_isAbove_43 rfl rfl ?_
    refine g_lald (pc := 44) c dX10_isAbove_44 ha (IXn (by omega) (by omega)) ?_
    refine g_aload_n (pc := 45) 2 dX10_isAbove_45 rfl rfl ?_
    refine g_get (pc := 46) dX10_isAbove_46 fk_X10_19 hp rfl ?_
    refine g_iload_n (pc := 49) 0 dX10_isAbove_49 rfl rfl ?_
    refine g_lald (pc := 50) c dX10_isAbove_50 hb (IXn (by omega) (by omega)) ?_
    refine g_lcmp_eq (pc := 51) 77 dX10_isAbove_51 dX10_isAbove_52 (by decide) (fun hz => ?_) (fun hz => ?_)
    · refine g_iinc (pc := 77) [(2, .int (nI c - 1)), (0, .ref o), (1, .ref p)] 0 dX10_isAbove_77 rfl (dec1 _) (by decide) rfl ?_
      refine g_goto (pc := 80) 35 dX10_isAbove_80 (by decide) ?_
      refine GP.lsub _ (by simp) (ih (by omega) (fun j h1 h2 => ?_))
      by_cases hj : j = c
      · rw [hj]; exact hz
      · exact h j (by omega) h2
    · refine g_aload_n (pc := 55) 1 dX10_isAbove_55 rfl rfl ?_
      refine g_get (pc := 56) dX10_isAbove_56 fk_X10_19 ho rfl ?_
      refine g_iload_n (pc := 59) 0 dX10_isAbove_59 rfl rfl ?_
      refine g_lald (pc := 60) c dX10_isAbove_60 ha (IXn (by omega) (by omega)) ?_
      refine g_aload_n (pc := 61) 2 dX10_isAbove_61 rfl rfl ?_
      refine g_get (pc := 62) dX10_isAbove_62 fk_X10_19 hp rfl ?_
      refine g_iload_n (pc := 65) 0 dX10_isAbove_65 rfl rfl ?_
      refine g_lald (pc := 66) c dX10_isAbove_66 hb (IXn (by omega) (by omega)) ?_
      refine g_lcmp_le (pc := 67) 75 dX10_isAbove_67 dX10_isAbove_68 (by decide) (fun hz2 => ?_) (fun hz2 => ?_)
      · refine g_iconst (pc := 75) (v := nI 0) dX10_isAbove_75 (by decide) ?_
        have e : vl ds m < vl es m := vl_cmp hd.1 he.1 (by omega) (fun j h1 h2 => h j h1 h2) (by have g := Int64.le_iff_toInt_le.mp hz2; have g2 : (ds c).toInt ≠ (es c).toInt := fun q => hz (Int64.toInt_inj.mp q); omega)
        exact g_iret (pc := 76) dX10_isAbove_76 ⟨by rw [if_neg (by omega)]; rfl, rfl⟩
      · refine g_iconst (pc := 71) (v := nI 1) dX10_isAbove_71 (by decide) ?_
        refine g_goto (pc := 72) 76 dX10_isAbove_72 (by decide) ?_
        have e : vl es m < vl ds m := vl_cmp he.1 hd.1 (by omega) (fun j h1 h2 => (h j h1 h2).symm) (by have g : ¬ (ds c).toInt ≤ (es c).toInt := fun q => hz2 (Int64.le_iff_toInt_le.mpr q); omega)
        exact g_iret (pc := 76) dX10_isAbove_76 ⟨by rw [if_pos (by omega)]; rfl, rfl⟩
theorem sp_isAbove (w : Wd) {o a N n p b M m : Nat} {ds es : Nat → Int64} (ho : w[o]? = some (oW a n)) (ha : w[a]? = some (aL N ds)) (hp : w[p]? = some (oW b m)) (hb : w[b]? = some (aL M es)) (hN : N < 2147483648) (hM : M < 2147483648) (hn : n ≤ N) (hm : m ≤ M) (hd : wf ds n) (he : wf es m) : EX10_isAbove [.ref o, .ref p] w (fun r w' => r = some (.int (if vl es m < vl ds n then 1 else 0)) ∧ w' = w) := by
  refine EP.of (plainFor_of_name (by decide)) [(0, .ref o), (1, .ref p)] rfl (Nat.le_of_ble_eq_true rfl) (fun r wf h => by obtain ⟨rfl, -⟩ := h; split; exact Or.inr rfl; exact Or.inl rfl) ?_
  show BX10_isAbove w _ w 0 [(0, .ref o), (1, .ref p)] []
  refine g_aload_n (pc := 0) 0 dX10_isAbove_0 rfl rfl ?_
  refine g_get (pc := 1) dX10_isAbove_1 fk_X10_9 ho rfl ?_
  refine g_aload_n (pc := 4) 1 dX10_isAbove_4 rfl rfl ?_
  refine g_get (pc := 5) dX10_isAbove_5 fk_X10_9 hp rfl ?_
  refine n_icmp_eq (pc := 8) 28 dX10_isAbove_8 (by decide) (by omega) (by omega) (fun hz => ?_) (fun hz => ?_)
  · refine g_aload_n (pc := 28) 0 dX10_isAbove_28 rfl rfl ?_
    refine g_get (pc := 29) dX10_isAbove_29 fk_X10_9 ho rfl ?_
    refine g_iconst (pc := 32) (v := nI 1) dX10_isAbove_32 (by decide) ?_
    refine g_isub (pc := 33) dX10_isAbove_33 ?_
    refine g_istore_n (pc := 34) [(2, .int ((nI n) - (nI 1))), (0, .ref o), (1, .ref p)] dX10_isAbove_34 rfl (by decide) rfl ?_
    exact GP.lsub _ (by simp; rfl) (ab_loop ho ha hp hb hN hM hn hm hd he hz.symm n (Nat.le_refl _) (fun j h1 h2 => absurd h2 (by omega)))
  · refine g_aload_n (pc := 11) 0 dX10_isAbove_11 rfl rfl ?_
    refine g_get (pc := 12) dX10_isAbove_12 fk_X10_9 ho rfl ?_
    refine g_aload_n (pc := 15) 1 dX10_isAbove_15 rfl rfl ?_
    refine g_get (pc := 16) dX10_isAbove_16 fk_X10_9 hp rfl ?_
    refine n_icmp_le (pc := 19) 26 dX10_isAbove_19 (by decide) (by omega) (by omega) (fun hz2 => ?_) (fun hz2 => ?_)
    · refine g_iconst (pc := 26) (v := nI 0) dX10_isAbove_26 (by decide) ?_
      have e := vl_shorter hd he (by omega)
      exact g_iret (pc := 27) dX10_isAbove_27 ⟨by rw [if_neg (by omega)]; rfl, rfl⟩
    · refine g_iconst (pc := 22) (v := nI 1) dX10_isAbove_22 (by decide) ?_
      refine g_goto (pc := 23) 27 dX10_isAbove_23 (by decide) ?_
      have e := vl_shorter he hd (by omega)
      exact g_iret (pc := 27) dX10_isAbove_27 ⟨by rw [if_pos (by omega)]; rfl, rfl⟩
