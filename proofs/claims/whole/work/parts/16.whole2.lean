/-! Whole: small numbers, copies, squares and products -/
theorem vl_up {f : Nat → Int64} {p : Nat} {x : Int64} : ∀ {n : Nat}, p < n → vl (vp_updL f p x) n = vl f n + (x.toInt - (f p).toInt) * 268435456 ^ p
  | 0, h => absurd h (by omega)
  | n + 1, h => by
    show vl (vp_updL f p x) n + (vp_updL f p x n).toInt * 268435456 ^ n = vl f n + (f n).toInt * 268435456 ^ n + _
    by_cases hn : n = p
    · subst hn
      rw [upL_s, vl_congr (g := f) (fun j hj => upL_n (by omega)), Int.sub_mul]
      omega
    · rw [upL_n hn, vl_up (by omega)]
      omega
theorem vl_mono {f : Nat → Int64} {a : Nat} : ∀ {b : Nat}, (∀ j, j < a + b → 0 ≤ (f j).toInt) → vl f a ≤ vl f (a + b)
  | 0, _ => Int.le_refl _
  | b + 1, h => by
    have h1 := vl_mono (f := f) (a := a) (b := b) (fun j hj => h j (by omega))
    have h2 : 0 ≤ (f (a + b)).toInt * 268435456 ^ (a + b) := Int.mul_nonneg (h _ (by omega)) (Int.pow_nonneg (by decide))
    show vl f a ≤ vl f (a + b) + (f (a + b)).toInt * 268435456 ^ (a + b)
    omega
theorem carried_val {ds ds' : Nat → Int64} {room n' : Nat} (h : carried ds room ds' n') (hlt : vl ds room < 268435456 ^ room) : vl ds' n' = vl ds room ∧ dgs ds' n' ∧ nrm ds' n' ∧ n' ≤ room := by
  obtain ⟨h1, h2, h3, h4, h5, c, hc, h6⟩ := h
  have h7 : 0 ≤ vl ds' room := vl_nn (fun j hj => (h1 j hj).1)
  have hP : (0 : Int) < 268435456 ^ room := Int.pow_pos (by decide)
  have hc0 : c = 0 := by
    rcases Int.lt_or_le 0 c with g | g
    · have : 1 * 268435456 ^ room ≤ c * 268435456 ^ room := Int.mul_le_mul_of_nonneg_right (by omega) (by omega)
      omega
    · omega
  subst hc0
  obtain ⟨k, rfl⟩ := Nat.exists_eq_add_of_le h3
  rw [vl_zeros (fun j a b => h4 j a b)] at h6
  exact ⟨by omega, fun j hj => h1 j (by omega), h5, h3⟩
/-- a number at rest: digits and their number -/
def wf (ds : Nat → Int64) (n : Nat) : Prop := dgs ds n ∧ nrm ds n
abbrev BX10_setSmall (w0 : Wd) (Post : Option Value → Wd → Prop) (w : Wd) (pc : Nat) (ls : List (Nat × Value)) (st : List Value) : Prop := GP "setSmall" RX10 cX10_setSmall 2 none 0 0 none w0 Post w pc ls st
abbrev EX10_setSmall (As : List Value) (w : Wd) (Post : Option Value → Wd → Prop) : Prop := EP yX10_setSmall cX10_setSmall 2 none 0 As w Post
theorem sp_setSmall (w : Wd) (o a N n0 x : Nat) (ds : Nat → Int64) (ho : w[o]? = some (oW a n0)) (ha : w[a]? = some (aL N ds)) (hne : o ≠ a) (hN : N < 2147483648) (h1 : 1 ≤ N) (hx : x < 268435456) : EX10_setSmall [.ref o, .int (nI x)] w (fun r w' => r = none ∧ ∃ ds' n', wf ds' n' ∧ vl ds' n' = x ∧ n' ≤ 1 ∧ w' = (w.set o (oW a n')).set a (aL N ds')) := by
  have hm : ((nI x).toInt64 &&& 268435455).toInt = (x : Int) := by
    rw [L_mask (by rw [IL, nI_toInt (by omega)]; omega), IL, nI_toInt (by omega)]
    omega
  refine EP.of (plainFor_of_name (by decide)) [(0, .ref o), (1, .int (nI x))] rfl (Nat.le_of_ble_eq_true rfl) (fun r wf h => by obtain ⟨rfl, -⟩ := h; trivial) ?_
  show BX10_setSmall w _ w 0 [(0, .ref o), (1, .int (nI x))] []
  refine g_aload_n (pc := 0) 0 dX10_setSmall_0 rfl rfl ?_
  refine g_get (pc := 1) dX10_setSmall_1 fk_X10_19 ho rfl ?_
  refine g_iconst (pc := 4) (v := nI 0) dX10_setSmall_4 (by decide) ?_
  refine g_iload_n (pc := 5) 1 dX10_setSmall_5 rfl rfl ?_
  refine g_i2l (pc := 6) dX10_setSmall_6 ?_
  refine g_ldc2 (pc := 7) kc_X10_23 dX10_setSmall_7 ?_
  refine g_land (pc := 10) dX10_setSmall_10 ?_
  refine g_last (pc := 11) 0 dX10_setSmall_11 ha (IXn (by omega) (by omega)) ?_
  refine g_aload_n (pc := 12) 0 dX10_setSmall_12 rfl rfl ?_
  refine g_aload_n (pc := 13) 0 dX10_setSmall_13 rfl rfl ?_
  refine g_get (pc := 14) dX10_setSmall_14 fk_X10_19 (lk_ne (Ne.symm hne) ho) rfl ?_
  refine g_iconst (pc := 17) (v := nI 0) dX10_setSmall_17 (by decide) ?_
  refine g_lald (pc := 18) 0 dX10_setSmall_18 (lk_eq ha) (IXn (by omega) (by omega)) ?_
  refine g_lconst (pc := 19) (v := 0) dX10_setSmall_19 (by decide) ?_
  refine g_lcmp_ne (pc := 20) 28 dX10_setSmall_20 dX10_setSmall_21 (by decide) (fun hz => ?_) (fun hz => ?_)
  · refine g_iconst (pc := 28) (v := nI 1) dX10_setSmall_28 (by decide) ?_
    refine g_put (pc := 29) [.ref a, .int (nI 1)] dX10_setSmall_29 fk_X10_9 (lk_ne (Ne.symm hne) ho) (Nat.le_of_ble_eq_true rfl) rfl rfl ?_
    exact g_vret (pc := 32) dX10_setSmall_32 ⟨rfl, _, 1, ⟨fun i hi => by rw [show i = 0 by omega, upL_s]; exact ⟨by omega, by omega⟩, Or.inr (fun g => hz (L0.mp g))⟩, by show 0 + (vp_updL ds 0 _ 0).toInt * 268435456 ^ 0 = _; rw [upL_s, hm]; omega, Nat.le_refl 1, by rw [List.set_comm _ _ hne]⟩
  · refine g_iconst (pc := 24) (v := nI 0) dX10_setSmall_24 (by decide) ?_
    refine g_goto (pc := 25) 29 dX10_setSmall_25 (by decide) ?_
    refine g_put (pc := 29) [.ref a, .int (nI 0)] dX10_setSmall_29 fk_X10_9 (lk_ne (Ne.symm hne) ho) (Nat.le_of_ble_eq_true rfl) rfl rfl ?_
    have hz2 := L0.mpr (Classical.not_not.mp hz)
    rw [upL_s, hm] at hz2
    exact g_vret (pc := 32) dX10_setSmall_32 ⟨rfl, _, 0, ⟨fun i hi => absurd hi (by omega), Or.inl rfl⟩, by rw [hz2]; rfl, Nat.zero_le 1, by rw [List.set_comm _ _ hne]⟩
abbrev BX10_setTo (w0 : Wd) (Post : Option Value → Wd → Prop) (w : Wd) (pc : Nat) (ls : List (Nat × Value)) (st : List Value) : Prop := GP "setTo" RX10 cX10_setTo 2 none 1 39 none w0 Post w pc ls st
abbrev EX10_setTo (As : List Value) (w : Wd) (Post : Option Value → Wd → Prop) : Prop := EP yX10_setTo cX10_setTo 2 none 1 As w Post
theorem sp_setTo (w : Wd) (o a N n0 p b M m : Nat) (ds es : Nat → Int64) (ho : w[o]? = some (oW a n0)) (ha : w[a]? = some (aL N ds)) (hp : w[p]? = some (oW b m)) (hb : w[b]? = some (aL M es)) (hne : o ≠ a) (hop : o ≠ p) (hob : o ≠ b) (hap : a ≠ p) (hab : a ≠ b) (hN : N < 2147483648) (hM : M < 2147483648) (hm : m ≤ N) (hm2 : m ≤ M) : EX10_setTo [.ref o, .ref p] w (fun r w' => r = none ∧ ∃ ds', w' = (w.set o (oW a m)).set a (aL N ds') ∧ ∀ j, j < m → ds' j = es j) := by
  refine EP.of (plainFor_of_name (by decide)) [(0, .ref o), (1, .ref p)] rfl (Nat.le_of_ble_eq_true rfl) (fun r wf h => by obtain ⟨rfl, -⟩ := h; trivial) ?_
  show BX10_setTo w _ w 0 [(0, .ref o), (1, .ref p)] []
  refine g_aload_n (pc := 0) 0 dX10_setTo_0 rfl rfl ?_
  refine g_aload_n (pc := 1) 1 dX10_setTo_1 rfl rfl ?_
  refine g_get (pc := 2) dX10_setTo_2 fk_X10_9 hp rfl ?_
  refine g_aload_n (pc := 5) 0 dX10_setTo_5 rfl rfl ?_
  refine g_get (pc := 6) dX10_setTo_6 fk_X10_19 ho rfl ?_
  refine g_alen (pc := 9) dX10_setTo_9 ha (by decide) ?_
  refine g_callS (pc := 10) [.int (nI m), .int (nI N)] dX10_setTo_10 cs_X10_25.1 cs_X10_25.2 rfl rfl (Nat.le_of_ble_eq_true rfl) (by decide) (by decide) (sp_minI _ (nI m) (nI N)) ?_
  rintro _ w9 ⟨rfl, e9⟩
  refine GP.weq _ e9 ?_
  refine GP.ti (nI m) (by rw [if_neg (by rw [nI_ltN (by omega) (by omega)]; omega)]) ?_
  refine g_put (pc := 13) [.ref a, .int (nI m)] dX10_setTo_13 fk_X10_9 ho (Nat.le_of_ble_eq_true rfl) rfl rfl ?_
  refine g_aload_n (pc := 16) 1 dX10_setTo_16 rfl rfl ?_
  refine g_get (pc := 17) dX10_setTo_17 fk_X10_19 (lk_ne hop hp) rfl ?_
  refine g_iconst (pc := 20) (v := nI 0) dX10_setTo_20 (by decide) ?_
  refine g_aload_n (pc := 21) 0 dX10_setTo_21 rfl rfl ?_
  refine g_get (pc := 22) dX10_setTo_22 fk_X10_19 (lk_eq ho) rfl ?_
  refine g_iconst (pc := 25) (v := nI 0) dX10_setTo_25 (by decide) ?_
  refine g_aload_n (pc := 26) 0 dX10_setTo_26 rfl rfl ?_
  refine g_get (pc := 27) dX10_setTo_27 fk_X10_9 (lk_eq ho) rfl ?_
  refine g_copyL (pc := 30) (sp := 0) (dp := 0) (n := m) dX10_setTo_30 nl_X10_32 tw_652 tw_651 tw_85 (lk_ne hob hb) (lk_ne hne ha) (by omega) (by omega) (by omega) (by omega) (Nat.le_of_ble_eq_true rfl) (by decide) (by decide) ?_
  exact g_vret (pc := 33) dX10_setTo_33 ⟨rfl, _, rfl, fun j hj => by simp only [va_cpy]; rw [if_pos (by omega)]; congr 1; omega⟩
