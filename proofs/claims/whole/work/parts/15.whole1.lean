/-! Whole: numbers of digits of 28 bits -/
abbrev oW (a n : Nat) : Ce := .inr (9, [.ref a, .int (nI n)])
/-- what n digits tell -/
def vl (ds : Nat → Int64) : Nat → Int
  | 0 => 0
  | n + 1 => vl ds n + (ds n).toInt * 268435456 ^ n
def dgs (ds : Nat → Int64) (n : Nat) : Prop := ∀ i, i < n → 0 ≤ (ds i).toInt ∧ (ds i).toInt < 268435456
def nrm (ds : Nat → Int64) (n : Nat) : Prop := n = 0 ∨ (ds (n - 1)).toInt ≠ 0
theorem vl_congr {f g : Nat → Int64} : ∀ {n : Nat}, (∀ j, j < n → f j = g j) → vl f n = vl g n
  | 0, _ => rfl
  | n + 1, h => by
    show vl f n + _ = vl g n + _
    rw [vl_congr (fun j hj => h j (by omega)), h n (by omega)]
theorem vl_nn {f : Nat → Int64} : ∀ {n : Nat}, (∀ j, j < n → 0 ≤ (f j).toInt) → 0 ≤ vl f n
  | 0, _ => Int.le_refl 0
  | n + 1, h => Int.add_nonneg (vl_nn (fun j hj => h j (by omega))) (Int.mul_nonneg (h n (by omega)) (Int.pow_nonneg (by decide)))
theorem vl_lt {f : Nat → Int64} : ∀ {n : Nat}, dgs f n → vl f n < 268435456 ^ n
  | 0, _ => by show (0 : Int) < 1; decide
  | n + 1, h => by
    have h1 := vl_lt (fun j hj => h j (Nat.lt_succ_of_lt hj) : dgs f n)
    have h2 := (h n (Nat.lt_succ_self n)).2
    have h3 : (0 : Int) ≤ 268435456 ^ n := Int.pow_nonneg (by decide)
    show vl f n + (f n).toInt * 268435456 ^ n < 268435456 ^ (n + 1)
    rw [Int.pow_succ]
    have h4 : (f n).toInt * 268435456 ^ n ≤ 268435455 * 268435456 ^ n := Int.mul_le_mul_of_nonneg_right (by omega) h3
    omega
theorem vl_zeros {f : Nat → Int64} {n : Nat} : ∀ {m : Nat}, (∀ j, n ≤ j → j < n + m → (f j).toInt = 0) → vl f (n + m) = vl f n
  | 0, _ => rfl
  | m + 1, h => by
    show vl f (n + m) + (f (n + m)).toInt * _ = _
    rw [h (n + m) (by omega) (by omega), vl_zeros (fun j h1 h2 => h j h1 (by omega))]
    omega
theorem upL_s {f : Nat → Int64} {k : Nat} {x : Int64} : vp_updL f k x k = x := if_pos rfl
theorem upL_n {f : Nat → Int64} {k j : Nat} {x : Int64} (h : j ≠ k) : vp_updL f k x j = f j := if_neg h
/-- digits behind a carry over the first room places -/
def carried (ds : Nat → Int64) (room : Nat) (ds' : Nat → Int64) (n' : Nat) : Prop := dgs ds' room ∧ (∀ j, room ≤ j → ds' j = ds j) ∧ n' ≤ room ∧ (∀ j, n' ≤ j → j < room → (ds' j).toInt = 0) ∧ nrm ds' n' ∧ ∃ c : Int, 0 ≤ c ∧ vl ds room = vl ds' room + c * 268435456 ^ room
def carryI (ds : Nat → Int64) (i : Nat) (cur : Nat → Int64) (len : Nat) (over : Int64) : Prop := (∀ j, i ≤ j → cur j = ds j) ∧ dgs cur i ∧ len ≤ i ∧ (∀ j, len ≤ j → j < i → (cur j).toInt = 0) ∧ nrm cur len ∧ 0 ≤ over.toInt ∧ over.toInt < 34359738368 ∧ vl ds i = vl cur i + over.toInt * 268435456 ^ i
theorem carryI_0 (ds : Nat → Int64) : carryI ds 0 ds 0 0 := ⟨fun _ _ => rfl, fun i h => absurd h (by omega), Nat.le_refl _, fun j _ h => absurd h (by omega), Or.inl rfl, by decide, by decide, by show (0 : Int) = 0 + (0 : Int64).toInt * 268435456 ^ 0; decide⟩
theorem carryI_s {ds cur : Nat → Int64} {i len : Nat} {over : Int64} (h : carryI ds i cur len over) (hd : 0 ≤ (ds i).toInt ∧ (ds i).toInt < 9223372002495037440) : carryI ds (i + 1) (vp_updL cur i ((cur i + over) &&& 268435455)) (if (vp_updL cur i ((cur i + over) &&& 268435455) i).toInt = 0 then len else i + 1) ((cur i + over).toUInt64 >>> ((nI 28).toInt64.toUInt64 &&& Int64.toUInt64 63)).toInt64 := by
  obtain ⟨h1, h2, h3, h4, h5, h6, h7, h8⟩ := h
  have e0 : cur i = ds i := h1 i (Nat.le_refl _)
  rw [e0]
  have hs : (ds i + over).toInt = (ds i).toInt + over.toInt := L_add (by omega) (by omega)
  have hs0 : 0 ≤ (ds i + over).toInt := by omega
  have em := L_mask hs0
  have eq := L_ushr (x := ds i + over) (k := 28) (s := nI 28) (by decide) (by decide) hs0
  generalize hM : (ds i + over) &&& 268435455 = M at em ⊢
  generalize hO : ((ds i + over).toUInt64 >>> ((nI 28).toInt64.toUInt64 &&& Int64.toUInt64 63)).toInt64 = O at eq ⊢
  rw [hs] at em eq
  rw [upL_s]
  have hM0 : 0 ≤ M.toInt ∧ M.toInt < 268435456 := by omega
  refine ⟨fun j hj => by rw [upL_n (by omega)]; exact h1 j (by omega), fun j hj => ?_, by split <;> omega, fun j hj1 hj2 => ?_, ?_, by omega, by omega, ?_⟩
  · by_cases hji : j = i
    · subst hji; rw [upL_s]; exact hM0
    · rw [upL_n hji]; exact h2 j (by omega)
  · by_cases hM1 : M.toInt = 0
    · rw [if_pos hM1] at hj1
      by_cases hji : j = i
      · subst hji; rw [upL_s]; exact hM1
      · rw [upL_n hji]; exact h4 j hj1 (by omega)
    · rw [if_neg hM1] at hj1; omega
  · by_cases hM1 : M.toInt = 0
    · rw [if_pos hM1]
      rcases h5 with h5 | h5
      · exact Or.inl h5
      · by_cases hl : len = 0
        · exact Or.inl hl
        · refine Or.inr ?_
          rw [upL_n (by omega)]; exact h5
    · rw [if_neg hM1]
      refine Or.inr ?_
      rw [Nat.add_sub_cancel, upL_s]; exact hM1
  · show vl ds i + (ds i).toInt * 268435456 ^ i = vl (vp_updL cur i M) i + (vp_updL cur i M i).toInt * 268435456 ^ i + O.toInt * 268435456 ^ (i + 1)
    rw [upL_s, vl_congr (f := vp_updL cur i M) (g := cur) (fun j hj => upL_n (by omega)), h8, Int.pow_succ]
    generalize (268435456 : Int) ^ i = P
    have h9 : (ds i).toInt + over.toInt = M.toInt + O.toInt * 268435456 := by omega
    have h10 : ((ds i).toInt + over.toInt) * P = (M.toInt + O.toInt * 268435456) * P := by rw [h9]
    rw [Int.add_mul, Int.add_mul] at h10
    have h11 : O.toInt * 268435456 * P = O.toInt * (P * 268435456) := by rw [Int.mul_assoc, Int.mul_comm 268435456 P]
    omega
theorem carryI_end {ds cur : Nat → Int64} {i len : Nat} {over : Int64} (h : carryI ds i cur len over) : carried ds i cur len := by
  obtain ⟨h1, h2, h3, h4, h5, h6, h7, h8⟩ := h
  exact ⟨h2, h1, h3, h4, h5, over.toInt, h6, h8⟩
abbrev BX10_carry (w0 : Wd) (Post : Option Value → Wd → Prop) (w : Wd) (pc : Nat) (ls : List (Nat × Value)) (st : List Value) : Prop := GP "carry" RX10 cX10_carry 7 none 0 0 none w0 Post w pc ls st
abbrev EX10_carry (As : List Value) (w : Wd) (Post : Option Value → Wd → Prop) : Prop := EP yX10_carry cX10_carry 7 none 0 As w Post
theorem carry_loop {w0 w : Wd} {Post : Option Value → Wd → Prop} {o a N n0 room : Nat} {ds : Nat → Int64} (ho : w[o]? = some (oW a n0)) (ha : w[a]? = some (aL N ds)) (hne : o ≠ a) (hr : room ≤ N) (hN : N < 2147483648) (hd : ∀ i, i < room → 0 ≤ (ds i).toInt ∧ (ds i).toInt < 9223372002495037440) (hx : ∀ ds' n', carried ds room ds' n' → Post none ((w.set o (oW a n')).set a (aL N ds'))) : ∀ (k i : Nat) (cur : Nat → Int64) (len : Nat) (over : Int64) (ls : List (Nat × Value)), room = i + k → carryI ds i cur len over → (∀ q ∈ [(4, .int (nI i)), (2, .long over), (0, .ref o), (1, .int (nI room))], q ∈ ls) → BX10_carry w0 Post ((w.set o (.inr (9, [.ref a, .int (nI len)]))).set a (aL N cur)) 10 ls [] := by
  intro k
  induction k with
  | zero =>
    intro i cur len over ls hi hI hls
    refine GP.lsub [(4, .int (nI i)), (2, .long over), (0, .ref o), (1, .int (nI room))] hls ?_
    refine g_iload (pc := 10) 0 dX10_carry_10 rfl ?_
    refine g_iload_n (pc := 12) 3 dX10_carry_12 rfl rfl ?_
    refine n_icmp_ge (pc := 13) 79 dX10_carry_13 (by decide) (by omega) (by omega) (fun h => ?_) (fun h => ?_)
    · exact g_vret (pc := 79) dX10_carry_79 (hx cur len (by rw [show room = i by omega]; exact carryI_end hI))
    · exact absurd hi (by omega)
  | succ k ih =>
    intro i cur len over ls hi hI hls
    refine GP.lsub [(4, .int (nI i)), (2, .long over), (0, .ref o), (1, .int (nI room))] hls ?_
    refine g_iload (pc := 10) 0 dX10_carry_10 rfl ?_
    refine g_iload_n (pc := 12) 3 dX10_carry_12 rfl rfl ?_
    refine n_icmp_ge (pc := 13) 79 dX10_carry_13 (by decide) (by omega) (by omega) (fun h => ?_) (fun h => ?_)
    · exact absurd hi (by omega)
    · have hs := carryI_s hI (hd i (by omega))
      refine g_aload_n (pc := 16) 2 dX10_carry_16 rfl rfl ?_
      refine g_get (pc := 17) dX10_carry_17 fk_X10_19 (lk_ne (Ne.symm hne) (lk_eq ho)) rfl ?_
      refine g_iload (pc := 20) 0 dX10_carry_20 rfl ?_
      refine g_lald (pc := 22) i dX10_carry_22 (lk_eq (lk_ne hne ha)) (IXn (by omega) (by omega)) ?_
      refine g_lload_n (pc := 23) 1 dX10_carry_23 rfl rfl ?_
      refine g_ladd (pc := 24) dX10_carry_24 ?_
      refine g_lstore (pc := 25) [(5, .long ((cur i) + over)), (4, .int (nI i)), (2, .long over), (0, .ref o), (1, .int (nI room))] dX10_carry_25 (by decide) rfl ?_
      refine g_aload_n (pc := 27) 3 dX10_carry_27 rfl rfl ?_
      refine g_get (pc := 28) dX10_carry_28 fk_X10_19 (lk_ne (Ne.symm hne) (lk_eq ho)) rfl ?_
      refine g_iload (pc := 31) 1 dX10_carry_31 rfl ?_
      refine g_lload (pc := 33) 0 dX10_carry_33 rfl ?_
      refine g_ldc2 (pc := 35) kc_X10_23 dX10_carry_35 ?_
      refine g_land (pc := 38) dX10_carry_38 ?_
      refine g_last (pc := 39) i dX10_carry_39 (lk_eq (lk_ne hne ha)) (IXn (by omega) (by omega)) ?_
      refine GP.weq ((w.set o (.inr (9, [.ref a, .int (nI len)]))).set a (aL N (vp_updL cur i (((cur i) + over) &&& (268435455))))) (by rw [List.set_set]) ?_
      refine g_lload (pc := 40) 0 dX10_carry_40 rfl ?_
      refine g_bipush (pc := 42) (v := nI 28) dX10_carry_42 (by decide) ?_
      refine g_lushr (pc := 44) dX10_carry_44 ?_
      refine g_lstore_n (pc := 45) [(2, .long ((((cur i) + over).toUInt64 >>> ((nI 28).toInt64.toUInt64 &&& Int64.toUInt64 63)).toInt64)), (5, .long ((cur i) + over)), (4, .int (nI i)), (0, .ref o), (1, .int (nI room))] dX10_carry_45 rfl (by decide) rfl ?_
      refine g_aload_n (pc := 46) 3 dX10_carry_46 rfl rfl ?_
      refine g_aload_n (pc := 47) 3 dX10_carry_47 rfl rfl ?_
      refine g_get (pc := 48) dX10_carry_48 fk_X10_19 (lk_ne (Ne.symm hne) (lk_eq ho)) rfl ?_
      refine g_iload (pc := 51) 2 dX10_carry_51 rfl ?_
      refine g_lald (pc := 53) i dX10_carry_53 (lk_eq (lk_ne hne ha)) (IXn (by omega) (by omega)) ?_
      refine g_lconst (pc := 54) (v := 0) dX10_carry_54 (by decide) ?_
      refine g_lcmp_ne (pc := 55) 66 dX10_carry_55 dX10_carry_56 (by decide) (fun hz => ?_) (fun hz => ?_)
      · refine g_iload (pc := 66) 2 dX10_carry_66 rfl ?_
        refine g_iconst (pc := 68) (v := nI 1) dX10_carry_68 (by decide) ?_
        refine n_iadd (pc := 69) dX10_carry_69 ?_
        refine g_put (pc := 70) [.ref a, .int (nI (i + 1))] dX10_carry_70 fk_X10_9 (lk_ne (Ne.symm hne) (lk_eq ho)) (Nat.le_of_ble_eq_true rfl) rfl rfl ?_
        refine GP.weq ((w.set o (.inr (9, [.ref a, .int (nI (i + 1))]))).set a (aL N (vp_updL cur i (((cur i) + over) &&& (268435455))))) (by rw [List.set_comm _ _ (Ne.symm hne), List.set_set]) ?_
        refine n_iinc (pc := 73) (c := 1) [(4, .int (nI (i + 1))), (2, .long ((((cur i) + over).toUInt64 >>> ((nI 28).toInt64.toUInt64 &&& Int64.toUInt64 63)).toInt64)), (5, .long ((cur i) + over)), (0, .ref o), (1, .int (nI room))] 2 dX10_carry_73 rfl (by decide) (by decide) rfl ?_
        refine g_goto (pc := 76) 10 dX10_carry_76 (by decide) ?_
        rw [if_neg (fun g => hz (L0.mp g))] at hs
        exact ih (i + 1) _ _ _ _ (by omega) hs (by simp)
      · refine g_aload_n (pc := 59) 3 dX10_carry_59 rfl rfl ?_
        refine g_get (pc := 60) dX10_carry_60 fk_X10_9 (lk_ne (Ne.symm hne) (lk_eq ho)) rfl ?_
        refine g_goto (pc := 63) 70 dX10_carry_63 (by decide) ?_
        refine g_put (pc := 70) [.ref a, .int (nI len)] dX10_carry_70 fk_X10_9 (lk_ne (Ne.symm hne) (lk_eq ho)) (Nat.le_of_ble_eq_true rfl) rfl rfl ?_
        refine GP.weq ((w.set o (.inr (9, [.ref a, .int (nI len)]))).set a (aL N (vp_updL cur i (((cur i) + over) &&& (268435455))))) (by rw [List.set_comm _ _ (Ne.symm hne), List.set_set]) ?_
        refine n_iinc (pc := 73) (c := 1) [(4, .int (nI (i + 1))), (2, .long ((((cur i) + over).toUInt64 >>> ((nI 28).toInt64.toUInt64 &&& Int64.toUInt64 63)).toInt64)), (5, .long ((cur i) + over)), (0, .ref o), (1, .int (nI room))] 2 dX10_carry_73 rfl (by decide) (by decide) rfl ?_
        refine g_goto (pc := 76) 10 dX10_carry_76 (by decide) ?_
        rw [if_pos (L0.mpr (Classical.not_not.mp hz))] at hs
        exact ih (i + 1) _ _ _ _ (by omega) hs (by simp)
theorem sp_carry (w : Wd) (o a N n0 room : Nat) (ds : Nat → Int64) (ho : w[o]? = some (oW a n0)) (ha : w[a]? = some (aL N ds)) (hne : o ≠ a) (hr : room ≤ N) (hN : N < 2147483648) (hd : ∀ i, i < room → 0 ≤ (ds i).toInt ∧ (ds i).toInt < 9223372002495037440) : EX10_carry [.ref o, .int (nI room)] w (fun r w' => r = none ∧ ∃ ds' n', carried ds room ds' n' ∧ w' = (w.set o (oW a n')).set a (aL N ds')) := by
  refine EP.of (plainFor_of_name (by decide)) [(0, .ref o), (1, .int (nI room))] rfl (Nat.le_of_ble_eq_true rfl) (fun r wf h => by obtain ⟨rfl, -⟩ := h; trivial) ?_
  show BX10_carry w _ w 0 [(0, .ref o), (1, .int (nI room))] []
  refine g_lconst (pc := 0) (v := 0) dX10_carry_0 (by decide) ?_
  refine g_lstore_n (pc := 1) [(2, .long 0), (0, .ref o), (1, .int (nI room))] dX10_carry_1 rfl (by decide) rfl ?_
  refine g_aload_n (pc := 2) 1 dX10_carry_2 rfl rfl ?_
  refine g_iconst (pc := 3) (v := nI 0) dX10_carry_3 (by decide) ?_
  refine g_put (pc := 4) [.ref a, .int (nI 0)] dX10_carry_4 fk_X10_9 ho (Nat.le_of_ble_eq_true rfl) rfl rfl ?_
  refine g_iconst (pc := 7) (v := nI 0) dX10_carry_7 (by decide) ?_
  refine g_istore (pc := 8) [(4, .int (nI 0)), (2, .long 0), (0, .ref o), (1, .int (nI room))] dX10_carry_8 (by decide) rfl ?_
  refine GP.weq ((w.set o (oW a 0)).set a (aL N ds)) (by rw [set_same (lk_ne hne ha)]) ?_
  exact carry_loop ho ha hne hr hN hd (fun ds' n' h => ⟨rfl, ds', n', h, rfl⟩) room 0 ds 0 0 _ (by omega) (carryI_0 ds) (by simp)
