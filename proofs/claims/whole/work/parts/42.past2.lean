abbrev BX5_drop (w0 : Wd) (Post : Option Value → Wd → Prop) (w : Wd) (pc : Nat) (ls : List (Nat × Value)) (st : List Value) : Prop := GP "drop" RX5 cX5_drop 3 (some (.object "MahlerBox$Shelf")) 0 0 none w0 Post w pc ls st
abbrev EX5_drop (As : List Value) (w : Wd) (Post : Option Value → Wd → Prop) : Prop := EP yX5_drop cX5_drop 3 (some (.object "MahlerBox$Shelf")) 0 As w Post
theorem sp_drop (w : Wd) {o s k sz : Nat} {h : Nat → Option Nat} {g : Nat → Int32} (ho : w[o]? = some (oA s k sz)) (hs : w[s]? = some (aR 5 8 h)) (hk : w[k]? = some (aI 0 8 g)) (hos : o ≠ s) (hok : o ≠ k) (hsk : s ≠ k) {x v : Nat} (h0 : 0 < sz) (h8 : sz ≤ 8) (hv : h (sz - 1) = some v) : EX5_drop [.ref o, .ref x] w (fun r w' => r = some (.ref v) ∧ w' = (w.set o (oA s k (sz - 1))).set s (aR 5 8 (va_up h (sz - 1) none))) := by
  refine EP.of (plainFor_of_name (by decide)) [(0, .ref o), (1, .ref x)] rfl (Nat.le_of_ble_eq_true rfl) (fun r wf h => by obtain ⟨rfl, -⟩ := h; trivial) ?_
  show BX5_drop w _ w 0 [(0, .ref o), (1, .ref x)] []
  refine g_aload_n (pc := 0) 0 dX5_drop_0 rfl rfl ?_
  refine g_get (pc := 1) dX5_drop_1 fk_X5_21 ho rfl ?_
  refine n_if_ne (pc := 4) 9 dX5_drop_4 (by decide) (by omega) (fun h1 => ?_) (fun h1 => ?_)
  · refine g_aload_n (pc := 9) 0 dX5_drop_9 rfl rfl ?_
    refine g_dup (pc := 10) dX5_drop_10 rfl ?_
    refine g_get (pc := 11) dX5_drop_11 fk_X5_21 ho rfl ?_
    refine g_iconst (pc := 14) (v := nI 1) dX5_drop_14 (by decide) ?_
    refine n_isub (pc := 15) dX5_drop_15 (by omega) ?_
    refine g_put (pc := 16) [.ref s, .ref k, .int (nI (sz - 1))] dX5_drop_16 fk_X5_21 ho (Nat.le_of_ble_eq_true rfl) rfl rfl ?_
    refine g_aload_n (pc := 19) 0 dX5_drop_19 rfl rfl ?_
    refine g_get (pc := 20) dX5_drop_20 fk_X5_13 (lk_eq ho) rfl ?_
    refine g_aload_n (pc := 23) 0 dX5_drop_23 rfl rfl ?_
    refine g_get (pc := 24) dX5_drop_24 fk_X5_21 (lk_eq ho) rfl ?_
    refine g_aald (pc := 27) (v := .ref v) (sz - 1) dX5_drop_27 (lk_ne hos hs) (by decide) (IXn (by omega) (by omega)) (by rw [hv]; rfl) ?_
    refine g_astore_n (pc := 28) [(2, .ref v), (0, .ref o), (1, .ref x)] dX5_drop_28 rfl (by decide) rfl ?_
    refine g_aload_n (pc := 29) 1 dX5_drop_29 rfl rfl ?_
    refine g_get (pc := 30) dX5_drop_30 fk_X5_13 (lk_eq ho) rfl ?_
    refine g_aload_n (pc := 33) 1 dX5_drop_33 rfl rfl ?_
    refine g_get (pc := 34) dX5_drop_34 fk_X5_21 (lk_eq ho) rfl ?_
    refine g_null (pc := 37) dX5_drop_37 ?_
    refine g_aastN (pc := 38) (sz - 1) dX5_drop_38 (lk_ne hos hs) (by decide) (IXn (by omega) (by omega)) ?_
    refine g_aload_n (pc := 39) 0 dX5_drop_39 rfl rfl ?_
    refine g_ifnonnull (pc := 40) 47 dX5_drop_40 (by decide) ?_
    refine g_aload_n (pc := 47) 0 dX5_drop_47 rfl rfl ?_
    exact g_aret (pc := 48) dX5_drop_48 ⟨rfl, rfl⟩
  · exact absurd h1 (by omega)
abbrev BX5_forget (w0 : Wd) (Post : Option Value → Wd → Prop) (w : Wd) (pc : Nat) (ls : List (Nat × Value)) (st : List Value) : Prop := GP "forget" RX5 cX5_forget 2 none 0 0 none w0 Post w pc ls st
abbrev EX5_forget (As : List Value) (w : Wd) (Post : Option Value → Wd → Prop) : Prop := EP yX5_forget cX5_forget 2 none 0 As w Post
theorem fg_loop {w0 w : Wd} {o s k sz : Nat} {h : Nat → Option Nat} {g : Nat → Int32} (ho : w[o]? = some (oA s k sz)) (hs : w[s]? = some (aR 5 8 h)) (hk : w[k]? = some (aI 0 8 g)) (hos : o ≠ s) (hok : o ≠ k) (hsk : s ≠ k) : ∀ (z i : Nat) (ch : Nat → Option Nat), 8 = i + z → (∀ j, j < i → ch j = none) → BX5_forget w0 (fun r w' => r = none ∧ ∃ h' : Nat → Option Nat, (∀ j, j < 8 → h' j = none) ∧ w' = (w.set s (aR 5 8 h')).set o (oA s k 0)) (w.set s (aR 5 8 ch)) 2 [(1, .int (nI i)), (0, .ref o)] [] := by
  intro z
  induction z with
  | zero =>
    intro i ch hi h1
    refine g_iload_n (pc := 2) 0 dX5_forget_2 rfl rfl ?_
    refine g_bipush (pc := 3) (v := nI 8) dX5_forget_3 (by decide) ?_
    refine n_icmp_ge (pc := 5) 21 dX5_forget_5 (by decide) (by omega) (by omega) (fun hb => ?_) (fun hb => ?_)
    · refine g_aload_n (pc := 21) 1 dX5_forget_21 rfl rfl ?_
      refine g_iconst (pc := 22) (v := nI 0) dX5_forget_22 (by decide) ?_
      refine g_put (pc := 23) [.ref s, .ref k, .int (nI 0)] dX5_forget_23 fk_X5_21 (lk_ne (Ne.symm hos) ho) (Nat.le_of_ble_eq_true rfl) rfl rfl ?_
      exact g_vret (pc := 26) dX5_forget_26 ⟨rfl, ch, fun j hj => h1 j (by omega), rfl⟩
    · exact absurd hb (by omega)
  | succ z ih =>
    intro i ch hi h1
    refine g_iload_n (pc := 2) 0 dX5_forget_2 rfl rfl ?_
    refine g_bipush (pc := 3) (v := nI 8) dX5_forget_3 (by decide) ?_
    refine n_icmp_ge (pc := 5) 21 dX5_forget_5 (by decide) (by omega) (by omega) (fun hb => ?_) (fun hb => ?_)
    · exact absurd hb (by omega)
    · refine g_aload_n (pc := 8) 1 dX5_forget_8 rfl rfl ?_
      refine g_get (pc := 9) dX5_forget_9 fk_X5_13 (lk_ne (Ne.symm hos) ho) rfl ?_
      refine g_iload_n (pc := 12) 0 dX5_forget_12 rfl rfl ?_
      refine g_null (pc := 13) dX5_forget_13 ?_
      refine g_aastN (pc := 14) i dX5_forget_14 (lk_eq hs) (by decide) (IXn (by omega) (by omega)) ?_
      refine GP.weq (w.set s (aR 5 8 (va_up ch i none))) (by rw [List.set_set]) ?_
      refine n_iinc (pc := 15) (c := 1) [(1, .int (nI (i + 1))), (0, .ref o)] 0 dX5_forget_15 rfl (by decide) (by decide) rfl ?_
      refine g_goto (pc := 18) 2 dX5_forget_18 (by decide) ?_
      refine GP.lsub _ (by simp) (ih (i + 1) _ (by omega) (fun j hj => ?_))
      by_cases hji : j = i
      · subst hji; exact vaup_s
      · rw [vaup_n hji]; exact h1 j (by omega)
theorem sp_forget (w : Wd) {o s k sz : Nat} {h : Nat → Option Nat} {g : Nat → Int32} (ho : w[o]? = some (oA s k sz)) (hs : w[s]? = some (aR 5 8 h)) (hk : w[k]? = some (aI 0 8 g)) (hos : o ≠ s) (hok : o ≠ k) (hsk : s ≠ k) : EX5_forget [.ref o] w (fun r w' => r = none ∧ ∃ h' : Nat → Option Nat, (∀ j, j < 8 → h' j = none) ∧ w' = (w.set s (aR 5 8 h')).set o (oA s k 0)) := by
  refine EP.of (plainFor_of_name (by decide)) [(0, .ref o)] rfl (Nat.le_of_ble_eq_true rfl) (fun r wf h => by obtain ⟨rfl, -⟩ := h; trivial) ?_
  show BX5_forget w _ w 0 [(0, .ref o)] []
  refine GP.weq (w.set s (aR 5 8 h)) (by rw [set_same hs]) ?_
  refine g_iconst (pc := 0) (v := nI 0) dX5_forget_0 (by decide) ?_
  refine g_istore_n (pc := 1) [(1, .int (nI 0)), (0, .ref o)] dX5_forget_1 rfl (by decide) rfl ?_
  exact GP.lsub _ (by simp) (fg_loop ho hs hk hos hok hsk 8 0 h (by omega) (fun j hj => absurd hj (by omega)))
abbrev BX5_init (w0 : Wd) (Post : Option Value → Wd → Prop) (w : Wd) (pc : Nat) (ls : List (Nat × Value)) (st : List Value) : Prop := GP "<init>" RX5 cX5_init 1 none 1 39 none w0 Post w pc ls st
abbrev EX5_init (As : List Value) (w : Wd) (Post : Option Value → Wd → Prop) : Prop := EP yX5_init cX5_init 1 none 1 As w Post
theorem sp_newPast (w : Wd) {o : Nat} (ho : w[o]? = some (.inr (5, [.null, .null, .int 0]))) : EX5_init [.ref o] w (fun r w' => r = none ∧ w' = w.set o (oA w.length (w.length + 1) 0) ++ [aR 5 8 (fun _ => none), aI 0 8 (fun _ => 0)]) := by
  refine EP.of (plainFor_of_name (by decide)) [(0, .ref o)] rfl (Nat.le_of_ble_eq_true rfl) (fun r wf h => by obtain ⟨rfl, -⟩ := h; trivial) ?_
  show BX5_init w _ w 0 [(0, .ref o)] []
  refine g_aload_n (pc := 0) 0 dX5_init_0 rfl rfl ?_
  refine g_oinit (pc := 1) dX5_init_1 ol_X5_3 oi_in oi_co (by decide) (Nat.le_of_ble_eq_true rfl) (by decide) ?_
  refine g_aload_n (pc := 4) 0 dX5_init_4 rfl rfl ?_
  refine g_bipush (pc := 5) (v := nI 8) dX5_init_5 (by decide) ?_
  refine g_newq (pc := 7) (k := 5) 8 dX5_init_7 cl_X5_11 (Or.inr (Or.inl ⟨rfl, rfl⟩)) (by decide) (by decide) ?_
  have ho1 : (w ++ [aR 5 8 (fun _ => none)])[o]? = some (.inr (5, [.null, .null, .int 0])) := lk_app ho
  refine g_putF (pc := 10) [.ref w.length, .null, .int 0] dX5_init_10 fk_X5_13 (fun _ _ _ h => by cases h; rfl) rfl ho1 (Nat.le_of_ble_eq_true rfl) rfl rfl ?_
  refine g_aload_n (pc := 13) 0 dX5_init_13 rfl rfl ?_
  refine g_bipush (pc := 14) (v := nI 8) dX5_init_14 (by decide) ?_
  refine g_newaI (pc := 16) 8 dX5_init_16 acI (by decide) (by decide) ?_
  refine GP.tr (w.length + 1) (by simp) ?_
  obtain ⟨w2, hw2⟩ : ∃ w2 : Wd, w2 = ((w ++ [aR 5 8 (fun _ => none)]).set o (.inr (5, [.ref w.length, .null, .int 0]))) ++ [aI 0 8 (fun _ => 0)] := ⟨_, rfl⟩
  rw [← hw2]
  have ho2 : w2[o]? = some (.inr (5, [.ref w.length, .null, .int 0])) := by rw [hw2]; exact lk_app (lk_eq ho1)
  refine g_putF (pc := 18) [.ref w.length, .ref (w.length + 1), .int 0] dX5_init_18 fk_X5_17 (fun _ _ _ h => by cases h; rfl) rfl ho2 (Nat.le_of_ble_eq_true rfl) rfl rfl ?_
  refine g_aload_n (pc := 21) 0 dX5_init_21 rfl rfl ?_
  refine g_iconst (pc := 22) (v := nI 0) dX5_init_22 (by decide) ?_
  refine g_put (pc := 23) [.ref w.length, .ref (w.length + 1), .int (nI 0)] dX5_init_23 fk_X5_21 (lk_eq ho2) (Nat.le_of_ble_eq_true rfl) rfl rfl ?_
  refine GP.weq (w2.set o (.inr (5, [.ref w.length, .ref (w.length + 1), .int (nI 0)]))) (by rw [List.set_set]) ?_
  exact g_vret (pc := 26) dX5_init_26 ⟨rfl, by rw [hw2, set_app (lk_eq ho1), List.set_set, set_app ho, List.append_assoc]; rfl⟩
