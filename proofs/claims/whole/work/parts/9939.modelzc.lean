/-! the reference: its constructor -/
def rI (k : Nat) : Nat → Int32 := fun i => if i % 14 = 1 ∧ i / 14 < k then nI 1 else 0
theorem rI_s {k : Nat} : upd (rI k) (14 * k + 1) (nI 1) = rI (k + 1) := by
  funext i
  by_cases e : i = 14 * k + 1
  · rw [e, upd_s]; exact (if_pos (by omega)).symm
  · rw [upd_n e]
    show (if i % 14 = 1 ∧ i / 14 < k then nI 1 else 0) = if i % 14 = 1 ∧ i / 14 < k + 1 then nI 1 else 0
    by_cases g : i % 14 = 1 ∧ i / 14 < k
    · rw [if_pos g, if_pos (by omega)]
    · rw [if_neg g, if_neg (by omega)]
theorem rI_0 : rI 0 = fun _ => 0 := by
  funext i
  exact if_neg (by omega)
theorem rI_R : rowR (rI 8) newS := by
  have z : ∀ i, ¬ (i % 14 = 1 ∧ i / 14 < 8) → rI 8 i = 0 := fun i h => if_neg h
  refine ⟨fun i hi => ⟨okP_one, ?_, fun p hp => ?_⟩, ⟨z 112 (by omega), z 113 (by omega), z 114 (by omega), z 115 (by omega)⟩, ⟨Nat.zero_le _, Nat.zero_le _, Nat.zero_le _, Nat.zero_le _, Nat.zero_le _⟩, fun i hi => absurd hi (Nat.not_lt_zero _)⟩
  · rw [z _ (by omega)]; rfl
  · by_cases e : p = 0
    · rw [e]
      have h1 : rI 8 (14 * i + 1 + 0) = nI 1 := if_pos (by omega)
      rw [h1]; rfl
    · rw [z _ (by omega)]
      show (0 : Int32).toInt = if p = 0 then 1 else 0
      rw [if_neg e]; rfl
theorem lk_l {w : Wd} {c : Ce} {n : Nat} (h : w.length = n) : (w ++ [c])[n]? = some c := by rw [← h]; exact lk_new
abbrev BX12_init (w0 : Wd) (Post : Option Value → Wd → Prop) (w : Wd) (pc : Nat) (ls : List (Nat × Value)) (st : List Value) : Prop := GP "<init>" RX12 cX12_init 2 none 3 117 none w0 Post w pc ls st
abbrev EX12_init (As : List Value) (w : Wd) (Post : Option Value → Wd → Prop) : Prop := EP yX12_init cX12_init 2 none 3 As w Post
theorem mnw_loop {w0 w1 : Wd} {Y : Nat} (hY : w1[Y]? = some (.inr (11, .int 0 :: .int 0 :: .ref (Y + 1) :: .ref (Y + 2) :: .ref (Y + 3) :: .ref (Y + 4) :: .int 0 :: .ref (Y + 5) :: .ref (Y + 6) :: .ref (Y + 7) :: .int 0 :: .ref (Y + 8) :: .int 0 :: .ref (Y + 9) :: .ref (Y + 10) :: .ref (Y + 11) :: .ref (Y + 12) :: .int 0 :: .int 0 :: .int 0 :: .ref (Y + 13) :: .ref (Y + 14) :: .ref (Y + 15) :: .ref (Y + 16) :: .ref (Y + 17) :: .int 0 :: .int (-1) :: .int 0 :: .int 0 :: .ref (Y + 18) :: .ref (Y + 19) :: .ref (Y + 20) :: .ref (Y + 21) :: []))) (h2 : w1[Y + 2]? = some (aI 0 626 (fun _ => 0))) {Q : Option Value → Wd → Prop} (K : BX12_init w0 Q (w1.set (Y + 2) (aI 0 626 (rI 8))) 207 [(0, .ref Y)] []) : ∀ (z k : Nat), 8 = k + z → BX12_init w0 Q (w1.set (Y + 2) (aI 0 626 (rI k))) 183 [(1, .int (nI k)), (0, .ref Y)] [] := by
  intro z
  induction z with
  | zero =>
    intro k hz
    refine g_iload_n (pc := 183) 0 dX12_init_183 rfl rfl ?_
    refine g_bipush (pc := 184) (v := nI 8) dX12_init_184 (by decide) ?_
    refine n_icmp_ge (pc := 186) 207 dX12_init_186 (by decide) (by omega) (by omega) (fun hb9 => ?_) (fun hb9 => ?_)
    · have e9 : k = 8 := by omega
      rw [e9]
      exact GP.lsub _ (by simp) K
    · exact absurd hb9 (by omega)
  | succ z ih =>
    intro k hz
    refine g_iload_n (pc := 183) 0 dX12_init_183 rfl rfl ?_
    refine g_bipush (pc := 184) (v := nI 8) dX12_init_184 (by decide) ?_
    refine n_icmp_ge (pc := 186) 207 dX12_init_186 (by decide) (by omega) (by omega) (fun hb9 => ?_) (fun hb9 => ?_)
    · exact absurd hb9 (by omega)
    · refine g_aload_n (pc := 189) 1 dX12_init_189 rfl rfl ?_
      refine g_get (pc := 190) dX12_init_190 fk_X12_13 (lk_ne (show (Y + 2) ≠ Y by omega) hY) rfl ?_
      refine g_bipush (pc := 193) (v := nI 14) dX12_init_193 (by decide) ?_
      refine g_iload_n (pc := 195) 0 dX12_init_195 rfl rfl ?_
      refine n_imul (pc := 196) dX12_init_196 ?_
      refine g_iconst (pc := 197) (v := nI 1) dX12_init_197 (by decide) ?_
      refine n_iadd (pc := 198) dX12_init_198 ?_
      refine g_iconst (pc := 199) (v := nI 1) dX12_init_199 (by decide) ?_
      refine g_iast (pc := 200) ((14 * k) + 1) dX12_init_200 (lk_eq h2) (IXn (by omega) (by omega)) ?_
      refine GP.weq (w1.set (Y + 2) (aI 0 626 (upd (rI k) ((14 * k) + 1) (nI 1)))) (by rw [List.set_set]) ?_
      refine n_iinc (pc := 201) (c := 1) [(1, .int (nI (k + 1))), (0, .ref Y)] 0 dX12_init_201 rfl (by decide) (by decide) rfl ?_
      refine g_goto (pc := 204) 183 dX12_init_204 (by decide) ?_
      rw [rI_s]
      exact GP.lsub _ (by simp) (ih (k + 1) (by omega))
theorem mnw_1 {w0 v : Wd} {Y : Nat} (hl : v.length = Y + 1) (hH : v[Y]? = some (.inr (11, .int 0 :: .int 0 :: .null :: .null :: .null :: .null :: .int 0 :: .null :: .null :: .null :: .int 0 :: .null :: .int 0 :: .null :: .null :: .null :: .null :: .int 0 :: .int 0 :: .int 0 :: .null :: .null :: .null :: .null :: .null :: .int 0 :: .int 0 :: .int 0 :: .int 0 :: .null :: .null :: .null :: .null :: []))) {Q : Option Value → Wd → Prop} (K : ∀ v' : Wd, v'.length = Y + 2 → v'[Y]? = some (.inr (11, .int 0 :: .int 0 :: .ref (Y + 1) :: .null :: .null :: .null :: .int 0 :: .null :: .null :: .null :: .int 0 :: .null :: .int 0 :: .null :: .null :: .null :: .null :: .int 0 :: .int 0 :: .int 0 :: .null :: .null :: .null :: .null :: .null :: .int 0 :: .int 0 :: .int 0 :: .int 0 :: .null :: .null :: .null :: .null :: [])) → EX (fun i => i = Y) 1 7 v v' → v'[Y + 1]? = some (aI 0 7 (fun _ => 0)) → (∀ j c, v[Y + (j + 1)]? = some c → v'[Y + (j + 1)]? = some c) → BX12_init w0 Q v' 12 [(0, .ref Y)] []) : BX12_init w0 Q v 4 [(0, .ref Y)] [] := by
  refine g_aload_n (pc := 4) 0 dX12_init_4 rfl rfl ?_
  refine g_bipush (pc := 5) (v := nI 7) dX12_init_5 (by decide) ?_
  refine g_newaI (pc := 7) 7 dX12_init_7 acI (by decide) (by decide) ?_
  refine GP.tr (Y + 1) hl ?_
  refine g_putF (pc := 9) (.int 0 :: .int 0 :: .ref (Y + 1) :: .null :: .null :: .null :: .int 0 :: .null :: .null :: .null :: .int 0 :: .null :: .int 0 :: .null :: .null :: .null :: .null :: .int 0 :: .int 0 :: .int 0 :: .null :: .null :: .null :: .null :: .null :: .int 0 :: .int 0 :: .int 0 :: .int 0 :: .null :: .null :: .null :: .null :: []) dX12_init_9 fk_X12_7 (fun _ _ _ h => by cases h; rfl) rfl (lk_app hH) (Nat.le_of_ble_eq_true rfl) rfl rfl ?_
  refine GP.lsub _ (by simp) (K _ ?_ ?_ ?_ ?_ ?_)
  · rw [List.length_set, List.length_append, hl]; rfl
  · exact lk_eq (lk_app hH)
  · exact EX.stp (EX.le (k' := 1) (s' := 7) (EX.apd [aI 0 7 (fun _ => 0)] (EX.rf (S := fun i => i = Y))) (by simp) (by simp [slW, slE])) (lk_app hH) rfl (Or.inl rfl)
  · exact lk_ne (by omega) (lk_l hl)
  · exact fun j c h2 => lk_ne (by omega) (lk_app h2)
theorem mnw_2 {w0 v : Wd} {Y : Nat} (hl : v.length = Y + 2) (hH : v[Y]? = some (.inr (11, .int 0 :: .int 0 :: .ref (Y + 1) :: .null :: .null :: .null :: .int 0 :: .null :: .null :: .null :: .int 0 :: .null :: .int 0 :: .null :: .null :: .null :: .null :: .int 0 :: .int 0 :: .int 0 :: .null :: .null :: .null :: .null :: .null :: .int 0 :: .int 0 :: .int 0 :: .int 0 :: .null :: .null :: .null :: .null :: []))) {Q : Option Value → Wd → Prop} (K : ∀ v' : Wd, v'.length = Y + 3 → v'[Y]? = some (.inr (11, .int 0 :: .int 0 :: .ref (Y + 1) :: .ref (Y + 2) :: .null :: .null :: .int 0 :: .null :: .null :: .null :: .int 0 :: .null :: .int 0 :: .null :: .null :: .null :: .null :: .int 0 :: .int 0 :: .int 0 :: .null :: .null :: .null :: .null :: .null :: .int 0 :: .int 0 :: .int 0 :: .int 0 :: .null :: .null :: .null :: .null :: [])) → EX (fun i => i = Y) 1 626 v v' → v'[Y + 2]? = some (aI 0 626 (fun _ => 0)) → (∀ j c, v[Y + (j + 1)]? = some c → v'[Y + (j + 1)]? = some c) → BX12_init w0 Q v' 21 [(0, .ref Y)] []) : BX12_init w0 Q v 12 [(0, .ref Y)] [] := by
  refine g_aload_n (pc := 12) 0 dX12_init_12 rfl rfl ?_
  refine g_sipush (pc := 13) (v := nI 626) dX12_init_13 (by decide) ?_
  refine g_newaI (pc := 16) 626 dX12_init_16 acI (by decide) (by decide) ?_
  refine GP.tr (Y + 2) hl ?_
  refine g_putF (pc := 18) (.int 0 :: .int 0 :: .ref (Y + 1) :: .ref (Y + 2) :: .null :: .null :: .int 0 :: .null :: .null :: .null :: .int 0 :: .null :: .int 0 :: .null :: .null :: .null :: .null :: .int 0 :: .int 0 :: .int 0 :: .null :: .null :: .null :: .null :: .null :: .int 0 :: .int 0 :: .int 0 :: .int 0 :: .null :: .null :: .null :: .null :: []) dX12_init_18 fk_X12_13 (fun _ _ _ h => by cases h; rfl) rfl (lk_app hH) (Nat.le_of_ble_eq_true rfl) rfl rfl ?_
  refine GP.lsub _ (by simp) (K _ ?_ ?_ ?_ ?_ ?_)
  · rw [List.length_set, List.length_append, hl]; rfl
  · exact lk_eq (lk_app hH)
  · exact EX.stp (EX.le (k' := 1) (s' := 626) (EX.apd [aI 0 626 (fun _ => 0)] (EX.rf (S := fun i => i = Y))) (by simp) (by simp [slW, slE])) (lk_app hH) rfl (Or.inl rfl)
  · exact lk_ne (by omega) (lk_l hl)
  · exact fun j c h2 => lk_ne (by omega) (lk_app h2)
theorem mnw_3 {w0 v : Wd} {Y : Nat} (hl : v.length = Y + 3) (hH : v[Y]? = some (.inr (11, .int 0 :: .int 0 :: .ref (Y + 1) :: .ref (Y + 2) :: .null :: .null :: .int 0 :: .null :: .null :: .null :: .int 0 :: .null :: .int 0 :: .null :: .null :: .null :: .null :: .int 0 :: .int 0 :: .int 0 :: .null :: .null :: .null :: .null :: .null :: .int 0 :: .int 0 :: .int 0 :: .int 0 :: .null :: .null :: .null :: .null :: []))) {Q : Option Value → Wd → Prop} (K : ∀ v' : Wd, v'.length = Y + 4 → v'[Y]? = some (.inr (11, .int 0 :: .int 0 :: .ref (Y + 1) :: .ref (Y + 2) :: .ref (Y + 3) :: .null :: .int 0 :: .null :: .null :: .null :: .int 0 :: .null :: .int 0 :: .null :: .null :: .null :: .null :: .int 0 :: .int 0 :: .int 0 :: .null :: .null :: .null :: .null :: .null :: .int 0 :: .int 0 :: .int 0 :: .int 0 :: .null :: .null :: .null :: .null :: [])) → EX (fun i => i = Y) 1 5008 v v' → v'[Y + 3]? = some (aI 0 5008 (fun _ => 0)) → (∀ j c, v[Y + (j + 1)]? = some c → v'[Y + (j + 1)]? = some c) → BX12_init w0 Q v' 30 [(0, .ref Y)] []) : BX12_init w0 Q v 21 [(0, .ref Y)] [] := by
  refine g_aload_n (pc := 21) 0 dX12_init_21 rfl rfl ?_
  refine g_sipush (pc := 22) (v := nI 5008) dX12_init_22 (by decide) ?_
  refine g_newaI (pc := 25) 5008 dX12_init_25 acI (by decide) (by decide) ?_
  refine GP.tr (Y + 3) hl ?_
  refine g_putF (pc := 27) (.int 0 :: .int 0 :: .ref (Y + 1) :: .ref (Y + 2) :: .ref (Y + 3) :: .null :: .int 0 :: .null :: .null :: .null :: .int 0 :: .null :: .int 0 :: .null :: .null :: .null :: .null :: .int 0 :: .int 0 :: .int 0 :: .null :: .null :: .null :: .null :: .null :: .int 0 :: .int 0 :: .int 0 :: .int 0 :: .null :: .null :: .null :: .null :: []) dX12_init_27 fk_X12_16 (fun _ _ _ h => by cases h; rfl) rfl (lk_app hH) (Nat.le_of_ble_eq_true rfl) rfl rfl ?_
  refine GP.lsub _ (by simp) (K _ ?_ ?_ ?_ ?_ ?_)
  · rw [List.length_set, List.length_append, hl]; rfl
  · exact lk_eq (lk_app hH)
  · exact EX.stp (EX.le (k' := 1) (s' := 5008) (EX.apd [aI 0 5008 (fun _ => 0)] (EX.rf (S := fun i => i = Y))) (by simp) (by simp [slW, slE])) (lk_app hH) rfl (Or.inl rfl)
  · exact lk_ne (by omega) (lk_l hl)
  · exact fun j c h2 => lk_ne (by omega) (lk_app h2)
theorem mnw_4 {w0 v : Wd} {Y : Nat} (hl : v.length = Y + 4) (hH : v[Y]? = some (.inr (11, .int 0 :: .int 0 :: .ref (Y + 1) :: .ref (Y + 2) :: .ref (Y + 3) :: .null :: .int 0 :: .null :: .null :: .null :: .int 0 :: .null :: .int 0 :: .null :: .null :: .null :: .null :: .int 0 :: .int 0 :: .int 0 :: .null :: .null :: .null :: .null :: .null :: .int 0 :: .int 0 :: .int 0 :: .int 0 :: .null :: .null :: .null :: .null :: []))) {Q : Option Value → Wd → Prop} (K : ∀ v' : Wd, v'.length = Y + 5 → v'[Y]? = some (.inr (11, .int 0 :: .int 0 :: .ref (Y + 1) :: .ref (Y + 2) :: .ref (Y + 3) :: .ref (Y + 4) :: .int 0 :: .null :: .null :: .null :: .int 0 :: .null :: .int 0 :: .null :: .null :: .null :: .null :: .int 0 :: .int 0 :: .int 0 :: .null :: .null :: .null :: .null :: .null :: .int 0 :: .int 0 :: .int 0 :: .int 0 :: .null :: .null :: .null :: .null :: [])) → EX (fun i => i = Y) 1 8 v v' → v'[Y + 4]? = some (aI 0 8 (fun _ => 0)) → (∀ j c, v[Y + (j + 1)]? = some c → v'[Y + (j + 1)]? = some c) → BX12_init w0 Q v' 38 [(0, .ref Y)] []) : BX12_init w0 Q v 30 [(0, .ref Y)] [] := by
  refine g_aload_n (pc := 30) 0 dX12_init_30 rfl rfl ?_
  refine g_bipush (pc := 31) (v := nI 8) dX12_init_31 (by decide) ?_
  refine g_newaI (pc := 33) 8 dX12_init_33 acI (by decide) (by decide) ?_
  refine GP.tr (Y + 4) hl ?_
  refine g_putF (pc := 35) (.int 0 :: .int 0 :: .ref (Y + 1) :: .ref (Y + 2) :: .ref (Y + 3) :: .ref (Y + 4) :: .int 0 :: .null :: .null :: .null :: .int 0 :: .null :: .int 0 :: .null :: .null :: .null :: .null :: .int 0 :: .int 0 :: .int 0 :: .null :: .null :: .null :: .null :: .null :: .int 0 :: .int 0 :: .int 0 :: .int 0 :: .null :: .null :: .null :: .null :: []) dX12_init_35 fk_X12_19 (fun _ _ _ h => by cases h; rfl) rfl (lk_app hH) (Nat.le_of_ble_eq_true rfl) rfl rfl ?_
  refine GP.lsub _ (by simp) (K _ ?_ ?_ ?_ ?_ ?_)
  · rw [List.length_set, List.length_append, hl]; rfl
  · exact lk_eq (lk_app hH)
  · exact EX.stp (EX.le (k' := 1) (s' := 8) (EX.apd [aI 0 8 (fun _ => 0)] (EX.rf (S := fun i => i = Y))) (by simp) (by simp [slW, slE])) (lk_app hH) rfl (Or.inl rfl)
  · exact lk_ne (by omega) (lk_l hl)
  · exact fun j c h2 => lk_ne (by omega) (lk_app h2)
theorem mnw_5 {w0 v : Wd} {Y : Nat} (hl : v.length = Y + 5) (hH : v[Y]? = some (.inr (11, .int 0 :: .int 0 :: .ref (Y + 1) :: .ref (Y + 2) :: .ref (Y + 3) :: .ref (Y + 4) :: .int 0 :: .null :: .null :: .null :: .int 0 :: .null :: .int 0 :: .null :: .null :: .null :: .null :: .int 0 :: .int 0 :: .int 0 :: .null :: .null :: .null :: .null :: .null :: .int 0 :: .int 0 :: .int 0 :: .int 0 :: .null :: .null :: .null :: .null :: []))) {Q : Option Value → Wd → Prop} (K : ∀ v' : Wd, v'.length = Y + 6 → v'[Y]? = some (.inr (11, .int 0 :: .int 0 :: .ref (Y + 1) :: .ref (Y + 2) :: .ref (Y + 3) :: .ref (Y + 4) :: .int 0 :: .ref (Y + 5) :: .null :: .null :: .int 0 :: .null :: .int 0 :: .null :: .null :: .null :: .null :: .int 0 :: .int 0 :: .int 0 :: .null :: .null :: .null :: .null :: .null :: .int 0 :: .int 0 :: .int 0 :: .int 0 :: .null :: .null :: .null :: .null :: [])) → EX (fun i => i = Y) 1 1252 v v' → v'[Y + 5]? = some (aI 0 1252 (fun _ => 0)) → (∀ j c, v[Y + (j + 1)]? = some c → v'[Y + (j + 1)]? = some c) → BX12_init w0 Q v' 47 [(0, .ref Y)] []) : BX12_init w0 Q v 38 [(0, .ref Y)] [] := by
  refine g_aload_n (pc := 38) 0 dX12_init_38 rfl rfl ?_
  refine g_sipush (pc := 39) (v := nI 1252) dX12_init_39 (by decide) ?_
  refine g_newaI (pc := 42) 1252 dX12_init_42 acI (by decide) (by decide) ?_
  refine GP.tr (Y + 5) hl ?_
  refine g_putF (pc := 44) (.int 0 :: .int 0 :: .ref (Y + 1) :: .ref (Y + 2) :: .ref (Y + 3) :: .ref (Y + 4) :: .int 0 :: .ref (Y + 5) :: .null :: .null :: .int 0 :: .null :: .int 0 :: .null :: .null :: .null :: .null :: .int 0 :: .int 0 :: .int 0 :: .null :: .null :: .null :: .null :: .null :: .int 0 :: .int 0 :: .int 0 :: .int 0 :: .null :: .null :: .null :: .null :: []) dX12_init_44 fk_X12_22 (fun _ _ _ h => by cases h; rfl) rfl (lk_app hH) (Nat.le_of_ble_eq_true rfl) rfl rfl ?_
  refine GP.lsub _ (by simp) (K _ ?_ ?_ ?_ ?_ ?_)
  · rw [List.length_set, List.length_append, hl]; rfl
  · exact lk_eq (lk_app hH)
  · exact EX.stp (EX.le (k' := 1) (s' := 1252) (EX.apd [aI 0 1252 (fun _ => 0)] (EX.rf (S := fun i => i = Y))) (by simp) (by simp [slW, slE])) (lk_app hH) rfl (Or.inl rfl)
  · exact lk_ne (by omega) (lk_l hl)
  · exact fun j c h2 => lk_ne (by omega) (lk_app h2)
theorem mnw_6 {w0 v : Wd} {Y : Nat} (hl : v.length = Y + 6) (hH : v[Y]? = some (.inr (11, .int 0 :: .int 0 :: .ref (Y + 1) :: .ref (Y + 2) :: .ref (Y + 3) :: .ref (Y + 4) :: .int 0 :: .ref (Y + 5) :: .null :: .null :: .int 0 :: .null :: .int 0 :: .null :: .null :: .null :: .null :: .int 0 :: .int 0 :: .int 0 :: .null :: .null :: .null :: .null :: .null :: .int 0 :: .int 0 :: .int 0 :: .int 0 :: .null :: .null :: .null :: .null :: []))) {Q : Option Value → Wd → Prop} (K : ∀ v' : Wd, v'.length = Y + 7 → v'[Y]? = some (.inr (11, .int 0 :: .int 0 :: .ref (Y + 1) :: .ref (Y + 2) :: .ref (Y + 3) :: .ref (Y + 4) :: .int 0 :: .ref (Y + 5) :: .ref (Y + 6) :: .null :: .int 0 :: .null :: .int 0 :: .null :: .null :: .null :: .null :: .int 0 :: .int 0 :: .int 0 :: .null :: .null :: .null :: .null :: .null :: .int 0 :: .int 0 :: .int 0 :: .int 0 :: .null :: .null :: .null :: .null :: [])) → EX (fun i => i = Y) 1 2 v v' → v'[Y + 6]? = some (aI 3 2 (fun _ => 0)) → (∀ j c, v[Y + (j + 1)]? = some c → v'[Y + (j + 1)]? = some c) → BX12_init w0 Q v' 54 [(0, .ref Y)] []) : BX12_init w0 Q v 47 [(0, .ref Y)] [] := by
  refine g_aload_n (pc := 47) 0 dX12_init_47 rfl rfl ?_
  refine g_iconst (pc := 48) (v := nI 2) dX12_init_48 (by decide) ?_
  refine g_newaZ (pc := 49) 2 dX12_init_49 acZ (by decide) (by decide) ?_
  refine GP.tr (Y + 6) hl ?_
  refine g_putF (pc := 51) (.int 0 :: .int 0 :: .ref (Y + 1) :: .ref (Y + 2) :: .ref (Y + 3) :: .ref (Y + 4) :: .int 0 :: .ref (Y + 5) :: .ref (Y + 6) :: .null :: .int 0 :: .null :: .int 0 :: .null :: .null :: .null :: .null :: .int 0 :: .int 0 :: .int 0 :: .null :: .null :: .null :: .null :: .null :: .int 0 :: .int 0 :: .int 0 :: .int 0 :: .null :: .null :: .null :: .null :: []) dX12_init_51 fk_X12_25 (fun _ _ _ h => by cases h; rfl) rfl (lk_app hH) (Nat.le_of_ble_eq_true rfl) rfl rfl ?_
  refine GP.lsub _ (by simp) (K _ ?_ ?_ ?_ ?_ ?_)
  · rw [List.length_set, List.length_append, hl]; rfl
  · exact lk_eq (lk_app hH)
  · exact EX.stp (EX.le (k' := 1) (s' := 2) (EX.apd [aI 3 2 (fun _ => 0)] (EX.rf (S := fun i => i = Y))) (by simp) (by simp [slW, slE])) (lk_app hH) rfl (Or.inl rfl)
  · exact lk_ne (by omega) (lk_l hl)
  · exact fun j c h2 => lk_ne (by omega) (lk_app h2)
theorem mnw_7 {w0 v : Wd} {Y : Nat} (hl : v.length = Y + 7) (hH : v[Y]? = some (.inr (11, .int 0 :: .int 0 :: .ref (Y + 1) :: .ref (Y + 2) :: .ref (Y + 3) :: .ref (Y + 4) :: .int 0 :: .ref (Y + 5) :: .ref (Y + 6) :: .null :: .int 0 :: .null :: .int 0 :: .null :: .null :: .null :: .null :: .int 0 :: .int 0 :: .int 0 :: .null :: .null :: .null :: .null :: .null :: .int 0 :: .int 0 :: .int 0 :: .int 0 :: .null :: .null :: .null :: .null :: []))) {Q : Option Value → Wd → Prop} (K : ∀ v' : Wd, v'.length = Y + 8 → v'[Y]? = some (.inr (11, .int 0 :: .int 0 :: .ref (Y + 1) :: .ref (Y + 2) :: .ref (Y + 3) :: .ref (Y + 4) :: .int 0 :: .ref (Y + 5) :: .ref (Y + 6) :: .ref (Y + 7) :: .int 0 :: .null :: .int 0 :: .null :: .null :: .null :: .null :: .int 0 :: .int 0 :: .int 0 :: .null :: .null :: .null :: .null :: .null :: .int 0 :: .int 0 :: .int 0 :: .int 0 :: .null :: .null :: .null :: .null :: [])) → EX (fun i => i = Y) 1 60 v v' → v'[Y + 7]? = some (aL 60 (fun _ => 0)) → (∀ j c, v[Y + (j + 1)]? = some c → v'[Y + (j + 1)]? = some c) → BX12_init w0 Q v' 62 [(0, .ref Y)] []) : BX12_init w0 Q v 54 [(0, .ref Y)] [] := by
  refine g_aload_n (pc := 54) 0 dX12_init_54 rfl rfl ?_
  refine g_bipush (pc := 55) (v := nI 60) dX12_init_55 (by decide) ?_
  refine g_newaL (pc := 57) 60 dX12_init_57 acL (by decide) (by decide) ?_
  refine GP.tr (Y + 7) hl ?_
  refine g_putF (pc := 59) (.int 0 :: .int 0 :: .ref (Y + 1) :: .ref (Y + 2) :: .ref (Y + 3) :: .ref (Y + 4) :: .int 0 :: .ref (Y + 5) :: .ref (Y + 6) :: .ref (Y + 7) :: .int 0 :: .null :: .int 0 :: .null :: .null :: .null :: .null :: .int 0 :: .int 0 :: .int 0 :: .null :: .null :: .null :: .null :: .null :: .int 0 :: .int 0 :: .int 0 :: .int 0 :: .null :: .null :: .null :: .null :: []) dX12_init_59 fk_X12_29 (fun _ _ _ h => by cases h; rfl) rfl (lk_app hH) (Nat.le_of_ble_eq_true rfl) rfl rfl ?_
  refine GP.lsub _ (by simp) (K _ ?_ ?_ ?_ ?_ ?_)
  · rw [List.length_set, List.length_append, hl]; rfl
  · exact lk_eq (lk_app hH)
  · exact EX.stp (EX.le (k' := 1) (s' := 60) (EX.apd [aL 60 (fun _ => 0)] (EX.rf (S := fun i => i = Y))) (by simp) (by simp [slW, slE])) (lk_app hH) rfl (Or.inl rfl)
  · exact lk_ne (by omega) (lk_l hl)
  · exact fun j c h2 => lk_ne (by omega) (lk_app h2)
theorem mnw_8 {w0 v : Wd} {Y : Nat} (hl : v.length = Y + 8) (hH : v[Y]? = some (.inr (11, .int 0 :: .int 0 :: .ref (Y + 1) :: .ref (Y + 2) :: .ref (Y + 3) :: .ref (Y + 4) :: .int 0 :: .ref (Y + 5) :: .ref (Y + 6) :: .ref (Y + 7) :: .int 0 :: .null :: .int 0 :: .null :: .null :: .null :: .null :: .int 0 :: .int 0 :: .int 0 :: .null :: .null :: .null :: .null :: .null :: .int 0 :: .int 0 :: .int 0 :: .int 0 :: .null :: .null :: .null :: .null :: []))) {Q : Option Value → Wd → Prop} (K : ∀ v' : Wd, v'.length = Y + 9 → v'[Y]? = some (.inr (11, .int 0 :: .int 0 :: .ref (Y + 1) :: .ref (Y + 2) :: .ref (Y + 3) :: .ref (Y + 4) :: .int 0 :: .ref (Y + 5) :: .ref (Y + 6) :: .ref (Y + 7) :: .int 0 :: .ref (Y + 8) :: .int 0 :: .null :: .null :: .null :: .null :: .int 0 :: .int 0 :: .int 0 :: .null :: .null :: .null :: .null :: .null :: .int 0 :: .int 0 :: .int 0 :: .int 0 :: .null :: .null :: .null :: .null :: [])) → EX (fun i => i = Y) 1 14 v v' → v'[Y + 8]? = some (aL 14 (fun _ => 0)) → (∀ j c, v[Y + (j + 1)]? = some c → v'[Y + (j + 1)]? = some c) → BX12_init w0 Q v' 70 [(0, .ref Y)] []) : BX12_init w0 Q v 62 [(0, .ref Y)] [] := by
  refine g_aload_n (pc := 62) 0 dX12_init_62 rfl rfl ?_
  refine g_bipush (pc := 63) (v := nI 14) dX12_init_63 (by decide) ?_
  refine g_newaL (pc := 65) 14 dX12_init_65 acL (by decide) (by decide) ?_
  refine GP.tr (Y + 8) hl ?_
  refine g_putF (pc := 67) (.int 0 :: .int 0 :: .ref (Y + 1) :: .ref (Y + 2) :: .ref (Y + 3) :: .ref (Y + 4) :: .int 0 :: .ref (Y + 5) :: .ref (Y + 6) :: .ref (Y + 7) :: .int 0 :: .ref (Y + 8) :: .int 0 :: .null :: .null :: .null :: .null :: .int 0 :: .int 0 :: .int 0 :: .null :: .null :: .null :: .null :: .null :: .int 0 :: .int 0 :: .int 0 :: .int 0 :: .null :: .null :: .null :: .null :: []) dX12_init_67 fk_X12_33 (fun _ _ _ h => by cases h; rfl) rfl (lk_app hH) (Nat.le_of_ble_eq_true rfl) rfl rfl ?_
  refine GP.lsub _ (by simp) (K _ ?_ ?_ ?_ ?_ ?_)
  · rw [List.length_set, List.length_append, hl]; rfl
  · exact lk_eq (lk_app hH)
  · exact EX.stp (EX.le (k' := 1) (s' := 14) (EX.apd [aL 14 (fun _ => 0)] (EX.rf (S := fun i => i = Y))) (by simp) (by simp [slW, slE])) (lk_app hH) rfl (Or.inl rfl)
  · exact lk_ne (by omega) (lk_l hl)
  · exact fun j c h2 => lk_ne (by omega) (lk_app h2)
theorem mnw_9 {w0 v : Wd} {Y : Nat} (hl : v.length = Y + 9) (hH : v[Y]? = some (.inr (11, .int 0 :: .int 0 :: .ref (Y + 1) :: .ref (Y + 2) :: .ref (Y + 3) :: .ref (Y + 4) :: .int 0 :: .ref (Y + 5) :: .ref (Y + 6) :: .ref (Y + 7) :: .int 0 :: .ref (Y + 8) :: .int 0 :: .null :: .null :: .null :: .null :: .int 0 :: .int 0 :: .int 0 :: .null :: .null :: .null :: .null :: .null :: .int 0 :: .int 0 :: .int 0 :: .int 0 :: .null :: .null :: .null :: .null :: []))) {Q : Option Value → Wd → Prop} (K : ∀ v' : Wd, v'.length = Y + 10 → v'[Y]? = some (.inr (11, .int 0 :: .int 0 :: .ref (Y + 1) :: .ref (Y + 2) :: .ref (Y + 3) :: .ref (Y + 4) :: .int 0 :: .ref (Y + 5) :: .ref (Y + 6) :: .ref (Y + 7) :: .int 0 :: .ref (Y + 8) :: .int 0 :: .ref (Y + 9) :: .null :: .null :: .null :: .int 0 :: .int 0 :: .int 0 :: .null :: .null :: .null :: .null :: .null :: .int 0 :: .int 0 :: .int 0 :: .int 0 :: .null :: .null :: .null :: .null :: [])) → EX (fun i => i = Y) 1 60 v v' → v'[Y + 9]? = some (aL 60 (fun _ => 0)) → (∀ j c, v[Y + (j + 1)]? = some c → v'[Y + (j + 1)]? = some c) → BX12_init w0 Q v' 78 [(0, .ref Y)] []) : BX12_init w0 Q v 70 [(0, .ref Y)] [] := by
  refine g_aload_n (pc := 70) 0 dX12_init_70 rfl rfl ?_
  refine g_bipush (pc := 71) (v := nI 60) dX12_init_71 (by decide) ?_
  refine g_newaL (pc := 73) 60 dX12_init_73 acL (by decide) (by decide) ?_
  refine GP.tr (Y + 9) hl ?_
  refine g_putF (pc := 75) (.int 0 :: .int 0 :: .ref (Y + 1) :: .ref (Y + 2) :: .ref (Y + 3) :: .ref (Y + 4) :: .int 0 :: .ref (Y + 5) :: .ref (Y + 6) :: .ref (Y + 7) :: .int 0 :: .ref (Y + 8) :: .int 0 :: .ref (Y + 9) :: .null :: .null :: .null :: .int 0 :: .int 0 :: .int 0 :: .null :: .null :: .null :: .null :: .null :: .int 0 :: .int 0 :: .int 0 :: .int 0 :: .null :: .null :: .null :: .null :: []) dX12_init_75 fk_X12_36 (fun _ _ _ h => by cases h; rfl) rfl (lk_app hH) (Nat.le_of_ble_eq_true rfl) rfl rfl ?_
  refine GP.lsub _ (by simp) (K _ ?_ ?_ ?_ ?_ ?_)
  · rw [List.length_set, List.length_append, hl]; rfl
  · exact lk_eq (lk_app hH)
  · exact EX.stp (EX.le (k' := 1) (s' := 60) (EX.apd [aL 60 (fun _ => 0)] (EX.rf (S := fun i => i = Y))) (by simp) (by simp [slW, slE])) (lk_app hH) rfl (Or.inl rfl)
  · exact lk_ne (by omega) (lk_l hl)
  · exact fun j c h2 => lk_ne (by omega) (lk_app h2)
theorem mnw_10 {w0 v : Wd} {Y : Nat} (hl : v.length = Y + 10) (hH : v[Y]? = some (.inr (11, .int 0 :: .int 0 :: .ref (Y + 1) :: .ref (Y + 2) :: .ref (Y + 3) :: .ref (Y + 4) :: .int 0 :: .ref (Y + 5) :: .ref (Y + 6) :: .ref (Y + 7) :: .int 0 :: .ref (Y + 8) :: .int 0 :: .ref (Y + 9) :: .null :: .null :: .null :: .int 0 :: .int 0 :: .int 0 :: .null :: .null :: .null :: .null :: .null :: .int 0 :: .int 0 :: .int 0 :: .int 0 :: .null :: .null :: .null :: .null :: []))) {Q : Option Value → Wd → Prop} (K : ∀ v' : Wd, v'.length = Y + 11 → v'[Y]? = some (.inr (11, .int 0 :: .int 0 :: .ref (Y + 1) :: .ref (Y + 2) :: .ref (Y + 3) :: .ref (Y + 4) :: .int 0 :: .ref (Y + 5) :: .ref (Y + 6) :: .ref (Y + 7) :: .int 0 :: .ref (Y + 8) :: .int 0 :: .ref (Y + 9) :: .ref (Y + 10) :: .null :: .null :: .int 0 :: .int 0 :: .int 0 :: .null :: .null :: .null :: .null :: .null :: .int 0 :: .int 0 :: .int 0 :: .int 0 :: .null :: .null :: .null :: .null :: [])) → EX (fun i => i = Y) 1 60 v v' → v'[Y + 10]? = some (aL 60 (fun _ => 0)) → (∀ j c, v[Y + (j + 1)]? = some c → v'[Y + (j + 1)]? = some c) → BX12_init w0 Q v' 86 [(0, .ref Y)] []) : BX12_init w0 Q v 78 [(0, .ref Y)] [] := by
  refine g_aload_n (pc := 78) 0 dX12_init_78 rfl rfl ?_
  refine g_bipush (pc := 79) (v := nI 60) dX12_init_79 (by decide) ?_
  refine g_newaL (pc := 81) 60 dX12_init_81 acL (by decide) (by decide) ?_
  refine GP.tr (Y + 10) hl ?_
  refine g_putF (pc := 83) (.int 0 :: .int 0 :: .ref (Y + 1) :: .ref (Y + 2) :: .ref (Y + 3) :: .ref (Y + 4) :: .int 0 :: .ref (Y + 5) :: .ref (Y + 6) :: .ref (Y + 7) :: .int 0 :: .ref (Y + 8) :: .int 0 :: .ref (Y + 9) :: .ref (Y + 10) :: .null :: .null :: .int 0 :: .int 0 :: .int 0 :: .null :: .null :: .null :: .null :: .null :: .int 0 :: .int 0 :: .int 0 :: .int 0 :: .null :: .null :: .null :: .null :: []) dX12_init_83 fk_X12_39 (fun _ _ _ h => by cases h; rfl) rfl (lk_app hH) (Nat.le_of_ble_eq_true rfl) rfl rfl ?_
  refine GP.lsub _ (by simp) (K _ ?_ ?_ ?_ ?_ ?_)
  · rw [List.length_set, List.length_append, hl]; rfl
  · exact lk_eq (lk_app hH)
  · exact EX.stp (EX.le (k' := 1) (s' := 60) (EX.apd [aL 60 (fun _ => 0)] (EX.rf (S := fun i => i = Y))) (by simp) (by simp [slW, slE])) (lk_app hH) rfl (Or.inl rfl)
  · exact lk_ne (by omega) (lk_l hl)
  · exact fun j c h2 => lk_ne (by omega) (lk_app h2)
theorem mnw_11 {w0 v : Wd} {Y : Nat} (hl : v.length = Y + 11) (hH : v[Y]? = some (.inr (11, .int 0 :: .int 0 :: .ref (Y + 1) :: .ref (Y + 2) :: .ref (Y + 3) :: .ref (Y + 4) :: .int 0 :: .ref (Y + 5) :: .ref (Y + 6) :: .ref (Y + 7) :: .int 0 :: .ref (Y + 8) :: .int 0 :: .ref (Y + 9) :: .ref (Y + 10) :: .null :: .null :: .int 0 :: .int 0 :: .int 0 :: .null :: .null :: .null :: .null :: .null :: .int 0 :: .int 0 :: .int 0 :: .int 0 :: .null :: .null :: .null :: .null :: []))) {Q : Option Value → Wd → Prop} (K : ∀ v' : Wd, v'.length = Y + 12 → v'[Y]? = some (.inr (11, .int 0 :: .int 0 :: .ref (Y + 1) :: .ref (Y + 2) :: .ref (Y + 3) :: .ref (Y + 4) :: .int 0 :: .ref (Y + 5) :: .ref (Y + 6) :: .ref (Y + 7) :: .int 0 :: .ref (Y + 8) :: .int 0 :: .ref (Y + 9) :: .ref (Y + 10) :: .ref (Y + 11) :: .null :: .int 0 :: .int 0 :: .int 0 :: .null :: .null :: .null :: .null :: .null :: .int 0 :: .int 0 :: .int 0 :: .int 0 :: .null :: .null :: .null :: .null :: [])) → EX (fun i => i = Y) 1 602 v v' → v'[Y + 11]? = some (aI 0 602 (fun _ => 0)) → (∀ j c, v[Y + (j + 1)]? = some c → v'[Y + (j + 1)]? = some c) → BX12_init w0 Q v' 95 [(0, .ref Y)] []) : BX12_init w0 Q v 86 [(0, .ref Y)] [] := by
  refine g_aload_n (pc := 86) 0 dX12_init_86 rfl rfl ?_
  refine g_sipush (pc := 87) (v := nI 602) dX12_init_87 (by decide) ?_
  refine g_newaI (pc := 90) 602 dX12_init_90 acI (by decide) (by decide) ?_
  refine GP.tr (Y + 11) hl ?_
  refine g_putF (pc := 92) (.int 0 :: .int 0 :: .ref (Y + 1) :: .ref (Y + 2) :: .ref (Y + 3) :: .ref (Y + 4) :: .int 0 :: .ref (Y + 5) :: .ref (Y + 6) :: .ref (Y + 7) :: .int 0 :: .ref (Y + 8) :: .int 0 :: .ref (Y + 9) :: .ref (Y + 10) :: .ref (Y + 11) :: .null :: .int 0 :: .int 0 :: .int 0 :: .null :: .null :: .null :: .null :: .null :: .int 0 :: .int 0 :: .int 0 :: .int 0 :: .null :: .null :: .null :: .null :: []) dX12_init_92 fk_X12_42 (fun _ _ _ h => by cases h; rfl) rfl (lk_app hH) (Nat.le_of_ble_eq_true rfl) rfl rfl ?_
  refine GP.lsub _ (by simp) (K _ ?_ ?_ ?_ ?_ ?_)
  · rw [List.length_set, List.length_append, hl]; rfl
  · exact lk_eq (lk_app hH)
  · exact EX.stp (EX.le (k' := 1) (s' := 602) (EX.apd [aI 0 602 (fun _ => 0)] (EX.rf (S := fun i => i = Y))) (by simp) (by simp [slW, slE])) (lk_app hH) rfl (Or.inl rfl)
  · exact lk_ne (by omega) (lk_l hl)
  · exact fun j c h2 => lk_ne (by omega) (lk_app h2)
theorem mnw_12 {w0 v : Wd} {Y : Nat} (hl : v.length = Y + 12) (hH : v[Y]? = some (.inr (11, .int 0 :: .int 0 :: .ref (Y + 1) :: .ref (Y + 2) :: .ref (Y + 3) :: .ref (Y + 4) :: .int 0 :: .ref (Y + 5) :: .ref (Y + 6) :: .ref (Y + 7) :: .int 0 :: .ref (Y + 8) :: .int 0 :: .ref (Y + 9) :: .ref (Y + 10) :: .ref (Y + 11) :: .null :: .int 0 :: .int 0 :: .int 0 :: .null :: .null :: .null :: .null :: .null :: .int 0 :: .int 0 :: .int 0 :: .int 0 :: .null :: .null :: .null :: .null :: []))) {Q : Option Value → Wd → Prop} (K : ∀ v' : Wd, v'.length = Y + 13 → v'[Y]? = some (.inr (11, .int 0 :: .int 0 :: .ref (Y + 1) :: .ref (Y + 2) :: .ref (Y + 3) :: .ref (Y + 4) :: .int 0 :: .ref (Y + 5) :: .ref (Y + 6) :: .ref (Y + 7) :: .int 0 :: .ref (Y + 8) :: .int 0 :: .ref (Y + 9) :: .ref (Y + 10) :: .ref (Y + 11) :: .ref (Y + 12) :: .int 0 :: .int 0 :: .int 0 :: .null :: .null :: .null :: .null :: .null :: .int 0 :: .int 0 :: .int 0 :: .int 0 :: .null :: .null :: .null :: .null :: [])) → EX (fun i => i = Y) 1 91 v v' → v'[Y + 12]? = some (aL 91 (fun _ => 0)) → (∀ j c, v[Y + (j + 1)]? = some c → v'[Y + (j + 1)]? = some c) → BX12_init w0 Q v' 103 [(0, .ref Y)] []) : BX12_init w0 Q v 95 [(0, .ref Y)] [] := by
  refine g_aload_n (pc := 95) 0 dX12_init_95 rfl rfl ?_
  refine g_bipush (pc := 96) (v := nI 91) dX12_init_96 (by decide) ?_
  refine g_newaL (pc := 98) 91 dX12_init_98 acL (by decide) (by decide) ?_
  refine GP.tr (Y + 12) hl ?_
  refine g_putF (pc := 100) (.int 0 :: .int 0 :: .ref (Y + 1) :: .ref (Y + 2) :: .ref (Y + 3) :: .ref (Y + 4) :: .int 0 :: .ref (Y + 5) :: .ref (Y + 6) :: .ref (Y + 7) :: .int 0 :: .ref (Y + 8) :: .int 0 :: .ref (Y + 9) :: .ref (Y + 10) :: .ref (Y + 11) :: .ref (Y + 12) :: .int 0 :: .int 0 :: .int 0 :: .null :: .null :: .null :: .null :: .null :: .int 0 :: .int 0 :: .int 0 :: .int 0 :: .null :: .null :: .null :: .null :: []) dX12_init_100 fk_X12_45 (fun _ _ _ h => by cases h; rfl) rfl (lk_app hH) (Nat.le_of_ble_eq_true rfl) rfl rfl ?_
  refine GP.lsub _ (by simp) (K _ ?_ ?_ ?_ ?_ ?_)
  · rw [List.length_set, List.length_append, hl]; rfl
  · exact lk_eq (lk_app hH)
  · exact EX.stp (EX.le (k' := 1) (s' := 91) (EX.apd [aL 91 (fun _ => 0)] (EX.rf (S := fun i => i = Y))) (by simp) (by simp [slW, slE])) (lk_app hH) rfl (Or.inl rfl)
  · exact lk_ne (by omega) (lk_l hl)
  · exact fun j c h2 => lk_ne (by omega) (lk_app h2)
theorem mnw_13 {w0 v : Wd} {Y : Nat} (hl : v.length = Y + 13) (hH : v[Y]? = some (.inr (11, .int 0 :: .int 0 :: .ref (Y + 1) :: .ref (Y + 2) :: .ref (Y + 3) :: .ref (Y + 4) :: .int 0 :: .ref (Y + 5) :: .ref (Y + 6) :: .ref (Y + 7) :: .int 0 :: .ref (Y + 8) :: .int 0 :: .ref (Y + 9) :: .ref (Y + 10) :: .ref (Y + 11) :: .ref (Y + 12) :: .int 0 :: .int 0 :: .int 0 :: .null :: .null :: .null :: .null :: .null :: .int 0 :: .int 0 :: .int 0 :: .int 0 :: .null :: .null :: .null :: .null :: []))) {Q : Option Value → Wd → Prop} (K : ∀ v' : Wd, v'.length = Y + 14 → v'[Y]? = some (.inr (11, .int 0 :: .int 0 :: .ref (Y + 1) :: .ref (Y + 2) :: .ref (Y + 3) :: .ref (Y + 4) :: .int 0 :: .ref (Y + 5) :: .ref (Y + 6) :: .ref (Y + 7) :: .int 0 :: .ref (Y + 8) :: .int 0 :: .ref (Y + 9) :: .ref (Y + 10) :: .ref (Y + 11) :: .ref (Y + 12) :: .int 0 :: .int 0 :: .int 0 :: .ref (Y + 13) :: .null :: .null :: .null :: .null :: .int 0 :: .int 0 :: .int 0 :: .int 0 :: .null :: .null :: .null :: .null :: [])) → EX (fun i => i = Y) 1 450 v v' → v'[Y + 13]? = some (aL 450 (fun _ => 0)) → (∀ j c, v[Y + (j + 1)]? = some c → v'[Y + (j + 1)]? = some c) → BX12_init w0 Q v' 112 [(0, .ref Y)] []) : BX12_init w0 Q v 103 [(0, .ref Y)] [] := by
  refine g_aload_n (pc := 103) 0 dX12_init_103 rfl rfl ?_
  refine g_sipush (pc := 104) (v := nI 450) dX12_init_104 (by decide) ?_
  refine g_newaL (pc := 107) 450 dX12_init_107 acL (by decide) (by decide) ?_
  refine GP.tr (Y + 13) hl ?_
  refine g_putF (pc := 109) (.int 0 :: .int 0 :: .ref (Y + 1) :: .ref (Y + 2) :: .ref (Y + 3) :: .ref (Y + 4) :: .int 0 :: .ref (Y + 5) :: .ref (Y + 6) :: .ref (Y + 7) :: .int 0 :: .ref (Y + 8) :: .int 0 :: .ref (Y + 9) :: .ref (Y + 10) :: .ref (Y + 11) :: .ref (Y + 12) :: .int 0 :: .int 0 :: .int 0 :: .ref (Y + 13) :: .null :: .null :: .null :: .null :: .int 0 :: .int 0 :: .int 0 :: .int 0 :: .null :: .null :: .null :: .null :: []) dX12_init_109 fk_X12_48 (fun _ _ _ h => by cases h; rfl) rfl (lk_app hH) (Nat.le_of_ble_eq_true rfl) rfl rfl ?_
  refine GP.lsub _ (by simp) (K _ ?_ ?_ ?_ ?_ ?_)
  · rw [List.length_set, List.length_append, hl]; rfl
  · exact lk_eq (lk_app hH)
  · exact EX.stp (EX.le (k' := 1) (s' := 450) (EX.apd [aL 450 (fun _ => 0)] (EX.rf (S := fun i => i = Y))) (by simp) (by simp [slW, slE])) (lk_app hH) rfl (Or.inl rfl)
  · exact lk_ne (by omega) (lk_l hl)
  · exact fun j c h2 => lk_ne (by omega) (lk_app h2)
theorem mnw_14 {w0 v : Wd} {Y : Nat} (hl : v.length = Y + 14) (hH : v[Y]? = some (.inr (11, .int 0 :: .int 0 :: .ref (Y + 1) :: .ref (Y + 2) :: .ref (Y + 3) :: .ref (Y + 4) :: .int 0 :: .ref (Y + 5) :: .ref (Y + 6) :: .ref (Y + 7) :: .int 0 :: .ref (Y + 8) :: .int 0 :: .ref (Y + 9) :: .ref (Y + 10) :: .ref (Y + 11) :: .ref (Y + 12) :: .int 0 :: .int 0 :: .int 0 :: .ref (Y + 13) :: .null :: .null :: .null :: .null :: .int 0 :: .int 0 :: .int 0 :: .int 0 :: .null :: .null :: .null :: .null :: []))) {Q : Option Value → Wd → Prop} (K : ∀ v' : Wd, v'.length = Y + 15 → v'[Y]? = some (.inr (11, .int 0 :: .int 0 :: .ref (Y + 1) :: .ref (Y + 2) :: .ref (Y + 3) :: .ref (Y + 4) :: .int 0 :: .ref (Y + 5) :: .ref (Y + 6) :: .ref (Y + 7) :: .int 0 :: .ref (Y + 8) :: .int 0 :: .ref (Y + 9) :: .ref (Y + 10) :: .ref (Y + 11) :: .ref (Y + 12) :: .int 0 :: .int 0 :: .int 0 :: .ref (Y + 13) :: .ref (Y + 14) :: .null :: .null :: .null :: .int 0 :: .int 0 :: .int 0 :: .int 0 :: .null :: .null :: .null :: .null :: [])) → EX (fun i => i = Y) 1 5 v v' → v'[Y + 14]? = some (aI 0 5 (fun _ => 0)) → (∀ j c, v[Y + (j + 1)]? = some c → v'[Y + (j + 1)]? = some c) → BX12_init w0 Q v' 119 [(0, .ref Y)] []) : BX12_init w0 Q v 112 [(0, .ref Y)] [] := by
  refine g_aload_n (pc := 112) 0 dX12_init_112 rfl rfl ?_
  refine g_iconst (pc := 113) (v := nI 5) dX12_init_113 (by decide) ?_
  refine g_newaI (pc := 114) 5 dX12_init_114 acI (by decide) (by decide) ?_
  refine GP.tr (Y + 14) hl ?_
  refine g_putF (pc := 116) (.int 0 :: .int 0 :: .ref (Y + 1) :: .ref (Y + 2) :: .ref (Y + 3) :: .ref (Y + 4) :: .int 0 :: .ref (Y + 5) :: .ref (Y + 6) :: .ref (Y + 7) :: .int 0 :: .ref (Y + 8) :: .int 0 :: .ref (Y + 9) :: .ref (Y + 10) :: .ref (Y + 11) :: .ref (Y + 12) :: .int 0 :: .int 0 :: .int 0 :: .ref (Y + 13) :: .ref (Y + 14) :: .null :: .null :: .null :: .int 0 :: .int 0 :: .int 0 :: .int 0 :: .null :: .null :: .null :: .null :: []) dX12_init_116 fk_X12_51 (fun _ _ _ h => by cases h; rfl) rfl (lk_app hH) (Nat.le_of_ble_eq_true rfl) rfl rfl ?_
  refine GP.lsub _ (by simp) (K _ ?_ ?_ ?_ ?_ ?_)
  · rw [List.length_set, List.length_append, hl]; rfl
  · exact lk_eq (lk_app hH)
  · exact EX.stp (EX.le (k' := 1) (s' := 5) (EX.apd [aI 0 5 (fun _ => 0)] (EX.rf (S := fun i => i = Y))) (by simp) (by simp [slW, slE])) (lk_app hH) rfl (Or.inl rfl)
  · exact lk_ne (by omega) (lk_l hl)
  · exact fun j c h2 => lk_ne (by omega) (lk_app h2)
theorem mnw_15 {w0 v : Wd} {Y : Nat} (hl : v.length = Y + 15) (hH : v[Y]? = some (.inr (11, .int 0 :: .int 0 :: .ref (Y + 1) :: .ref (Y + 2) :: .ref (Y + 3) :: .ref (Y + 4) :: .int 0 :: .ref (Y + 5) :: .ref (Y + 6) :: .ref (Y + 7) :: .int 0 :: .ref (Y + 8) :: .int 0 :: .ref (Y + 9) :: .ref (Y + 10) :: .ref (Y + 11) :: .ref (Y + 12) :: .int 0 :: .int 0 :: .int 0 :: .ref (Y + 13) :: .ref (Y + 14) :: .null :: .null :: .null :: .int 0 :: .int 0 :: .int 0 :: .int 0 :: .null :: .null :: .null :: .null :: []))) {Q : Option Value → Wd → Prop} (K : ∀ v' : Wd, v'.length = Y + 16 → v'[Y]? = some (.inr (11, .int 0 :: .int 0 :: .ref (Y + 1) :: .ref (Y + 2) :: .ref (Y + 3) :: .ref (Y + 4) :: .int 0 :: .ref (Y + 5) :: .ref (Y + 6) :: .ref (Y + 7) :: .int 0 :: .ref (Y + 8) :: .int 0 :: .ref (Y + 9) :: .ref (Y + 10) :: .ref (Y + 11) :: .ref (Y + 12) :: .int 0 :: .int 0 :: .int 0 :: .ref (Y + 13) :: .ref (Y + 14) :: .ref (Y + 15) :: .null :: .null :: .int 0 :: .int 0 :: .int 0 :: .int 0 :: .null :: .null :: .null :: .null :: [])) → EX (fun i => i = Y) 1 720 v v' → v'[Y + 15]? = some (aL 720 (fun _ => 0)) → (∀ j c, v[Y + (j + 1)]? = some c → v'[Y + (j + 1)]? = some c) → BX12_init w0 Q v' 128 [(0, .ref Y)] []) : BX12_init w0 Q v 119 [(0, .ref Y)] [] := by
  refine g_aload_n (pc := 119) 0 dX12_init_119 rfl rfl ?_
  refine g_sipush (pc := 120) (v := nI 720) dX12_init_120 (by decide) ?_
  refine g_newaL (pc := 123) 720 dX12_init_123 acL (by decide) (by decide) ?_
  refine GP.tr (Y + 15) hl ?_
  refine g_putF (pc := 125) (.int 0 :: .int 0 :: .ref (Y + 1) :: .ref (Y + 2) :: .ref (Y + 3) :: .ref (Y + 4) :: .int 0 :: .ref (Y + 5) :: .ref (Y + 6) :: .ref (Y + 7) :: .int 0 :: .ref (Y + 8) :: .int 0 :: .ref (Y + 9) :: .ref (Y + 10) :: .ref (Y + 11) :: .ref (Y + 12) :: .int 0 :: .int 0 :: .int 0 :: .ref (Y + 13) :: .ref (Y + 14) :: .ref (Y + 15) :: .null :: .null :: .int 0 :: .int 0 :: .int 0 :: .int 0 :: .null :: .null :: .null :: .null :: []) dX12_init_125 fk_X12_54 (fun _ _ _ h => by cases h; rfl) rfl (lk_app hH) (Nat.le_of_ble_eq_true rfl) rfl rfl ?_
  refine GP.lsub _ (by simp) (K _ ?_ ?_ ?_ ?_ ?_)
  · rw [List.length_set, List.length_append, hl]; rfl
  · exact lk_eq (lk_app hH)
  · exact EX.stp (EX.le (k' := 1) (s' := 720) (EX.apd [aL 720 (fun _ => 0)] (EX.rf (S := fun i => i = Y))) (by simp) (by simp [slW, slE])) (lk_app hH) rfl (Or.inl rfl)
  · exact lk_ne (by omega) (lk_l hl)
  · exact fun j c h2 => lk_ne (by omega) (lk_app h2)
theorem mnw_16 {w0 v : Wd} {Y : Nat} (hl : v.length = Y + 16) (hH : v[Y]? = some (.inr (11, .int 0 :: .int 0 :: .ref (Y + 1) :: .ref (Y + 2) :: .ref (Y + 3) :: .ref (Y + 4) :: .int 0 :: .ref (Y + 5) :: .ref (Y + 6) :: .ref (Y + 7) :: .int 0 :: .ref (Y + 8) :: .int 0 :: .ref (Y + 9) :: .ref (Y + 10) :: .ref (Y + 11) :: .ref (Y + 12) :: .int 0 :: .int 0 :: .int 0 :: .ref (Y + 13) :: .ref (Y + 14) :: .ref (Y + 15) :: .null :: .null :: .int 0 :: .int 0 :: .int 0 :: .int 0 :: .null :: .null :: .null :: .null :: []))) {Q : Option Value → Wd → Prop} (K : ∀ v' : Wd, v'.length = Y + 17 → v'[Y]? = some (.inr (11, .int 0 :: .int 0 :: .ref (Y + 1) :: .ref (Y + 2) :: .ref (Y + 3) :: .ref (Y + 4) :: .int 0 :: .ref (Y + 5) :: .ref (Y + 6) :: .ref (Y + 7) :: .int 0 :: .ref (Y + 8) :: .int 0 :: .ref (Y + 9) :: .ref (Y + 10) :: .ref (Y + 11) :: .ref (Y + 12) :: .int 0 :: .int 0 :: .int 0 :: .ref (Y + 13) :: .ref (Y + 14) :: .ref (Y + 15) :: .ref (Y + 16) :: .null :: .int 0 :: .int 0 :: .int 0 :: .int 0 :: .null :: .null :: .null :: .null :: [])) → EX (fun i => i = Y) 1 8 v v' → v'[Y + 16]? = some (aI 0 8 (fun _ => 0)) → (∀ j c, v[Y + (j + 1)]? = some c → v'[Y + (j + 1)]? = some c) → BX12_init w0 Q v' 136 [(0, .ref Y)] []) : BX12_init w0 Q v 128 [(0, .ref Y)] [] := by
  refine g_aload_n (pc := 128) 0 dX12_init_128 rfl rfl ?_
  refine g_bipush (pc := 129) (v := nI 8) dX12_init_129 (by decide) ?_
  refine g_newaI (pc := 131) 8 dX12_init_131 acI (by decide) (by decide) ?_
  refine GP.tr (Y + 16) hl ?_
  refine g_putF (pc := 133) (.int 0 :: .int 0 :: .ref (Y + 1) :: .ref (Y + 2) :: .ref (Y + 3) :: .ref (Y + 4) :: .int 0 :: .ref (Y + 5) :: .ref (Y + 6) :: .ref (Y + 7) :: .int 0 :: .ref (Y + 8) :: .int 0 :: .ref (Y + 9) :: .ref (Y + 10) :: .ref (Y + 11) :: .ref (Y + 12) :: .int 0 :: .int 0 :: .int 0 :: .ref (Y + 13) :: .ref (Y + 14) :: .ref (Y + 15) :: .ref (Y + 16) :: .null :: .int 0 :: .int 0 :: .int 0 :: .int 0 :: .null :: .null :: .null :: .null :: []) dX12_init_133 fk_X12_57 (fun _ _ _ h => by cases h; rfl) rfl (lk_app hH) (Nat.le_of_ble_eq_true rfl) rfl rfl ?_
  refine GP.lsub _ (by simp) (K _ ?_ ?_ ?_ ?_ ?_)
  · rw [List.length_set, List.length_append, hl]; rfl
  · exact lk_eq (lk_app hH)
  · exact EX.stp (EX.le (k' := 1) (s' := 8) (EX.apd [aI 0 8 (fun _ => 0)] (EX.rf (S := fun i => i = Y))) (by simp) (by simp [slW, slE])) (lk_app hH) rfl (Or.inl rfl)
  · exact lk_ne (by omega) (lk_l hl)
  · exact fun j c h2 => lk_ne (by omega) (lk_app h2)
theorem mnw_17 {w0 v : Wd} {Y : Nat} (hl : v.length = Y + 17) (hH : v[Y]? = some (.inr (11, .int 0 :: .int 0 :: .ref (Y + 1) :: .ref (Y + 2) :: .ref (Y + 3) :: .ref (Y + 4) :: .int 0 :: .ref (Y + 5) :: .ref (Y + 6) :: .ref (Y + 7) :: .int 0 :: .ref (Y + 8) :: .int 0 :: .ref (Y + 9) :: .ref (Y + 10) :: .ref (Y + 11) :: .ref (Y + 12) :: .int 0 :: .int 0 :: .int 0 :: .ref (Y + 13) :: .ref (Y + 14) :: .ref (Y + 15) :: .ref (Y + 16) :: .null :: .int 0 :: .int 0 :: .int 0 :: .int 0 :: .null :: .null :: .null :: .null :: []))) {Q : Option Value → Wd → Prop} (K : ∀ v' : Wd, v'.length = Y + 18 → v'[Y]? = some (.inr (11, .int 0 :: .int 0 :: .ref (Y + 1) :: .ref (Y + 2) :: .ref (Y + 3) :: .ref (Y + 4) :: .int 0 :: .ref (Y + 5) :: .ref (Y + 6) :: .ref (Y + 7) :: .int 0 :: .ref (Y + 8) :: .int 0 :: .ref (Y + 9) :: .ref (Y + 10) :: .ref (Y + 11) :: .ref (Y + 12) :: .int 0 :: .int 0 :: .int 0 :: .ref (Y + 13) :: .ref (Y + 14) :: .ref (Y + 15) :: .ref (Y + 16) :: .ref (Y + 17) :: .int 0 :: .int 0 :: .int 0 :: .int 0 :: .null :: .null :: .null :: .null :: [])) → EX (fun i => i = Y) 1 400 v v' → v'[Y + 17]? = some (aI 2 400 (fun _ => 0)) → (∀ j c, v[Y + (j + 1)]? = some c → v'[Y + (j + 1)]? = some c) → BX12_init w0 Q v' 145 [(0, .ref Y)] []) : BX12_init w0 Q v 136 [(0, .ref Y)] [] := by
  refine g_aload_n (pc := 136) 0 dX12_init_136 rfl rfl ?_
  refine g_sipush (pc := 137) (v := nI 400) dX12_init_137 (by decide) ?_
  refine g_newaB (pc := 140) 400 dX12_init_140 acB (by decide) (by decide) ?_
  refine GP.tr (Y + 17) hl ?_
  refine g_putF (pc := 142) (.int 0 :: .int 0 :: .ref (Y + 1) :: .ref (Y + 2) :: .ref (Y + 3) :: .ref (Y + 4) :: .int 0 :: .ref (Y + 5) :: .ref (Y + 6) :: .ref (Y + 7) :: .int 0 :: .ref (Y + 8) :: .int 0 :: .ref (Y + 9) :: .ref (Y + 10) :: .ref (Y + 11) :: .ref (Y + 12) :: .int 0 :: .int 0 :: .int 0 :: .ref (Y + 13) :: .ref (Y + 14) :: .ref (Y + 15) :: .ref (Y + 16) :: .ref (Y + 17) :: .int 0 :: .int 0 :: .int 0 :: .int 0 :: .null :: .null :: .null :: .null :: []) dX12_init_142 fk_X12_60 (fun _ _ _ h => by cases h; rfl) rfl (lk_app hH) (Nat.le_of_ble_eq_true rfl) rfl rfl ?_
  refine GP.lsub _ (by simp) (K _ ?_ ?_ ?_ ?_ ?_)
  · rw [List.length_set, List.length_append, hl]; rfl
  · exact lk_eq (lk_app hH)
  · exact EX.stp (EX.le (k' := 1) (s' := 400) (EX.apd [aI 2 400 (fun _ => 0)] (EX.rf (S := fun i => i = Y))) (by simp) (by simp [slW, slE])) (lk_app hH) rfl (Or.inl rfl)
  · exact lk_ne (by omega) (lk_l hl)
  · exact fun j c h2 => lk_ne (by omega) (lk_app h2)
theorem mnw_18 {w0 v : Wd} {Y : Nat} (hl : v.length = Y + 18) (hH : v[Y]? = some (.inr (11, .int 0 :: .int 0 :: .ref (Y + 1) :: .ref (Y + 2) :: .ref (Y + 3) :: .ref (Y + 4) :: .int 0 :: .ref (Y + 5) :: .ref (Y + 6) :: .ref (Y + 7) :: .int 0 :: .ref (Y + 8) :: .int 0 :: .ref (Y + 9) :: .ref (Y + 10) :: .ref (Y + 11) :: .ref (Y + 12) :: .int 0 :: .int 0 :: .int 0 :: .ref (Y + 13) :: .ref (Y + 14) :: .ref (Y + 15) :: .ref (Y + 16) :: .ref (Y + 17) :: .int 0 :: .int 0 :: .int 0 :: .int 0 :: .null :: .null :: .null :: .null :: []))) {Q : Option Value → Wd → Prop} (K : ∀ v' : Wd, v'.length = Y + 19 → v'[Y]? = some (.inr (11, .int 0 :: .int 0 :: .ref (Y + 1) :: .ref (Y + 2) :: .ref (Y + 3) :: .ref (Y + 4) :: .int 0 :: .ref (Y + 5) :: .ref (Y + 6) :: .ref (Y + 7) :: .int 0 :: .ref (Y + 8) :: .int 0 :: .ref (Y + 9) :: .ref (Y + 10) :: .ref (Y + 11) :: .ref (Y + 12) :: .int 0 :: .int 0 :: .int 0 :: .ref (Y + 13) :: .ref (Y + 14) :: .ref (Y + 15) :: .ref (Y + 16) :: .ref (Y + 17) :: .int 0 :: .int (-1) :: .int 0 :: .int 0 :: .ref (Y + 18) :: .null :: .null :: .null :: [])) → EX (fun i => i = Y) 1 13 v v' → v'[Y + 18]? = some (aI 0 13 (fun _ => 0)) → (∀ j c, v[Y + (j + 1)]? = some c → v'[Y + (j + 1)]? = some c) → BX12_init w0 Q v' 158 [(0, .ref Y)] []) : BX12_init w0 Q v 145 [(0, .ref Y)] [] := by
  refine g_aload_n (pc := 145) 0 dX12_init_145 rfl rfl ?_
  refine g_iconst (pc := 146) (v := -1) dX12_init_146 (by decide) ?_
  refine g_put (pc := 147) (.int 0 :: .int 0 :: .ref (Y + 1) :: .ref (Y + 2) :: .ref (Y + 3) :: .ref (Y + 4) :: .int 0 :: .ref (Y + 5) :: .ref (Y + 6) :: .ref (Y + 7) :: .int 0 :: .ref (Y + 8) :: .int 0 :: .ref (Y + 9) :: .ref (Y + 10) :: .ref (Y + 11) :: .ref (Y + 12) :: .int 0 :: .int 0 :: .int 0 :: .ref (Y + 13) :: .ref (Y + 14) :: .ref (Y + 15) :: .ref (Y + 16) :: .ref (Y + 17) :: .int 0 :: .int (-1) :: .int 0 :: .int 0 :: .null :: .null :: .null :: .null :: []) dX12_init_147 fk_X12_64 hH (Nat.le_of_ble_eq_true rfl) rfl rfl ?_
  refine g_aload_n (pc := 150) 0 dX12_init_150 rfl rfl ?_
  refine g_bipush (pc := 151) (v := nI 13) dX12_init_151 (by decide) ?_
  refine g_newaI (pc := 153) 13 dX12_init_153 acI (by decide) (by decide) ?_
  refine GP.tr (Y + 18) (by rw [List.length_set]; exact hl) ?_
  refine g_putF (pc := 155) (.int 0 :: .int 0 :: .ref (Y + 1) :: .ref (Y + 2) :: .ref (Y + 3) :: .ref (Y + 4) :: .int 0 :: .ref (Y + 5) :: .ref (Y + 6) :: .ref (Y + 7) :: .int 0 :: .ref (Y + 8) :: .int 0 :: .ref (Y + 9) :: .ref (Y + 10) :: .ref (Y + 11) :: .ref (Y + 12) :: .int 0 :: .int 0 :: .int 0 :: .ref (Y + 13) :: .ref (Y + 14) :: .ref (Y + 15) :: .ref (Y + 16) :: .ref (Y + 17) :: .int 0 :: .int (-1) :: .int 0 :: .int 0 :: .ref (Y + 18) :: .null :: .null :: .null :: []) dX12_init_155 fk_X12_68 (fun _ _ _ h => by cases h; rfl) rfl (lk_app (lk_eq hH)) (Nat.le_of_ble_eq_true rfl) rfl rfl ?_
  refine GP.lsub _ (by simp) (K _ ?_ ?_ ?_ ?_ ?_)
  · rw [List.length_set, List.length_append, List.length_set, hl]; rfl
  · exact lk_eq (lk_app (lk_eq hH))
  · exact EX.stp (EX.le (k' := 1) (s' := 13) (EX.apd [aI 0 13 (fun _ => 0)] (EX.stp (EX.rf (S := fun i => i = Y)) hH rfl (Or.inl rfl))) (by simp) (by simp [slW, slE])) (lk_app (lk_eq hH)) rfl (Or.inl rfl)
  · exact lk_ne (by omega) (lk_l (by rw [List.length_set]; exact hl))
  · exact fun j c h2 => lk_ne (by omega) (lk_app (lk_ne (by omega) h2))
theorem mnw_19 {w0 v : Wd} {Y : Nat} (hl : v.length = Y + 19) (hH : v[Y]? = some (.inr (11, .int 0 :: .int 0 :: .ref (Y + 1) :: .ref (Y + 2) :: .ref (Y + 3) :: .ref (Y + 4) :: .int 0 :: .ref (Y + 5) :: .ref (Y + 6) :: .ref (Y + 7) :: .int 0 :: .ref (Y + 8) :: .int 0 :: .ref (Y + 9) :: .ref (Y + 10) :: .ref (Y + 11) :: .ref (Y + 12) :: .int 0 :: .int 0 :: .int 0 :: .ref (Y + 13) :: .ref (Y + 14) :: .ref (Y + 15) :: .ref (Y + 16) :: .ref (Y + 17) :: .int 0 :: .int (-1) :: .int 0 :: .int 0 :: .ref (Y + 18) :: .null :: .null :: .null :: []))) {Q : Option Value → Wd → Prop} (K : ∀ v' : Wd, v'.length = Y + 20 → v'[Y]? = some (.inr (11, .int 0 :: .int 0 :: .ref (Y + 1) :: .ref (Y + 2) :: .ref (Y + 3) :: .ref (Y + 4) :: .int 0 :: .ref (Y + 5) :: .ref (Y + 6) :: .ref (Y + 7) :: .int 0 :: .ref (Y + 8) :: .int 0 :: .ref (Y + 9) :: .ref (Y + 10) :: .ref (Y + 11) :: .ref (Y + 12) :: .int 0 :: .int 0 :: .int 0 :: .ref (Y + 13) :: .ref (Y + 14) :: .ref (Y + 15) :: .ref (Y + 16) :: .ref (Y + 17) :: .int 0 :: .int (-1) :: .int 0 :: .int 0 :: .ref (Y + 18) :: .ref (Y + 19) :: .null :: .null :: [])) → EX (fun i => i = Y) 1 4 v v' → v'[Y + 19]? = some (aI 0 4 (fun _ => 0)) → (∀ j c, v[Y + (j + 1)]? = some c → v'[Y + (j + 1)]? = some c) → BX12_init w0 Q v' 165 [(0, .ref Y)] []) : BX12_init w0 Q v 158 [(0, .ref Y)] [] := by
  refine g_aload_n (pc := 158) 0 dX12_init_158 rfl rfl ?_
  refine g_iconst (pc := 159) (v := nI 4) dX12_init_159 (by decide) ?_
  refine g_newaI (pc := 160) 4 dX12_init_160 acI (by decide) (by decide) ?_
  refine GP.tr (Y + 19) hl ?_
  refine g_putF (pc := 162) (.int 0 :: .int 0 :: .ref (Y + 1) :: .ref (Y + 2) :: .ref (Y + 3) :: .ref (Y + 4) :: .int 0 :: .ref (Y + 5) :: .ref (Y + 6) :: .ref (Y + 7) :: .int 0 :: .ref (Y + 8) :: .int 0 :: .ref (Y + 9) :: .ref (Y + 10) :: .ref (Y + 11) :: .ref (Y + 12) :: .int 0 :: .int 0 :: .int 0 :: .ref (Y + 13) :: .ref (Y + 14) :: .ref (Y + 15) :: .ref (Y + 16) :: .ref (Y + 17) :: .int 0 :: .int (-1) :: .int 0 :: .int 0 :: .ref (Y + 18) :: .ref (Y + 19) :: .null :: .null :: []) dX12_init_162 fk_X12_71 (fun _ _ _ h => by cases h; rfl) rfl (lk_app hH) (Nat.le_of_ble_eq_true rfl) rfl rfl ?_
  refine GP.lsub _ (by simp) (K _ ?_ ?_ ?_ ?_ ?_)
  · rw [List.length_set, List.length_append, hl]; rfl
  · exact lk_eq (lk_app hH)
  · exact EX.stp (EX.le (k' := 1) (s' := 4) (EX.apd [aI 0 4 (fun _ => 0)] (EX.rf (S := fun i => i = Y))) (by simp) (by simp [slW, slE])) (lk_app hH) rfl (Or.inl rfl)
  · exact lk_ne (by omega) (lk_l hl)
  · exact fun j c h2 => lk_ne (by omega) (lk_app h2)
theorem mnw_20 {w0 v : Wd} {Y : Nat} (hl : v.length = Y + 20) (hH : v[Y]? = some (.inr (11, .int 0 :: .int 0 :: .ref (Y + 1) :: .ref (Y + 2) :: .ref (Y + 3) :: .ref (Y + 4) :: .int 0 :: .ref (Y + 5) :: .ref (Y + 6) :: .ref (Y + 7) :: .int 0 :: .ref (Y + 8) :: .int 0 :: .ref (Y + 9) :: .ref (Y + 10) :: .ref (Y + 11) :: .ref (Y + 12) :: .int 0 :: .int 0 :: .int 0 :: .ref (Y + 13) :: .ref (Y + 14) :: .ref (Y + 15) :: .ref (Y + 16) :: .ref (Y + 17) :: .int 0 :: .int (-1) :: .int 0 :: .int 0 :: .ref (Y + 18) :: .ref (Y + 19) :: .null :: .null :: []))) {Q : Option Value → Wd → Prop} (K : ∀ v' : Wd, v'.length = Y + 21 → v'[Y]? = some (.inr (11, .int 0 :: .int 0 :: .ref (Y + 1) :: .ref (Y + 2) :: .ref (Y + 3) :: .ref (Y + 4) :: .int 0 :: .ref (Y + 5) :: .ref (Y + 6) :: .ref (Y + 7) :: .int 0 :: .ref (Y + 8) :: .int 0 :: .ref (Y + 9) :: .ref (Y + 10) :: .ref (Y + 11) :: .ref (Y + 12) :: .int 0 :: .int 0 :: .int 0 :: .ref (Y + 13) :: .ref (Y + 14) :: .ref (Y + 15) :: .ref (Y + 16) :: .ref (Y + 17) :: .int 0 :: .int (-1) :: .int 0 :: .int 0 :: .ref (Y + 18) :: .ref (Y + 19) :: .ref (Y + 20) :: .null :: [])) → EX (fun i => i = Y) 1 8 v v' → v'[Y + 20]? = some (aI 0 8 (fun _ => 0)) → (∀ j c, v[Y + (j + 1)]? = some c → v'[Y + (j + 1)]? = some c) → BX12_init w0 Q v' 173 [(0, .ref Y)] []) : BX12_init w0 Q v 165 [(0, .ref Y)] [] := by
  refine g_aload_n (pc := 165) 0 dX12_init_165 rfl rfl ?_
  refine g_bipush (pc := 166) (v := nI 8) dX12_init_166 (by decide) ?_
  refine g_newaI (pc := 168) 8 dX12_init_168 acI (by decide) (by decide) ?_
  refine GP.tr (Y + 20) hl ?_
  refine g_putF (pc := 170) (.int 0 :: .int 0 :: .ref (Y + 1) :: .ref (Y + 2) :: .ref (Y + 3) :: .ref (Y + 4) :: .int 0 :: .ref (Y + 5) :: .ref (Y + 6) :: .ref (Y + 7) :: .int 0 :: .ref (Y + 8) :: .int 0 :: .ref (Y + 9) :: .ref (Y + 10) :: .ref (Y + 11) :: .ref (Y + 12) :: .int 0 :: .int 0 :: .int 0 :: .ref (Y + 13) :: .ref (Y + 14) :: .ref (Y + 15) :: .ref (Y + 16) :: .ref (Y + 17) :: .int 0 :: .int (-1) :: .int 0 :: .int 0 :: .ref (Y + 18) :: .ref (Y + 19) :: .ref (Y + 20) :: .null :: []) dX12_init_170 fk_X12_74 (fun _ _ _ h => by cases h; rfl) rfl (lk_app hH) (Nat.le_of_ble_eq_true rfl) rfl rfl ?_
  refine GP.lsub _ (by simp) (K _ ?_ ?_ ?_ ?_ ?_)
  · rw [List.length_set, List.length_append, hl]; rfl
  · exact lk_eq (lk_app hH)
  · exact EX.stp (EX.le (k' := 1) (s' := 8) (EX.apd [aI 0 8 (fun _ => 0)] (EX.rf (S := fun i => i = Y))) (by simp) (by simp [slW, slE])) (lk_app hH) rfl (Or.inl rfl)
  · exact lk_ne (by omega) (lk_l hl)
  · exact fun j c h2 => lk_ne (by omega) (lk_app h2)
theorem mnw_21 {w0 v : Wd} {Y : Nat} (hl : v.length = Y + 21) (hH : v[Y]? = some (.inr (11, .int 0 :: .int 0 :: .ref (Y + 1) :: .ref (Y + 2) :: .ref (Y + 3) :: .ref (Y + 4) :: .int 0 :: .ref (Y + 5) :: .ref (Y + 6) :: .ref (Y + 7) :: .int 0 :: .ref (Y + 8) :: .int 0 :: .ref (Y + 9) :: .ref (Y + 10) :: .ref (Y + 11) :: .ref (Y + 12) :: .int 0 :: .int 0 :: .int 0 :: .ref (Y + 13) :: .ref (Y + 14) :: .ref (Y + 15) :: .ref (Y + 16) :: .ref (Y + 17) :: .int 0 :: .int (-1) :: .int 0 :: .int 0 :: .ref (Y + 18) :: .ref (Y + 19) :: .ref (Y + 20) :: .null :: []))) {Q : Option Value → Wd → Prop} (K : ∀ v' : Wd, v'.length = Y + 22 → v'[Y]? = some (.inr (11, .int 0 :: .int 0 :: .ref (Y + 1) :: .ref (Y + 2) :: .ref (Y + 3) :: .ref (Y + 4) :: .int 0 :: .ref (Y + 5) :: .ref (Y + 6) :: .ref (Y + 7) :: .int 0 :: .ref (Y + 8) :: .int 0 :: .ref (Y + 9) :: .ref (Y + 10) :: .ref (Y + 11) :: .ref (Y + 12) :: .int 0 :: .int 0 :: .int 0 :: .ref (Y + 13) :: .ref (Y + 14) :: .ref (Y + 15) :: .ref (Y + 16) :: .ref (Y + 17) :: .int 0 :: .int (-1) :: .int 0 :: .int 0 :: .ref (Y + 18) :: .ref (Y + 19) :: .ref (Y + 20) :: .ref (Y + 21) :: [])) → EX (fun i => i = Y) 1 8 v v' → v'[Y + 21]? = some (aI 0 8 (fun _ => 0)) → (∀ j c, v[Y + (j + 1)]? = some c → v'[Y + (j + 1)]? = some c) → BX12_init w0 Q v' 181 [(0, .ref Y)] []) : BX12_init w0 Q v 173 [(0, .ref Y)] [] := by
  refine g_aload_n (pc := 173) 0 dX12_init_173 rfl rfl ?_
  refine g_bipush (pc := 174) (v := nI 8) dX12_init_174 (by decide) ?_
  refine g_newaI (pc := 176) 8 dX12_init_176 acI (by decide) (by decide) ?_
  refine GP.tr (Y + 21) hl ?_
  refine g_putF (pc := 178) (.int 0 :: .int 0 :: .ref (Y + 1) :: .ref (Y + 2) :: .ref (Y + 3) :: .ref (Y + 4) :: .int 0 :: .ref (Y + 5) :: .ref (Y + 6) :: .ref (Y + 7) :: .int 0 :: .ref (Y + 8) :: .int 0 :: .ref (Y + 9) :: .ref (Y + 10) :: .ref (Y + 11) :: .ref (Y + 12) :: .int 0 :: .int 0 :: .int 0 :: .ref (Y + 13) :: .ref (Y + 14) :: .ref (Y + 15) :: .ref (Y + 16) :: .ref (Y + 17) :: .int 0 :: .int (-1) :: .int 0 :: .int 0 :: .ref (Y + 18) :: .ref (Y + 19) :: .ref (Y + 20) :: .ref (Y + 21) :: []) dX12_init_178 fk_X12_77 (fun _ _ _ h => by cases h; rfl) rfl (lk_app hH) (Nat.le_of_ble_eq_true rfl) rfl rfl ?_
  refine GP.lsub _ (by simp) (K _ ?_ ?_ ?_ ?_ ?_)
  · rw [List.length_set, List.length_append, hl]; rfl
  · exact lk_eq (lk_app hH)
  · exact EX.stp (EX.le (k' := 1) (s' := 8) (EX.apd [aI 0 8 (fun _ => 0)] (EX.rf (S := fun i => i = Y))) (by simp) (by simp [slW, slE])) (lk_app hH) rfl (Or.inl rfl)
  · exact lk_ne (by omega) (lk_l hl)
  · exact fun j c h2 => lk_ne (by omega) (lk_app h2)
theorem mnw_1_7 {w0 v : Wd} {Y : Nat} (hl : v.length = Y + 1) (hH : v[Y]? = some (.inr (11, .int 0 :: .int 0 :: .null :: .null :: .null :: .null :: .int 0 :: .null :: .null :: .null :: .int 0 :: .null :: .int 0 :: .null :: .null :: .null :: .null :: .int 0 :: .int 0 :: .int 0 :: .null :: .null :: .null :: .null :: .null :: .int 0 :: .int 0 :: .int 0 :: .int 0 :: .null :: .null :: .null :: .null :: []))) {Q : Option Value → Wd → Prop} (K : ∀ v' : Wd, v'.length = Y + 8 → v'[Y]? = some (.inr (11, .int 0 :: .int 0 :: .ref (Y + 1) :: .ref (Y + 2) :: .ref (Y + 3) :: .ref (Y + 4) :: .int 0 :: .ref (Y + 5) :: .ref (Y + 6) :: .ref (Y + 7) :: .int 0 :: .null :: .int 0 :: .null :: .null :: .null :: .null :: .int 0 :: .int 0 :: .int 0 :: .null :: .null :: .null :: .null :: .null :: .int 0 :: .int 0 :: .int 0 :: .int 0 :: .null :: .null :: .null :: .null :: [])) → EX (fun i => i = Y) 7 6963 v v' → v'[Y + 1]? = some (aI 0 7 (fun _ => 0)) → v'[Y + 2]? = some (aI 0 626 (fun _ => 0)) → v'[Y + 3]? = some (aI 0 5008 (fun _ => 0)) → v'[Y + 4]? = some (aI 0 8 (fun _ => 0)) → v'[Y + 5]? = some (aI 0 1252 (fun _ => 0)) → v'[Y + 6]? = some (aI 3 2 (fun _ => 0)) → v'[Y + 7]? = some (aL 60 (fun _ => 0)) → BX12_init w0 Q v' 62 [(0, .ref Y)] []) : BX12_init w0 Q v 4 [(0, .ref Y)] [] := by
  refine mnw_1 hl hH ?_
  intro v1 l1 H1 E1 B1 L1
  refine mnw_2 l1 H1 ?_
  intro v2 l2 H2 E2 B2 L2
  refine mnw_3 l2 H2 ?_
  intro v3 l3 H3 E3 B3 L3
  refine mnw_4 l3 H3 ?_
  intro v4 l4 H4 E4 B4 L4
  refine mnw_5 l4 H4 ?_
  intro v5 l5 H5 E5 B5 L5
  refine mnw_6 l5 H5 ?_
  intro v6 l6 H6 E6 B6 L6
  refine mnw_7 l6 H6 ?_
  intro v7 l7 H7 E7 B7 L7
  exact K v7 l7 H7 ((EX.trn (EX.trn (EX.trn (EX.trn (EX.trn (EX.trn E1 E2 (fun i hi => Or.inl hi)) E3 (fun i hi => Or.inl hi)) E4 (fun i hi => Or.inl hi)) E5 (fun i hi => Or.inl hi)) E6 (fun i hi => Or.inl hi)) E7 (fun i hi => Or.inl hi)).le (by omega) (by omega)) (L7 _ _ (L6 _ _ (L5 _ _ (L4 _ _ (L3 _ _ (L2 _ _ B1)))))) (L7 _ _ (L6 _ _ (L5 _ _ (L4 _ _ (L3 _ _ B2))))) (L7 _ _ (L6 _ _ (L5 _ _ (L4 _ _ B3)))) (L7 _ _ (L6 _ _ (L5 _ _ B4))) (L7 _ _ (L6 _ _ B5)) (L7 _ _ B6) B7
theorem mnw_8_14 {w0 v : Wd} {Y : Nat} (hl : v.length = Y + 8) (hH : v[Y]? = some (.inr (11, .int 0 :: .int 0 :: .ref (Y + 1) :: .ref (Y + 2) :: .ref (Y + 3) :: .ref (Y + 4) :: .int 0 :: .ref (Y + 5) :: .ref (Y + 6) :: .ref (Y + 7) :: .int 0 :: .null :: .int 0 :: .null :: .null :: .null :: .null :: .int 0 :: .int 0 :: .int 0 :: .null :: .null :: .null :: .null :: .null :: .int 0 :: .int 0 :: .int 0 :: .int 0 :: .null :: .null :: .null :: .null :: []))) (A1 : v[Y + 1]? = some (aI 0 7 (fun _ => 0))) (A2 : v[Y + 2]? = some (aI 0 626 (fun _ => 0))) (A3 : v[Y + 3]? = some (aI 0 5008 (fun _ => 0))) (A4 : v[Y + 4]? = some (aI 0 8 (fun _ => 0))) (A5 : v[Y + 5]? = some (aI 0 1252 (fun _ => 0))) (A6 : v[Y + 6]? = some (aI 3 2 (fun _ => 0))) (A7 : v[Y + 7]? = some (aL 60 (fun _ => 0))) {Q : Option Value → Wd → Prop} (K : ∀ v' : Wd, v'.length = Y + 15 → v'[Y]? = some (.inr (11, .int 0 :: .int 0 :: .ref (Y + 1) :: .ref (Y + 2) :: .ref (Y + 3) :: .ref (Y + 4) :: .int 0 :: .ref (Y + 5) :: .ref (Y + 6) :: .ref (Y + 7) :: .int 0 :: .ref (Y + 8) :: .int 0 :: .ref (Y + 9) :: .ref (Y + 10) :: .ref (Y + 11) :: .ref (Y + 12) :: .int 0 :: .int 0 :: .int 0 :: .ref (Y + 13) :: .ref (Y + 14) :: .null :: .null :: .null :: .int 0 :: .int 0 :: .int 0 :: .int 0 :: .null :: .null :: .null :: .null :: [])) → EX (fun i => i = Y) 7 1282 v v' → v'[Y + 1]? = some (aI 0 7 (fun _ => 0)) → v'[Y + 2]? = some (aI 0 626 (fun _ => 0)) → v'[Y + 3]? = some (aI 0 5008 (fun _ => 0)) → v'[Y + 4]? = some (aI 0 8 (fun _ => 0)) → v'[Y + 5]? = some (aI 0 1252 (fun _ => 0)) → v'[Y + 6]? = some (aI 3 2 (fun _ => 0)) → v'[Y + 7]? = some (aL 60 (fun _ => 0)) → v'[Y + 8]? = some (aL 14 (fun _ => 0)) → v'[Y + 9]? = some (aL 60 (fun _ => 0)) → v'[Y + 10]? = some (aL 60 (fun _ => 0)) → v'[Y + 11]? = some (aI 0 602 (fun _ => 0)) → v'[Y + 12]? = some (aL 91 (fun _ => 0)) → v'[Y + 13]? = some (aL 450 (fun _ => 0)) → v'[Y + 14]? = some (aI 0 5 (fun _ => 0)) → BX12_init w0 Q v' 119 [(0, .ref Y)] []) : BX12_init w0 Q v 62 [(0, .ref Y)] [] := by
  refine mnw_8 hl hH ?_
  intro v8 l8 H8 E8 B8 L8
  refine mnw_9 l8 H8 ?_
  intro v9 l9 H9 E9 B9 L9
  refine mnw_10 l9 H9 ?_
  intro v10 l10 H10 E10 B10 L10
  refine mnw_11 l10 H10 ?_
  intro v11 l11 H11 E11 B11 L11
  refine mnw_12 l11 H11 ?_
  intro v12 l12 H12 E12 B12 L12
  refine mnw_13 l12 H12 ?_
  intro v13 l13 H13 E13 B13 L13
  refine mnw_14 l13 H13 ?_
  intro v14 l14 H14 E14 B14 L14
  exact K v14 l14 H14 ((EX.trn (EX.trn (EX.trn (EX.trn (EX.trn (EX.trn E8 E9 (fun i hi => Or.inl hi)) E10 (fun i hi => Or.inl hi)) E11 (fun i hi => Or.inl hi)) E12 (fun i hi => Or.inl hi)) E13 (fun i hi => Or.inl hi)) E14 (fun i hi => Or.inl hi)).le (by omega) (by omega)) (L14 _ _ (L13 _ _ (L12 _ _ (L11 _ _ (L10 _ _ (L9 _ _ (L8 _ _ A1))))))) (L14 _ _ (L13 _ _ (L12 _ _ (L11 _ _ (L10 _ _ (L9 _ _ (L8 _ _ A2))))))) (L14 _ _ (L13 _ _ (L12 _ _ (L11 _ _ (L10 _ _ (L9 _ _ (L8 _ _ A3))))))) (L14 _ _ (L13 _ _ (L12 _ _ (L11 _ _ (L10 _ _ (L9 _ _ (L8 _ _ A4))))))) (L14 _ _ (L13 _ _ (L12 _ _ (L11 _ _ (L10 _ _ (L9 _ _ (L8 _ _ A5))))))) (L14 _ _ (L13 _ _ (L12 _ _ (L11 _ _ (L10 _ _ (L9 _ _ (L8 _ _ A6))))))) (L14 _ _ (L13 _ _ (L12 _ _ (L11 _ _ (L10 _ _ (L9 _ _ (L8 _ _ A7))))))) (L14 _ _ (L13 _ _ (L12 _ _ (L11 _ _ (L10 _ _ (L9 _ _ B8)))))) (L14 _ _ (L13 _ _ (L12 _ _ (L11 _ _ (L10 _ _ B9))))) (L14 _ _ (L13 _ _ (L12 _ _ (L11 _ _ B10)))) (L14 _ _ (L13 _ _ (L12 _ _ B11))) (L14 _ _ (L13 _ _ B12)) (L14 _ _ B13) B14
theorem mnw_15_21 {w0 v : Wd} {Y : Nat} (hl : v.length = Y + 15) (hH : v[Y]? = some (.inr (11, .int 0 :: .int 0 :: .ref (Y + 1) :: .ref (Y + 2) :: .ref (Y + 3) :: .ref (Y + 4) :: .int 0 :: .ref (Y + 5) :: .ref (Y + 6) :: .ref (Y + 7) :: .int 0 :: .ref (Y + 8) :: .int 0 :: .ref (Y + 9) :: .ref (Y + 10) :: .ref (Y + 11) :: .ref (Y + 12) :: .int 0 :: .int 0 :: .int 0 :: .ref (Y + 13) :: .ref (Y + 14) :: .null :: .null :: .null :: .int 0 :: .int 0 :: .int 0 :: .int 0 :: .null :: .null :: .null :: .null :: []))) (A1 : v[Y + 1]? = some (aI 0 7 (fun _ => 0))) (A2 : v[Y + 2]? = some (aI 0 626 (fun _ => 0))) (A3 : v[Y + 3]? = some (aI 0 5008 (fun _ => 0))) (A4 : v[Y + 4]? = some (aI 0 8 (fun _ => 0))) (A5 : v[Y + 5]? = some (aI 0 1252 (fun _ => 0))) (A6 : v[Y + 6]? = some (aI 3 2 (fun _ => 0))) (A7 : v[Y + 7]? = some (aL 60 (fun _ => 0))) (A8 : v[Y + 8]? = some (aL 14 (fun _ => 0))) (A9 : v[Y + 9]? = some (aL 60 (fun _ => 0))) (A10 : v[Y + 10]? = some (aL 60 (fun _ => 0))) (A11 : v[Y + 11]? = some (aI 0 602 (fun _ => 0))) (A12 : v[Y + 12]? = some (aL 91 (fun _ => 0))) (A13 : v[Y + 13]? = some (aL 450 (fun _ => 0))) (A14 : v[Y + 14]? = some (aI 0 5 (fun _ => 0))) {Q : Option Value → Wd → Prop} (K : ∀ v' : Wd, v'.length = Y + 22 → v'[Y]? = some (.inr (11, .int 0 :: .int 0 :: .ref (Y + 1) :: .ref (Y + 2) :: .ref (Y + 3) :: .ref (Y + 4) :: .int 0 :: .ref (Y + 5) :: .ref (Y + 6) :: .ref (Y + 7) :: .int 0 :: .ref (Y + 8) :: .int 0 :: .ref (Y + 9) :: .ref (Y + 10) :: .ref (Y + 11) :: .ref (Y + 12) :: .int 0 :: .int 0 :: .int 0 :: .ref (Y + 13) :: .ref (Y + 14) :: .ref (Y + 15) :: .ref (Y + 16) :: .ref (Y + 17) :: .int 0 :: .int (-1) :: .int 0 :: .int 0 :: .ref (Y + 18) :: .ref (Y + 19) :: .ref (Y + 20) :: .ref (Y + 21) :: [])) → EX (fun i => i = Y) 7 1161 v v' → v'[Y + 1]? = some (aI 0 7 (fun _ => 0)) → v'[Y + 2]? = some (aI 0 626 (fun _ => 0)) → v'[Y + 3]? = some (aI 0 5008 (fun _ => 0)) → v'[Y + 4]? = some (aI 0 8 (fun _ => 0)) → v'[Y + 5]? = some (aI 0 1252 (fun _ => 0)) → v'[Y + 6]? = some (aI 3 2 (fun _ => 0)) → v'[Y + 7]? = some (aL 60 (fun _ => 0)) → v'[Y + 8]? = some (aL 14 (fun _ => 0)) → v'[Y + 9]? = some (aL 60 (fun _ => 0)) → v'[Y + 10]? = some (aL 60 (fun _ => 0)) → v'[Y + 11]? = some (aI 0 602 (fun _ => 0)) → v'[Y + 12]? = some (aL 91 (fun _ => 0)) → v'[Y + 13]? = some (aL 450 (fun _ => 0)) → v'[Y + 14]? = some (aI 0 5 (fun _ => 0)) → v'[Y + 15]? = some (aL 720 (fun _ => 0)) → v'[Y + 16]? = some (aI 0 8 (fun _ => 0)) → v'[Y + 17]? = some (aI 2 400 (fun _ => 0)) → v'[Y + 18]? = some (aI 0 13 (fun _ => 0)) → v'[Y + 19]? = some (aI 0 4 (fun _ => 0)) → v'[Y + 20]? = some (aI 0 8 (fun _ => 0)) → v'[Y + 21]? = some (aI 0 8 (fun _ => 0)) → BX12_init w0 Q v' 181 [(0, .ref Y)] []) : BX12_init w0 Q v 119 [(0, .ref Y)] [] := by
  refine mnw_15 hl hH ?_
  intro v15 l15 H15 E15 B15 L15
  refine mnw_16 l15 H15 ?_
  intro v16 l16 H16 E16 B16 L16
  refine mnw_17 l16 H16 ?_
  intro v17 l17 H17 E17 B17 L17
  refine mnw_18 l17 H17 ?_
  intro v18 l18 H18 E18 B18 L18
  refine mnw_19 l18 H18 ?_
  intro v19 l19 H19 E19 B19 L19
  refine mnw_20 l19 H19 ?_
  intro v20 l20 H20 E20 B20 L20
  refine mnw_21 l20 H20 ?_
  intro v21 l21 H21 E21 B21 L21
  exact K v21 l21 H21 ((EX.trn (EX.trn (EX.trn (EX.trn (EX.trn (EX.trn E15 E16 (fun i hi => Or.inl hi)) E17 (fun i hi => Or.inl hi)) E18 (fun i hi => Or.inl hi)) E19 (fun i hi => Or.inl hi)) E20 (fun i hi => Or.inl hi)) E21 (fun i hi => Or.inl hi)).le (by omega) (by omega)) (L21 _ _ (L20 _ _ (L19 _ _ (L18 _ _ (L17 _ _ (L16 _ _ (L15 _ _ A1))))))) (L21 _ _ (L20 _ _ (L19 _ _ (L18 _ _ (L17 _ _ (L16 _ _ (L15 _ _ A2))))))) (L21 _ _ (L20 _ _ (L19 _ _ (L18 _ _ (L17 _ _ (L16 _ _ (L15 _ _ A3))))))) (L21 _ _ (L20 _ _ (L19 _ _ (L18 _ _ (L17 _ _ (L16 _ _ (L15 _ _ A4))))))) (L21 _ _ (L20 _ _ (L19 _ _ (L18 _ _ (L17 _ _ (L16 _ _ (L15 _ _ A5))))))) (L21 _ _ (L20 _ _ (L19 _ _ (L18 _ _ (L17 _ _ (L16 _ _ (L15 _ _ A6))))))) (L21 _ _ (L20 _ _ (L19 _ _ (L18 _ _ (L17 _ _ (L16 _ _ (L15 _ _ A7))))))) (L21 _ _ (L20 _ _ (L19 _ _ (L18 _ _ (L17 _ _ (L16 _ _ (L15 _ _ A8))))))) (L21 _ _ (L20 _ _ (L19 _ _ (L18 _ _ (L17 _ _ (L16 _ _ (L15 _ _ A9))))))) (L21 _ _ (L20 _ _ (L19 _ _ (L18 _ _ (L17 _ _ (L16 _ _ (L15 _ _ A10))))))) (L21 _ _ (L20 _ _ (L19 _ _ (L18 _ _ (L17 _ _ (L16 _ _ (L15 _ _ A11))))))) (L21 _ _ (L20 _ _ (L19 _ _ (L18 _ _ (L17 _ _ (L16 _ _ (L15 _ _ A12))))))) (L21 _ _ (L20 _ _ (L19 _ _ (L18 _ _ (L17 _ _ (L16 _ _ (L15 _ _ A13))))))) (L21 _ _ (L20 _ _ (L19 _ _ (L18 _ _ (L17 _ _ (L16 _ _ (L15 _ _ A14))))))) (L21 _ _ (L20 _ _ (L19 _ _ (L18 _ _ (L17 _ _ (L16 _ _ B15)))))) (L21 _ _ (L20 _ _ (L19 _ _ (L18 _ _ (L17 _ _ B16))))) (L21 _ _ (L20 _ _ (L19 _ _ (L18 _ _ B17)))) (L21 _ _ (L20 _ _ (L19 _ _ B18))) (L21 _ _ (L20 _ _ B19)) (L21 _ _ B20) B21
theorem mnw_end {w9 : Wd} {Y : Nat} {g9 : Nat → Int32} (hP9 : lcP w9 Y 0 0 0 0 0 0 0 (-1) 0 0 g9) (hci9 : ciN g9 43) (A1 : w9[Y + 1]? = some (aI 0 7 (fun _ => 0))) (A2 : w9[Y + 2]? = some (aI 0 626 (rI 8))) (A3 : w9[Y + 3]? = some (aI 0 5008 (fun _ => 0))) (A4 : w9[Y + 4]? = some (aI 0 8 (fun _ => 0))) (A5 : w9[Y + 5]? = some (aI 0 1252 (fun _ => 0))) (A6 : w9[Y + 6]? = some (aI 3 2 (fun _ => 0))) (A12 : w9[Y + 12]? = some (aL 91 (fun _ => 0))) (A13 : w9[Y + 13]? = some (aL 450 (fun _ => 0))) (A14 : w9[Y + 14]? = some (aI 0 5 (fun _ => 0))) (A15 : w9[Y + 15]? = some (aL 720 (fun _ => 0))) (A16 : w9[Y + 16]? = some (aI 0 8 (fun _ => 0))) (A17 : w9[Y + 17]? = some (aI 2 400 (fun _ => 0))) (A18 : w9[Y + 18]? = some (aI 0 13 (fun _ => 0))) (A19 : w9[Y + 19]? = some (aI 0 4 (fun _ => 0))) (A20 : w9[Y + 20]? = some (aI 0 8 (fun _ => 0))) (A21 : w9[Y + 21]? = some (aI 0 8 (fun _ => 0))) : mdC w9 Y 0 (fun _ => 0) (-1) (nI 0) (fun _ => 0) newS 0 (fun _ => 0) (fun _ => newS) (fun _ => none) := by
  obtain ⟨dg9, dd9, h9, d9, q9, r9, k0, k7, k8, k9, k10, k11⟩ := hP9
  refine ⟨⟨0, dg9, dd9, 0, 0, 0, 0, 0, k0⟩, ⟨⟨_, A1, rfl, rfl, rfl, rfl, rfl⟩, ⟨_, A2, rI_R⟩, ?_, ?_, ⟨g9, k11, hci9⟩, ?_⟩, ⟨_, _, _, _, _, _, _, _, _, _, _, k7, k8, k9, k10, A12, A13, A14, A18, A19, A20, A21⟩, ⟨_, _, A15, A16, fun k hk => Or.inl rfl⟩⟩
  · exact ⟨_, _, A3, A4, Nat.zero_le _, fun i hi => absurd hi (Nat.not_lt_zero _)⟩
  · exact ⟨_, _, A5, A6, fun k hk => ⟨fun V hV => (nomatch hV), fun _ => rfl⟩⟩
  · exact ⟨_, A17, Nat.zero_le _, fun i hi => absurd hi (Nat.not_lt_zero _)⟩
theorem mnw_tail {w0 v : Wd} {Y : Nat} (hl : v.length = Y + 22) (hH : v[Y]? = some (.inr (11, .int 0 :: .int 0 :: .ref (Y + 1) :: .ref (Y + 2) :: .ref (Y + 3) :: .ref (Y + 4) :: .int 0 :: .ref (Y + 5) :: .ref (Y + 6) :: .ref (Y + 7) :: .int 0 :: .ref (Y + 8) :: .int 0 :: .ref (Y + 9) :: .ref (Y + 10) :: .ref (Y + 11) :: .ref (Y + 12) :: .int 0 :: .int 0 :: .int 0 :: .ref (Y + 13) :: .ref (Y + 14) :: .ref (Y + 15) :: .ref (Y + 16) :: .ref (Y + 17) :: .int 0 :: .int (-1) :: .int 0 :: .int 0 :: .ref (Y + 18) :: .ref (Y + 19) :: .ref (Y + 20) :: .ref (Y + 21) :: []))) (A1 : v[Y + 1]? = some (aI 0 7 (fun _ => 0))) (A2 : v[Y + 2]? = some (aI 0 626 (fun _ => 0))) (A3 : v[Y + 3]? = some (aI 0 5008 (fun _ => 0))) (A4 : v[Y + 4]? = some (aI 0 8 (fun _ => 0))) (A5 : v[Y + 5]? = some (aI 0 1252 (fun _ => 0))) (A6 : v[Y + 6]? = some (aI 3 2 (fun _ => 0))) (A7 : v[Y + 7]? = some (aL 60 (fun _ => 0))) (A8 : v[Y + 8]? = some (aL 14 (fun _ => 0))) (A9 : v[Y + 9]? = some (aL 60 (fun _ => 0))) (A10 : v[Y + 10]? = some (aL 60 (fun _ => 0))) (A11 : v[Y + 11]? = some (aI 0 602 (fun _ => 0))) (A12 : v[Y + 12]? = some (aL 91 (fun _ => 0))) (A13 : v[Y + 13]? = some (aL 450 (fun _ => 0))) (A14 : v[Y + 14]? = some (aI 0 5 (fun _ => 0))) (A15 : v[Y + 15]? = some (aL 720 (fun _ => 0))) (A16 : v[Y + 16]? = some (aI 0 8 (fun _ => 0))) (A17 : v[Y + 17]? = some (aI 2 400 (fun _ => 0))) (A18 : v[Y + 18]? = some (aI 0 13 (fun _ => 0))) (A19 : v[Y + 19]? = some (aI 0 4 (fun _ => 0))) (A20 : v[Y + 20]? = some (aI 0 8 (fun _ => 0))) (A21 : v[Y + 21]? = some (aI 0 8 (fun _ => 0))) : BX12_init w0 (fun r w' => r = none ∧ w'.length = Y + 22 ∧ EX (fun i => Y ≤ i) 0 0 v w' ∧ mdC w' Y 0 (fun _ => 0) (-1) (nI 0) (fun _ => 0) newS 0 (fun _ => 0) (fun _ => newS) (fun _ => none)) v 181 [(0, .ref Y)] [] := by
  refine g_iconst (pc := 181) (v := nI 0) dX12_init_181 (by decide) ?_
  refine g_istore_n (pc := 182) [(1, .int (nI 0)), (0, .ref Y)] dX12_init_182 rfl (by decide) rfl ?_
  refine GP.weq (v.set (Y + 2) (aI 0 626 (rI 0))) (by rw [rI_0, set_same A2]) ?_
  refine GP.lsub _ (by simp) (mnw_loop hH A2 ?_ 8 0 (by omega))
  obtain ⟨v2, ev2⟩ : ∃ wy : Wd, wy = v.set (Y + 2) (aI 0 626 (rI 8)) := ⟨_, rfl⟩
  refine GP.weq v2 ev2.symm ?_
  have U : ∀ j c, j + 1 ≠ 2 → v[Y + (j + 1)]? = some c → v2[Y + (j + 1)]? = some c := fun j c h1 h2 => by rw [ev2]; exact lk_ne (by omega) h2
  have H2 : v2[Y]? = some (.inr (11, .int 0 :: .int 0 :: .ref (Y + 1) :: .ref (Y + 2) :: .ref (Y + 3) :: .ref (Y + 4) :: .int 0 :: .ref (Y + 5) :: .ref (Y + 6) :: .ref (Y + 7) :: .int 0 :: .ref (Y + 8) :: .int 0 :: .ref (Y + 9) :: .ref (Y + 10) :: .ref (Y + 11) :: .ref (Y + 12) :: .int 0 :: .int 0 :: .int 0 :: .ref (Y + 13) :: .ref (Y + 14) :: .ref (Y + 15) :: .ref (Y + 16) :: .ref (Y + 17) :: .int 0 :: .int (-1) :: .int 0 :: .int 0 :: .ref (Y + 18) :: .ref (Y + 19) :: .ref (Y + 20) :: .ref (Y + 21) :: [])) := by rw [ev2]; exact lk_ne (by omega) hH
  have R2 : v2[Y + 2]? = some (aI 0 626 (rI 8)) := by rw [ev2]; exact lk_eq A2
  have E22 : EX (fun i => Y ≤ i) 0 0 v v2 := by rw [ev2]; exact EX.stp EX.rf A2 rfl (Or.inl (Nat.le_add_right Y 2))
  have l2 : v2.length = Y + 22 := by rw [ev2, List.length_set, hl]
  have hL9 : lcP v2 Y 0 0 0 0 0 0 0 (-1) 0 0 (fun _ => 0) := ⟨0, 0, _, _, _, _, H2, U _ _ (by decide) A7, U _ _ (by decide) A8, U _ _ (by decide) A9, U _ _ (by decide) A10, U _ _ (by decide) A11⟩
  refine g_aload_n (pc := 207) 0 dX12_init_207 rfl rfl ?_
  refine g_callV (pc := 208) [] dX12_init_208 cv_X12_80.1 cv_X12_80.2.1 cv_X12_80.2.2.1 cv_X12_80.2.2.2 H2 rfl rfl (Nat.le_of_ble_eq_true rfl) (by decide) (by decide) (mp_layCyclotomic _ hL9) ?_
  rintro _ w9 ⟨rfl, g9, hP9, hci9, hF9⟩
  have hEE : EX (fun i => Y ≤ i) 0 0 v w9 := EX.trn E22 (EX.of hF9 (fun _ h => h)) (fun i hi => by unfold lcS at hi; omega)
  have hlen : w9.length = Y + 22 := by rw [hF9.1, l2]
  have k9 : ∀ j c, (j + 1 < 7 ∨ 11 < j + 1) → v2[Y + (j + 1)]? = some c → w9[Y + (j + 1)]? = some c := fun j c h1 h2 => hF9.lk (by unfold lcS; omega) h2
  have hM := mnw_end hP9 hci9 (k9 _ _ (by decide) (U _ _ (by decide) A1)) (k9 _ _ (by decide) R2) (k9 _ _ (by decide) (U _ _ (by decide) A3)) (k9 _ _ (by decide) (U _ _ (by decide) A4)) (k9 _ _ (by decide) (U _ _ (by decide) A5)) (k9 _ _ (by decide) (U _ _ (by decide) A6)) (k9 _ _ (by decide) (U _ _ (by decide) A12)) (k9 _ _ (by decide) (U _ _ (by decide) A13)) (k9 _ _ (by decide) (U _ _ (by decide) A14)) (k9 _ _ (by decide) (U _ _ (by decide) A15)) (k9 _ _ (by decide) (U _ _ (by decide) A16)) (k9 _ _ (by decide) (U _ _ (by decide) A17)) (k9 _ _ (by decide) (U _ _ (by decide) A18)) (k9 _ _ (by decide) (U _ _ (by decide) A19)) (k9 _ _ (by decide) (U _ _ (by decide) A20)) (k9 _ _ (by decide) (U _ _ (by decide) A21))
  exact g_vret (pc := 211) dX12_init_211 ⟨rfl, hlen, hEE, hM⟩
theorem sp_newModel (w : Wd) {Y : Nat} (ho : Y + 1 = w.length) (hH : w[Y]? = some (.inr (11, .int 0 :: .int 0 :: .null :: .null :: .null :: .null :: .int 0 :: .null :: .null :: .null :: .int 0 :: .null :: .int 0 :: .null :: .null :: .null :: .null :: .int 0 :: .int 0 :: .int 0 :: .null :: .null :: .null :: .null :: .null :: .int 0 :: .int 0 :: .int 0 :: .int 0 :: .null :: .null :: .null :: .null :: []))) : EX12_init [.ref Y] w (fun r w' => r = none ∧ w'.length = Y + 22 ∧ EX (fun i => i = Y) 21 9406 w w' ∧ mdC w' Y 0 (fun _ => 0) (-1) (nI 0) (fun _ => 0) newS 0 (fun _ => 0) (fun _ => newS) (fun _ => none)) := by
  refine EP.of (plainFor_of_name (by decide)) [(0, .ref Y)] rfl (Nat.le_of_ble_eq_true rfl) (fun r wf h => by obtain ⟨rfl, -⟩ := h; trivial) ?_
  show BX12_init w _ w 0 [(0, .ref Y)] []
  refine g_aload_n (pc := 0) 0 dX12_init_0 rfl rfl ?_
  refine g_oinit (pc := 1) dX12_init_1 ol_X12_1 oi_in oi_co (by decide) (Nat.le_of_ble_eq_true rfl) (by decide) ?_
  refine mnw_1_7 ho.symm hH ?_
  intro v7 l7 H7 E7 A1 A2 A3 A4 A5 A6 A7
  refine mnw_8_14 l7 H7 A1 A2 A3 A4 A5 A6 A7 ?_
  intro v14 l14 H14 E14 B1 B2 B3 B4 B5 B6 B7 B8 B9 B10 B11 B12 B13 B14
  refine mnw_15_21 l14 H14 B1 B2 B3 B4 B5 B6 B7 B8 B9 B10 B11 B12 B13 B14 ?_
  intro v21 l21 H21 E21 C1 C2 C3 C4 C5 C6 C7 C8 C9 C10 C11 C12 C13 C14 C15 C16 C17 C18 C19 C20 C21
  have hE : EX (fun i => i = Y) 21 9406 w v21 := (EX.trn (EX.trn E7 E14 (fun i hi => Or.inl hi)) E21 (fun i hi => Or.inl hi)).le (by omega) (by omega)
  refine GP.post ?_ (mnw_tail l21 H21 C1 C2 C3 C4 C5 C6 C7 C8 C9 C10 C11 C12 C13 C14 C15 C16 C17 C18 C19 C20 C21)
  intro r w' h
  exact ⟨h.1, h.2.1, (EX.trn hE h.2.2.1 (fun i hi => by omega)).le (by omega) (by omega), h.2.2.2⟩
