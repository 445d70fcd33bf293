/-! the reference: its constructor -/
def rI (k : Nat) : Nat → Int32 := fun i => if i % 14 = 1 ∧ i / 14 < k then nI 1 else 0
theorem rI_s {k : Nat} : upd (rI k) (14 * k + 1) (nI 1) = rI (k + 1) := by
  funext i
  by_cases e : i = 14 * k + 1
  · rw [e, upd_s]; exact (if_pos (by omega)).symm
  · rw [upd_n e]
    show (if i % 14 = 1 ∧ i / 14 < k then nI 1 else 0) = if i % 14 = 1 ∧ i / 14 < k + 1 then nI 1 else 0
    by_cases g : i % 14 = 1 ∧ i / 14 < k
    · rw [if_pos g, if_pos (by omega)]
    · rw [if_neg g, if_neg (by omega)]
theorem rI_0 : rI 0 = fun _ => 0 := by
  funext i
  exact if_neg (by omega)
theorem rI_R : rowR (rI 8) newS := by
  have z : ∀ i, ¬ (i % 14 = 1 ∧ i / 14 < 8) → rI 8 i = 0 := fun i h => if_neg h
  refine ⟨fun i hi => ⟨okP_one, ?_, fun p hp => ?_⟩, ⟨z 112 (by omega), z 113 (by omega), z 114 (by omega), z 115 (by omega)⟩, ⟨Nat.zero_le _, Nat.zero_le _, Nat.zero_le _, Nat.zero_le _, Nat.zero_le _⟩, fun i hi => absurd hi (Nat.not_lt_zero _)⟩
  · rw [z _ (by omega)]; rfl
  · by_cases e : p = 0
    · rw [e]
      have h1 : rI 8 (14 * i + 1 + 0) = nI 1 := if_pos (by omega)
      rw [h1]; rfl
    · rw [z _ (by omega)]
      show (0 : Int32).toInt = if p = 0 then 1 else 0
      rw [if_neg e]; rfl
theorem lk_l {w : Wd} {c : Ce} {n : Nat} (h : w.length = n) : (w ++ [c])[n]? = some c := by rw [← h]; exact lk_new
abbrev BX12_init (w0 : Wd) (Post : Option Value → Wd → Prop) (w : Wd) (pc : Nat) (ls : List (Nat × Value)) (st : List Value) : Prop := GP "<init>" RX12 cX12_init 2 none 3 117 none w0 Post w pc ls st
abbrev EX12_init (As : List Value) (w : Wd) (Post : Option Value → Wd → Prop) : Prop := EP yX12_init cX12_init 2 none 3 As w Post
theorem mnw_loop {w0 w1 : Wd} {Y : Nat} (hY : w1[Y]? = some (.inr (11, .int 0 :: .int 0 :: .ref (Y + 1) :: .ref (Y + 2) :: .ref (Y + 3) :: .ref (Y + 4) :: .int 0 :: .ref (Y + 5) :: .ref (Y + 6) :: .ref (Y + 7) :: .int 0 :: .ref (Y + 8) :: .int 0 :: .ref (Y + 9) :: .ref (Y + 10) :: .ref (Y + 11) :: .ref (Y + 12) :: .int 0 :: .int 0 :: .int 0 :: .ref (Y + 13) :: .ref (Y + 14) :: .ref (Y + 15) :: .ref (Y + 16) :: .ref (Y + 17) :: .int 0 :: .int (-1) :: .int 0 :: .int 0 :: .ref (Y + 18) :: .ref (Y + 19) :: .ref (Y + 20) :: .ref (Y + 21) :: []))) (h2 : w1[Y + 2]? = some (aI 0 626 (fun _ => 0))) {Q : Option Value → Wd → Prop} (K : BX12_init w0 Q (w1.set (Y + 2) (aI 0 626 (rI 8))) 207 [(0, .ref Y)] []) : ∀ (z k : Nat), 8 = k + z → BX12_init w0 Q (w1.set (Y + 2) (aI 0 626 (rI k))) 183 [(1, .int (nI k)), (0, .ref Y)] [] := by
  intro z
  induction z with
  | zero =>
    intro k hz
    refine g_iload_n (pc := 183) 0 dX12_init_183 rfl rfl ?_
    refine g_bipush (pc := 184) (v := nI 8) dX12_init_184 (by decide) ?_
    refine n_icmp_ge (pc := 186) 207 dX12_init_186 (by decide) (by omega) (by omega) (fun hb9 => ?_) (fun hb9 => ?_)
    · have e9 : k = 8 := by omega
      rw [e9]
      exact GP.lsub _ (by simp) K
    · exact absurd hb9 (by omega)
  | succ z ih =>
    intro k hz
    refine g_iload_n (pc := 183) 0 dX12_init_183 rfl rfl ?_
    refine g_bipush (pc := 184) (v := nI 8) dX12_init_184 (by decide) ?_
    refine n_icmp_ge (pc := 186) 207 dX12_init_186 (by decide) (by omega) (by omega) (fun hb9 => ?_) (fun hb9 => ?_)
    · exact absurd hb9 (by omega)
    · refine g_aload_n (pc := 189) 1 dX12_init_189 rfl rfl ?_
      refine g_get (pc := 190) dX12_init_190 fk_X12_13 (lk_ne (show (Y + 2) ≠ Y by omega) hY) rfl ?_
      refine g_bipush (pc := 193) (v := nI 14) dX12_init_193 (by decide) ?_
      refine g_iload_n (pc := 195) 0 dX12_init_195 rfl rfl ?_
      refine n_imul (pc := 196) dX12_init_196 ?_
      refine g_iconst (pc := 197) (v := nI 1) dX12_init_197 (by decide) ?_
      refine n_iadd (pc := 198) dX12_init_198 ?_
      refine g_iconst (pc := 199) (v := nI 1) dX12_init_199 (by decide) ?_
      refine g_iast (pc := 200) ((14 * k) + 1) dX12_init_200 (lk_eq h2) (IXn (by omega) (by omega)) ?_
      refine GP.weq (w1.set (Y + 2) (aI 0 626 (upd (rI k) ((14 * k) + 1) (nI 1)))) (by rw [List.set_set]) ?_
      refine n_iinc (pc := 201) (c := 1) [(1, .int (nI (k + 1))), (0, .ref Y)] 0 dX12_init_201 rfl (by decide) (by decide) rfl ?_
      refine g_goto (pc := 204) 183 dX12_init_204 (by decide) ?_
      rw [rI_s]
      exact GP.lsub _ (by simp) (ih (k + 1) (by omega))
set_option maxHeartbeats 8000000 in
theorem sp_newModel (w : Wd) {Y : Nat} (ho : Y + 1 = w.length) (hH : w[Y]? = some (.inr (11, .int 0 :: .int 0 :: .null :: .null :: .null :: .null :: .int 0 :: .null :: .null :: .null :: .int 0 :: .null :: .int 0 :: .null :: .null :: .null :: .null :: .int 0 :: .int 0 :: .int 0 :: .null :: .null :: .null :: .null :: .null :: .int 0 :: .int 0 :: .int 0 :: .int 0 :: .null :: .null :: .null :: .null :: []))) : EX12_init [.ref Y] w (fun r w' => r = none ∧ w'.length = Y + 22 ∧ EX (fun i => i = Y) 21 9406 w w' ∧ mdC w' Y 0 (fun _ => 0) (-1) (nI 0) (fun _ => 0) newS 0 (fun _ => 0) (fun _ => newS) (fun _ => none)) := by
  refine EP.of (plainFor_of_name (by decide)) [(0, .ref Y)] rfl (Nat.le_of_ble_eq_true rfl) (fun r wf h => by obtain ⟨rfl, -⟩ := h; trivial) ?_
  show BX12_init w _ w 0 [(0, .ref Y)] []
  refine g_aload_n (pc := 0) 0 dX12_init_0 rfl rfl ?_
  refine g_oinit (pc := 1) dX12_init_1 ol_X12_1 oi_in oi_co (by decide) (Nat.le_of_ble_eq_true rfl) (by decide) ?_
  refine g_aload_n (pc := 4) 0 dX12_init_4 rfl rfl ?_
  refine g_bipush (pc := 5) (v := nI 7) dX12_init_5 (by decide) ?_
  refine g_newaI (pc := 7) 7 dX12_init_7 acI (by decide) (by decide) ?_
  refine GP.tr (Y + 1) ho.symm ?_
  refine g_putF (pc := 9) (.int 0 :: .int 0 :: .ref (Y + 1) :: .null :: .null :: .null :: .int 0 :: .null :: .null :: .null :: .int 0 :: .null :: .int 0 :: .null :: .null :: .null :: .null :: .int 0 :: .int 0 :: .int 0 :: .null :: .null :: .null :: .null :: .null :: .int 0 :: .int 0 :: .int 0 :: .int 0 :: .null :: .null :: .null :: .null :: []) dX12_init_9 fk_X12_7 (fun _ _ _ h => by cases h; rfl) rfl (lk_app hH) (Nat.le_of_ble_eq_true rfl) rfl rfl ?_
  obtain ⟨v1, ev1⟩ : ∃ wy : Wd, wy = ((w ++ [aI 0 7 (fun _ => 0)]).set Y (.inr (11, .int 0 :: .int 0 :: .ref (Y + 1) :: .null :: .null :: .null :: .int 0 :: .null :: .null :: .null :: .int 0 :: .null :: .int 0 :: .null :: .null :: .null :: .null :: .int 0 :: .int 0 :: .int 0 :: .null :: .null :: .null :: .null :: .null :: .int 0 :: .int 0 :: .int 0 :: .int 0 :: .null :: .null :: .null :: .null :: []))) := ⟨_, rfl⟩
  refine GP.weq v1 ev1.symm ?_
  have lv1 : v1.length = Y + 2 := by rw [ev1, List.length_set, List.length_append, ho.symm]; rfl
  have Hv1 : v1[Y]? = some (.inr (11, .int 0 :: .int 0 :: .ref (Y + 1) :: .null :: .null :: .null :: .int 0 :: .null :: .null :: .null :: .int 0 :: .null :: .int 0 :: .null :: .null :: .null :: .null :: .int 0 :: .int 0 :: .int 0 :: .null :: .null :: .null :: .null :: .null :: .int 0 :: .int 0 :: .int 0 :: .int 0 :: .null :: .null :: .null :: .null :: [])) := by rw [ev1]; exact lk_eq (lk_app hH)
  have Ev1 : EX (fun i => i = Y) 1 7 w v1 := by rw [ev1]; exact EX.stp (EX.le (k' := 1) (s' := 7) (EX.apd [aI 0 7 (fun _ => 0)] (EX.rf (S := fun i => i = Y))) (by simp) (by simp [slW, slE])) (lk_app hH) rfl (Or.inl rfl)
  have Av1 : v1[Y + 1]? = some (aI 0 7 (fun _ => 0)) := by rw [ev1]; exact lk_ne (by omega) (lk_l ho.symm)
  have Lv1 : ∀ i c, i ≠ Y → w[i]? = some c → v1[i]? = some c := fun i c h1 h2 => by rw [ev1]; exact lk_ne (Ne.symm h1) (lk_app h2)
  refine g_aload_n (pc := 12) 0 dX12_init_12 rfl rfl ?_
  refine g_sipush (pc := 13) (v := nI 626) dX12_init_13 (by decide) ?_
  refine g_newaI (pc := 16) 626 dX12_init_16 acI (by decide) (by decide) ?_
  refine GP.tr (Y + 2) lv1 ?_
  refine g_putF (pc := 18) (.int 0 :: .int 0 :: .ref (Y + 1) :: .ref (Y + 2) :: .null :: .null :: .int 0 :: .null :: .null :: .null :: .int 0 :: .null :: .int 0 :: .null :: .null :: .null :: .null :: .int 0 :: .int 0 :: .int 0 :: .null :: .null :: .null :: .null :: .null :: .int 0 :: .int 0 :: .int 0 :: .int 0 :: .null :: .null :: .null :: .null :: []) dX12_init_18 fk_X12_13 (fun _ _ _ h => by cases h; rfl) rfl (lk_app Hv1) (Nat.le_of_ble_eq_true rfl) rfl rfl ?_
  obtain ⟨v2, ev2⟩ : ∃ wy : Wd, wy = ((v1 ++ [aI 0 626 (fun _ => 0)]).set Y (.inr (11, .int 0 :: .int 0 :: .ref (Y + 1) :: .ref (Y + 2) :: .null :: .null :: .int 0 :: .null :: .null :: .null :: .int 0 :: .null :: .int 0 :: .null :: .null :: .null :: .null :: .int 0 :: .int 0 :: .int 0 :: .null :: .null :: .null :: .null :: .null :: .int 0 :: .int 0 :: .int 0 :: .int 0 :: .null :: .null :: .null :: .null :: []))) := ⟨_, rfl⟩
  refine GP.weq v2 ev2.symm ?_
  have lv2 : v2.length = Y + 3 := by rw [ev2, List.length_set, List.length_append, lv1]; rfl
  have Hv2 : v2[Y]? = some (.inr (11, .int 0 :: .int 0 :: .ref (Y + 1) :: .ref (Y + 2) :: .null :: .null :: .int 0 :: .null :: .null :: .null :: .int 0 :: .null :: .int 0 :: .null :: .null :: .null :: .null :: .int 0 :: .int 0 :: .int 0 :: .null :: .null :: .null :: .null :: .null :: .int 0 :: .int 0 :: .int 0 :: .int 0 :: .null :: .null :: .null :: .null :: [])) := by rw [ev2]; exact lk_eq (lk_app Hv1)
  have Ev2 : EX (fun i => i = Y) 2 633 w v2 := by rw [ev2]; exact EX.stp (EX.le (k' := 2) (s' := 633) (EX.apd [aI 0 626 (fun _ => 0)] Ev1) (by simp) (by simp [slW, slE])) (lk_app Hv1) rfl (Or.inl rfl)
  have Av2 : v2[Y + 2]? = some (aI 0 626 (fun _ => 0)) := by rw [ev2]; exact lk_ne (by omega) (lk_l lv1)
  have Lv2 : ∀ i c, i ≠ Y → v1[i]? = some c → v2[i]? = some c := fun i c h1 h2 => by rw [ev2]; exact lk_ne (Ne.symm h1) (lk_app h2)
  refine g_aload_n (pc := 21) 0 dX12_init_21 rfl rfl ?_
  refine g_sipush (pc := 22) (v := nI 5008) dX12_init_22 (by decide) ?_
  refine g_newaI (pc := 25) 5008 dX12_init_25 acI (by decide) (by decide) ?_
  refine GP.tr (Y + 3) lv2 ?_
  refine g_putF (pc := 27) (.int 0 :: .int 0 :: .ref (Y + 1) :: .ref (Y + 2) :: .ref (Y + 3) :: .null :: .int 0 :: .null :: .null :: .null :: .int 0 :: .null :: .int 0 :: .null :: .null :: .null :: .null :: .int 0 :: .int 0 :: .int 0 :: .null :: .null :: .null :: .null :: .null :: .int 0 :: .int 0 :: .int 0 :: .int 0 :: .null :: .null :: .null :: .null :: []) dX12_init_27 fk_X12_16 (fun _ _ _ h => by cases h; rfl) rfl (lk_app Hv2) (Nat.le_of_ble_eq_true rfl) rfl rfl ?_
  obtain ⟨v3, ev3⟩ : ∃ wy : Wd, wy = ((v2 ++ [aI 0 5008 (fun _ => 0)]).set Y (.inr (11, .int 0 :: .int 0 :: .ref (Y + 1) :: .ref (Y + 2) :: .ref (Y + 3) :: .null :: .int 0 :: .null :: .null :: .null :: .int 0 :: .null :: .int 0 :: .null :: .null :: .null :: .null :: .int 0 :: .int 0 :: .int 0 :: .null :: .null :: .null :: .null :: .null :: .int 0 :: .int 0 :: .int 0 :: .int 0 :: .null :: .null :: .null :: .null :: []))) := ⟨_, rfl⟩
  refine GP.weq v3 ev3.symm ?_
  have lv3 : v3.length = Y + 4 := by rw [ev3, List.length_set, List.length_append, lv2]; rfl
  have Hv3 : v3[Y]? = some (.inr (11, .int 0 :: .int 0 :: .ref (Y + 1) :: .ref (Y + 2) :: .ref (Y + 3) :: .null :: .int 0 :: .null :: .null :: .null :: .int 0 :: .null :: .int 0 :: .null :: .null :: .null :: .null :: .int 0 :: .int 0 :: .int 0 :: .null :: .null :: .null :: .null :: .null :: .int 0 :: .int 0 :: .int 0 :: .int 0 :: .null :: .null :: .null :: .null :: [])) := by rw [ev3]; exact lk_eq (lk_app Hv2)
  have Ev3 : EX (fun i => i = Y) 3 5641 w v3 := by rw [ev3]; exact EX.stp (EX.le (k' := 3) (s' := 5641) (EX.apd [aI 0 5008 (fun _ => 0)] Ev2) (by simp) (by simp [slW, slE])) (lk_app Hv2) rfl (Or.inl rfl)
  have Av3 : v3[Y + 3]? = some (aI 0 5008 (fun _ => 0)) := by rw [ev3]; exact lk_ne (by omega) (lk_l lv2)
  have Lv3 : ∀ i c, i ≠ Y → v2[i]? = some c → v3[i]? = some c := fun i c h1 h2 => by rw [ev3]; exact lk_ne (Ne.symm h1) (lk_app h2)
  refine g_aload_n (pc := 30) 0 dX12_init_30 rfl rfl ?_
  refine g_bipush (pc := 31) (v := nI 8) dX12_init_31 (by decide) ?_
  refine g_newaI (pc := 33) 8 dX12_init_33 acI (by decide) (by decide) ?_
  refine GP.tr (Y + 4) lv3 ?_
  refine g_putF (pc := 35) (.int 0 :: .int 0 :: .ref (Y + 1) :: .ref (Y + 2) :: .ref (Y + 3) :: .ref (Y + 4) :: .int 0 :: .null :: .null :: .null :: .int 0 :: .null :: .int 0 :: .null :: .null :: .null :: .null :: .int 0 :: .int 0 :: .int 0 :: .null :: .null :: .null :: .null :: .null :: .int 0 :: .int 0 :: .int 0 :: .int 0 :: .null :: .null :: .null :: .null :: []) dX12_init_35 fk_X12_19 (fun _ _ _ h => by cases h; rfl) rfl (lk_app Hv3) (Nat.le_of_ble_eq_true rfl) rfl rfl ?_
  obtain ⟨v4, ev4⟩ : ∃ wy : Wd, wy = ((v3 ++ [aI 0 8 (fun _ => 0)]).set Y (.inr (11, .int 0 :: .int 0 :: .ref (Y + 1) :: .ref (Y + 2) :: .ref (Y + 3) :: .ref (Y + 4) :: .int 0 :: .null :: .null :: .null :: .int 0 :: .null :: .int 0 :: .null :: .null :: .null :: .null :: .int 0 :: .int 0 :: .int 0 :: .null :: .null :: .null :: .null :: .null :: .int 0 :: .int 0 :: .int 0 :: .int 0 :: .null :: .null :: .null :: .null :: []))) := ⟨_, rfl⟩
  refine GP.weq v4 ev4.symm ?_
  have lv4 : v4.length = Y + 5 := by rw [ev4, List.length_set, List.length_append, lv3]; rfl
  have Hv4 : v4[Y]? = some (.inr (11, .int 0 :: .int 0 :: .ref (Y + 1) :: .ref (Y + 2) :: .ref (Y + 3) :: .ref (Y + 4) :: .int 0 :: .null :: .null :: .null :: .int 0 :: .null :: .int 0 :: .null :: .null :: .null :: .null :: .int 0 :: .int 0 :: .int 0 :: .null :: .null :: .null :: .null :: .null :: .int 0 :: .int 0 :: .int 0 :: .int 0 :: .null :: .null :: .null :: .null :: [])) := by rw [ev4]; exact lk_eq (lk_app Hv3)
  have Ev4 : EX (fun i => i = Y) 4 5649 w v4 := by rw [ev4]; exact EX.stp (EX.le (k' := 4) (s' := 5649) (EX.apd [aI 0 8 (fun _ => 0)] Ev3) (by simp) (by simp [slW, slE])) (lk_app Hv3) rfl (Or.inl rfl)
  have Av4 : v4[Y + 4]? = some (aI 0 8 (fun _ => 0)) := by rw [ev4]; exact lk_ne (by omega) (lk_l lv3)
  have Lv4 : ∀ i c, i ≠ Y → v3[i]? = some c → v4[i]? = some c := fun i c h1 h2 => by rw [ev4]; exact lk_ne (Ne.symm h1) (lk_app h2)
  refine g_aload_n (pc := 38) 0 dX12_init_38 rfl rfl ?_
  refine g_sipush (pc := 39) (v := nI 1252) dX12_init_39 (by decide) ?_
  refine g_newaI (pc := 42) 1252 dX12_init_42 acI (by decide) (by decide) ?_
  refine GP.tr (Y + 5) lv4 ?_
  refine g_putF (pc := 44) (.int 0 :: .int 0 :: .ref (Y + 1) :: .ref (Y + 2) :: .ref (Y + 3) :: .ref (Y + 4) :: .int 0 :: .ref (Y + 5) :: .null :: .null :: .int 0 :: .null :: .int 0 :: .null :: .null :: .null :: .null :: .int 0 :: .int 0 :: .int 0 :: .null :: .null :: .null :: .null :: .null :: .int 0 :: .int 0 :: .int 0 :: .int 0 :: .null :: .null :: .null :: .null :: []) dX12_init_44 fk_X12_22 (fun _ _ _ h => by cases h; rfl) rfl (lk_app Hv4) (Nat.le_of_ble_eq_true rfl) rfl rfl ?_
  obtain ⟨v5, ev5⟩ : ∃ wy : Wd, wy = ((v4 ++ [aI 0 1252 (fun _ => 0)]).set Y (.inr (11, .int 0 :: .int 0 :: .ref (Y + 1) :: .ref (Y + 2) :: .ref (Y + 3) :: .ref (Y + 4) :: .int 0 :: .ref (Y + 5) :: .null :: .null :: .int 0 :: .null :: .int 0 :: .null :: .null :: .null :: .null :: .int 0 :: .int 0 :: .int 0 :: .null :: .null :: .null :: .null :: .null :: .int 0 :: .int 0 :: .int 0 :: .int 0 :: .null :: .null :: .null :: .null :: []))) := ⟨_, rfl⟩
  refine GP.weq v5 ev5.symm ?_
  have lv5 : v5.length = Y + 6 := by rw [ev5, List.length_set, List.length_append, lv4]; rfl
  have Hv5 : v5[Y]? = some (.inr (11, .int 0 :: .int 0 :: .ref (Y + 1) :: .ref (Y + 2) :: .ref (Y + 3) :: .ref (Y + 4) :: .int 0 :: .ref (Y + 5) :: .null :: .null :: .int 0 :: .null :: .int 0 :: .null :: .null :: .null :: .null :: .int 0 :: .int 0 :: .int 0 :: .null :: .null :: .null :: .null :: .null :: .int 0 :: .int 0 :: .int 0 :: .int 0 :: .null :: .null :: .null :: .null :: [])) := by rw [ev5]; exact lk_eq (lk_app Hv4)
  have Ev5 : EX (fun i => i = Y) 5 6901 w v5 := by rw [ev5]; exact EX.stp (EX.le (k' := 5) (s' := 6901) (EX.apd [aI 0 1252 (fun _ => 0)] Ev4) (by simp) (by simp [slW, slE])) (lk_app Hv4) rfl (Or.inl rfl)
  have Av5 : v5[Y + 5]? = some (aI 0 1252 (fun _ => 0)) := by rw [ev5]; exact lk_ne (by omega) (lk_l lv4)
  have Lv5 : ∀ i c, i ≠ Y → v4[i]? = some c → v5[i]? = some c := fun i c h1 h2 => by rw [ev5]; exact lk_ne (Ne.symm h1) (lk_app h2)
  refine g_aload_n (pc := 47) 0 dX12_init_47 rfl rfl ?_
  refine g_iconst (pc := 48) (v := nI 2) dX12_init_48 (by decide) ?_
  refine g_newaZ (pc := 49) 2 dX12_init_49 acZ (by decide) (by decide) ?_
  refine GP.tr (Y + 6) lv5 ?_
  refine g_putF (pc := 51) (.int 0 :: .int 0 :: .ref (Y + 1) :: .ref (Y + 2) :: .ref (Y + 3) :: .ref (Y + 4) :: .int 0 :: .ref (Y + 5) :: .ref (Y + 6) :: .null :: .int 0 :: .null :: .int 0 :: .null :: .null :: .null :: .null :: .int 0 :: .int 0 :: .int 0 :: .null :: .null :: .null :: .null :: .null :: .int 0 :: .int 0 :: .int 0 :: .int 0 :: .null :: .null :: .null :: .null :: []) dX12_init_51 fk_X12_25 (fun _ _ _ h => by cases h; rfl) rfl (lk_app Hv5) (Nat.le_of_ble_eq_true rfl) rfl rfl ?_
  obtain ⟨v6, ev6⟩ : ∃ wy : Wd, wy = ((v5 ++ [aI 3 2 (fun _ => 0)]).set Y (.inr (11, .int 0 :: .int 0 :: .ref (Y + 1) :: .ref (Y + 2) :: .ref (Y + 3) :: .ref (Y + 4) :: .int 0 :: .ref (Y + 5) :: .ref (Y + 6) :: .null :: .int 0 :: .null :: .int 0 :: .null :: .null :: .null :: .null :: .int 0 :: .int 0 :: .int 0 :: .null :: .null :: .null :: .null :: .null :: .int 0 :: .int 0 :: .int 0 :: .int 0 :: .null :: .null :: .null :: .null :: []))) := ⟨_, rfl⟩
  refine GP.weq v6 ev6.symm ?_
  have lv6 : v6.length = Y + 7 := by rw [ev6, List.length_set, List.length_append, lv5]; rfl
  have Hv6 : v6[Y]? = some (.inr (11, .int 0 :: .int 0 :: .ref (Y + 1) :: .ref (Y + 2) :: .ref (Y + 3) :: .ref (Y + 4) :: .int 0 :: .ref (Y + 5) :: .ref (Y + 6) :: .null :: .int 0 :: .null :: .int 0 :: .null :: .null :: .null :: .null :: .int 0 :: .int 0 :: .int 0 :: .null :: .null :: .null :: .null :: .null :: .int 0 :: .int 0 :: .int 0 :: .int 0 :: .null :: .null :: .null :: .null :: [])) := by rw [ev6]; exact lk_eq (lk_app Hv5)
  have Ev6 : EX (fun i => i = Y) 6 6903 w v6 := by rw [ev6]; exact EX.stp (EX.le (k' := 6) (s' := 6903) (EX.apd [aI 3 2 (fun _ => 0)] Ev5) (by simp) (by simp [slW, slE])) (lk_app Hv5) rfl (Or.inl rfl)
  have Av6 : v6[Y + 6]? = some (aI 3 2 (fun _ => 0)) := by rw [ev6]; exact lk_ne (by omega) (lk_l lv5)
  have Lv6 : ∀ i c, i ≠ Y → v5[i]? = some c → v6[i]? = some c := fun i c h1 h2 => by rw [ev6]; exact lk_ne (Ne.symm h1) (lk_app h2)
  refine g_aload_n (pc := 54) 0 dX12_init_54 rfl rfl ?_
  refine g_bipush (pc := 55) (v := nI 60) dX12_init_55 (by decide) ?_
  refine g_newaL (pc := 57) 60 dX12_init_57 acL (by decide) (by decide) ?_
  refine GP.tr (Y + 7) lv6 ?_
  refine g_putF (pc := 59) (.int 0 :: .int 0 :: .ref (Y + 1) :: .ref (Y + 2) :: .ref (Y + 3) :: .ref (Y + 4) :: .int 0 :: .ref (Y + 5) :: .ref (Y + 6) :: .ref (Y + 7) :: .int 0 :: .null :: .int 0 :: .null :: .null :: .null :: .null :: .int 0 :: .int 0 :: .int 0 :: .null :: .null :: .null :: .null :: .null :: .int 0 :: .int 0 :: .int 0 :: .int 0 :: .null :: .null :: .null :: .null :: []) dX12_init_59 fk_X12_29 (fun _ _ _ h => by cases h; rfl) rfl (lk_app Hv6) (Nat.le_of_ble_eq_true rfl) rfl rfl ?_
  obtain ⟨v7, ev7⟩ : ∃ wy : Wd, wy = ((v6 ++ [aL 60 (fun _ => 0)]).set Y (.inr (11, .int 0 :: .int 0 :: .ref (Y + 1) :: .ref (Y + 2) :: .ref (Y + 3) :: .ref (Y + 4) :: .int 0 :: .ref (Y + 5) :: .ref (Y + 6) :: .ref (Y + 7) :: .int 0 :: .null :: .int 0 :: .null :: .null :: .null :: .null :: .int 0 :: .int 0 :: .int 0 :: .null :: .null :: .null :: .null :: .null :: .int 0 :: .int 0 :: .int 0 :: .int 0 :: .null :: .null :: .null :: .null :: []))) := ⟨_, rfl⟩
  refine GP.weq v7 ev7.symm ?_
  have lv7 : v7.length = Y + 8 := by rw [ev7, List.length_set, List.length_append, lv6]; rfl
  have Hv7 : v7[Y]? = some (.inr (11, .int 0 :: .int 0 :: .ref (Y + 1) :: .ref (Y + 2) :: .ref (Y + 3) :: .ref (Y + 4) :: .int 0 :: .ref (Y + 5) :: .ref (Y + 6) :: .ref (Y + 7) :: .int 0 :: .null :: .int 0 :: .null :: .null :: .null :: .null :: .int 0 :: .int 0 :: .int 0 :: .null :: .null :: .null :: .null :: .null :: .int 0 :: .int 0 :: .int 0 :: .int 0 :: .null :: .null :: .null :: .null :: [])) := by rw [ev7]; exact lk_eq (lk_app Hv6)
  have Ev7 : EX (fun i => i = Y) 7 6963 w v7 := by rw [ev7]; exact EX.stp (EX.le (k' := 7) (s' := 6963) (EX.apd [aL 60 (fun _ => 0)] Ev6) (by simp) (by simp [slW, slE])) (lk_app Hv6) rfl (Or.inl rfl)
  have Av7 : v7[Y + 7]? = some (aL 60 (fun _ => 0)) := by rw [ev7]; exact lk_ne (by omega) (lk_l lv6)
  have Lv7 : ∀ i c, i ≠ Y → v6[i]? = some c → v7[i]? = some c := fun i c h1 h2 => by rw [ev7]; exact lk_ne (Ne.symm h1) (lk_app h2)
  refine g_aload_n (pc := 62) 0 dX12_init_62 rfl rfl ?_
  refine g_bipush (pc := 63) (v := nI 14) dX12_init_63 (by decide) ?_
  refine g_newaL (pc := 65) 14 dX12_init_65 acL (by decide) (by decide) ?_
  refine GP.tr (Y + 8) lv7 ?_
  refine g_putF (pc := 67) (.int 0 :: .int 0 :: .ref (Y + 1) :: .ref (Y + 2) :: .ref (Y + 3) :: .ref (Y + 4) :: .int 0 :: .ref (Y + 5) :: .ref (Y + 6) :: .ref (Y + 7) :: .int 0 :: .ref (Y + 8) :: .int 0 :: .null :: .null :: .null :: .null :: .int 0 :: .int 0 :: .int 0 :: .null :: .null :: .null :: .null :: .null :: .int 0 :: .int 0 :: .int 0 :: .int 0 :: .null :: .null :: .null :: .null :: []) dX12_init_67 fk_X12_33 (fun _ _ _ h => by cases h; rfl) rfl (lk_app Hv7) (Nat.le_of_ble_eq_true rfl) rfl rfl ?_
  obtain ⟨v8, ev8⟩ : ∃ wy : Wd, wy = ((v7 ++ [aL 14 (fun _ => 0)]).set Y (.inr (11, .int 0 :: .int 0 :: .ref (Y + 1) :: .ref (Y + 2) :: .ref (Y + 3) :: .ref (Y + 4) :: .int 0 :: .ref (Y + 5) :: .ref (Y + 6) :: .ref (Y + 7) :: .int 0 :: .ref (Y + 8) :: .int 0 :: .null :: .null :: .null :: .null :: .int 0 :: .int 0 :: .int 0 :: .null :: .null :: .null :: .null :: .null :: .int 0 :: .int 0 :: .int 0 :: .int 0 :: .null :: .null :: .null :: .null :: []))) := ⟨_, rfl⟩
  refine GP.weq v8 ev8.symm ?_
  have lv8 : v8.length = Y + 9 := by rw [ev8, List.length_set, List.length_append, lv7]; rfl
  have Hv8 : v8[Y]? = some (.inr (11, .int 0 :: .int 0 :: .ref (Y + 1) :: .ref (Y + 2) :: .ref (Y + 3) :: .ref (Y + 4) :: .int 0 :: .ref (Y + 5) :: .ref (Y + 6) :: .ref (Y + 7) :: .int 0 :: .ref (Y + 8) :: .int 0 :: .null :: .null :: .null :: .null :: .int 0 :: .int 0 :: .int 0 :: .null :: .null :: .null :: .null :: .null :: .int 0 :: .int 0 :: .int 0 :: .int 0 :: .null :: .null :: .null :: .null :: [])) := by rw [ev8]; exact lk_eq (lk_app Hv7)
  have Ev8 : EX (fun i => i = Y) 8 6977 w v8 := by rw [ev8]; exact EX.stp (EX.le (k' := 8) (s' := 6977) (EX.apd [aL 14 (fun _ => 0)] Ev7) (by simp) (by simp [slW, slE])) (lk_app Hv7) rfl (Or.inl rfl)
  have Av8 : v8[Y + 8]? = some (aL 14 (fun _ => 0)) := by rw [ev8]; exact lk_ne (by omega) (lk_l lv7)
  have Lv8 : ∀ i c, i ≠ Y → v7[i]? = some c → v8[i]? = some c := fun i c h1 h2 => by rw [ev8]; exact lk_ne (Ne.symm h1) (lk_app h2)
  refine g_aload_n (pc := 70) 0 dX12_init_70 rfl rfl ?_
  refine g_bipush (pc := 71) (v := nI 60) dX12_init_71 (by decide) ?_
  refine g_newaL (pc := 73) 60 dX12_init_73 acL (by decide) (by decide) ?_
  refine GP.tr (Y + 9) lv8 ?_
  refine g_putF (pc := 75) (.int 0 :: .int 0 :: .ref (Y + 1) :: .ref (Y + 2) :: .ref (Y + 3) :: .ref (Y + 4) :: .int 0 :: .ref (Y + 5) :: .ref (Y + 6) :: .ref (Y + 7) :: .int 0 :: .ref (Y + 8) :: .int 0 :: .ref (Y + 9) :: .null :: .null :: .null :: .int 0 :: .int 0 :: .int 0 :: .null :: .null :: .null :: .null :: .null :: .int 0 :: .int 0 :: .int 0 :: .int 0 :: .null :: .null :: .null :: .null :: []) dX12_init_75 fk_X12_36 (fun _ _ _ h => by cases h; rfl) rfl (lk_app Hv8) (Nat.le_of_ble_eq_true rfl) rfl rfl ?_
  obtain ⟨v9, ev9⟩ : ∃ wy : Wd, wy = ((v8 ++ [aL 60 (fun _ => 0)]).set Y (.inr (11, .int 0 :: .int 0 :: .ref (Y + 1) :: .ref (Y + 2) :: .ref (Y + 3) :: .ref (Y + 4) :: .int 0 :: .ref (Y + 5) :: .ref (Y + 6) :: .ref (Y + 7) :: .int 0 :: .ref (Y + 8) :: .int 0 :: .ref (Y + 9) :: .null :: .null :: .null :: .int 0 :: .int 0 :: .int 0 :: .null :: .null :: .null :: .null :: .null :: .int 0 :: .int 0 :: .int 0 :: .int 0 :: .null :: .null :: .null :: .null :: []))) := ⟨_, rfl⟩
  refine GP.weq v9 ev9.symm ?_
  have lv9 : v9.length = Y + 10 := by rw [ev9, List.length_set, List.length_append, lv8]; rfl
  have Hv9 : v9[Y]? = some (.inr (11, .int 0 :: .int 0 :: .ref (Y + 1) :: .ref (Y + 2) :: .ref (Y + 3) :: .ref (Y + 4) :: .int 0 :: .ref (Y + 5) :: .ref (Y + 6) :: .ref (Y + 7) :: .int 0 :: .ref (Y + 8) :: .int 0 :: .ref (Y + 9) :: .null :: .null :: .null :: .int 0 :: .int 0 :: .int 0 :: .null :: .null :: .null :: .null :: .null :: .int 0 :: .int 0 :: .int 0 :: .int 0 :: .null :: .null :: .null :: .null :: [])) := by rw [ev9]; exact lk_eq (lk_app Hv8)
  have Ev9 : EX (fun i => i = Y) 9 7037 w v9 := by rw [ev9]; exact EX.stp (EX.le (k' := 9) (s' := 7037) (EX.apd [aL 60 (fun _ => 0)] Ev8) (by simp) (by simp [slW, slE])) (lk_app Hv8) rfl (Or.inl rfl)
  have Av9 : v9[Y + 9]? = some (aL 60 (fun _ => 0)) := by rw [ev9]; exact lk_ne (by omega) (lk_l lv8)
  have Lv9 : ∀ i c, i ≠ Y → v8[i]? = some c → v9[i]? = some c := fun i c h1 h2 => by rw [ev9]; exact lk_ne (Ne.symm h1) (lk_app h2)
  refine g_aload_n (pc := 78) 0 dX12_init_78 rfl rfl ?_
  refine g_bipush (pc := 79) (v := nI 60) dX12_init_79 (by decide) ?_
  refine g_newaL (pc := 81) 60 dX12_init_81 acL (by decide) (by decide) ?_
  refine GP.tr (Y + 10) lv9 ?_
  refine g_putF (pc := 83) (.int 0 :: .int 0 :: .ref (Y + 1) :: .ref (Y + 2) :: .ref (Y + 3) :: .ref (Y + 4) :: .int 0 :: .ref (Y + 5) :: .ref (Y + 6) :: .ref (Y + 7) :: .int 0 :: .ref (Y + 8) :: .int 0 :: .ref (Y + 9) :: .ref (Y + 10) :: .null :: .null :: .int 0 :: .int 0 :: .int 0 :: .null :: .null :: .null :: .null :: .null :: .int 0 :: .int 0 :: .int 0 :: .int 0 :: .null :: .null :: .null :: .null :: []) dX12_init_83 fk_X12_39 (fun _ _ _ h => by cases h; rfl) rfl (lk_app Hv9) (Nat.le_of_ble_eq_true rfl) rfl rfl ?_
  obtain ⟨v10, ev10⟩ : ∃ wy : Wd, wy = ((v9 ++ [aL 60 (fun _ => 0)]).set Y (.inr (11, .int 0 :: .int 0 :: .ref (Y + 1) :: .ref (Y + 2) :: .ref (Y + 3) :: .ref (Y + 4) :: .int 0 :: .ref (Y + 5) :: .ref (Y + 6) :: .ref (Y + 7) :: .int 0 :: .ref (Y + 8) :: .int 0 :: .ref (Y + 9) :: .ref (Y + 10) :: .null :: .null :: .int 0 :: .int 0 :: .int 0 :: .null :: .null :: .null :: .null :: .null :: .int 0 :: .int 0 :: .int 0 :: .int 0 :: .null :: .null :: .null :: .null :: []))) := ⟨_, rfl⟩
  refine GP.weq v10 ev10.symm ?_
  have lv10 : v10.length = Y + 11 := by rw [ev10, List.length_set, List.length_append, lv9]; rfl
  have Hv10 : v10[Y]? = some (.inr (11, .int 0 :: .int 0 :: .ref (Y + 1) :: .ref (Y + 2) :: .ref (Y + 3) :: .ref (Y + 4) :: .int 0 :: .ref (Y + 5) :: .ref (Y + 6) :: .ref (Y + 7) :: .int 0 :: .ref (Y + 8) :: .int 0 :: .ref (Y + 9) :: .ref (Y + 10) :: .null :: .null :: .int 0 :: .int 0 :: .int 0 :: .null :: .null :: .null :: .null :: .null :: .int 0 :: .int 0 :: .int 0 :: .int 0 :: .null :: .null :: .null :: .null :: [])) := by rw [ev10]; exact lk_eq (lk_app Hv9)
  have Ev10 : EX (fun i => i = Y) 10 7097 w v10 := by rw [ev10]; exact EX.stp (EX.le (k' := 10) (s' := 7097) (EX.apd [aL 60 (fun _ => 0)] Ev9) (by simp) (by simp [slW, slE])) (lk_app Hv9) rfl (Or.inl rfl)
  have Av10 : v10[Y + 10]? = some (aL 60 (fun _ => 0)) := by rw [ev10]; exact lk_ne (by omega) (lk_l lv9)
  have Lv10 : ∀ i c, i ≠ Y → v9[i]? = some c → v10[i]? = some c := fun i c h1 h2 => by rw [ev10]; exact lk_ne (Ne.symm h1) (lk_app h2)
  refine g_aload_n (pc := 86) 0 dX12_init_86 rfl rfl ?_
  refine g_sipush (pc := 87) (v := nI 602) dX12_init_87 (by decide) ?_
  refine g_newaI (pc := 90) 602 dX12_init_90 acI (by decide) (by decide) ?_
  refine GP.tr (Y + 11) lv10 ?_
  refine g_putF (pc := 92) (.int 0 :: .int 0 :: .ref (Y + 1) :: .ref (Y + 2) :: .ref (Y + 3) :: .ref (Y + 4) :: .int 0 :: .ref (Y + 5) :: .ref (Y + 6) :: .ref (Y + 7) :: .int 0 :: .ref (Y + 8) :: .int 0 :: .ref (Y + 9) :: .ref (Y + 10) :: .ref (Y + 11) :: .null :: .int 0 :: .int 0 :: .int 0 :: .null :: .null :: .null :: .null :: .null :: .int 0 :: .int 0 :: .int 0 :: .int 0 :: .null :: .null :: .null :: .null :: []) dX12_init_92 fk_X12_42 (fun _ _ _ h => by cases h; rfl) rfl (lk_app Hv10) (Nat.le_of_ble_eq_true rfl) rfl rfl ?_
  obtain ⟨v11, ev11⟩ : ∃ wy : Wd, wy = ((v10 ++ [aI 0 602 (fun _ => 0)]).set Y (.inr (11, .int 0 :: .int 0 :: .ref (Y + 1) :: .ref (Y + 2) :: .ref (Y + 3) :: .ref (Y + 4) :: .int 0 :: .ref (Y + 5) :: .ref (Y + 6) :: .ref (Y + 7) :: .int 0 :: .ref (Y + 8) :: .int 0 :: .ref (Y + 9) :: .ref (Y + 10) :: .ref (Y + 11) :: .null :: .int 0 :: .int 0 :: .int 0 :: .null :: .null :: .null :: .null :: .null :: .int 0 :: .int 0 :: .int 0 :: .int 0 :: .null :: .null :: .null :: .null :: []))) := ⟨_, rfl⟩
  refine GP.weq v11 ev11.symm ?_
  have lv11 : v11.length = Y + 12 := by rw [ev11, List.length_set, List.length_append, lv10]; rfl
  have Hv11 : v11[Y]? = some (.inr (11, .int 0 :: .int 0 :: .ref (Y + 1) :: .ref (Y + 2) :: .ref (Y + 3) :: .ref (Y + 4) :: .int 0 :: .ref (Y + 5) :: .ref (Y + 6) :: .ref (Y + 7) :: .int 0 :: .ref (Y + 8) :: .int 0 :: .ref (Y + 9) :: .ref (Y + 10) :: .ref (Y + 11) :: .null :: .int 0 :: .int 0 :: .int 0 :: .null :: .null :: .null :: .null :: .null :: .int 0 :: .int 0 :: .int 0 :: .int 0 :: .null :: .null :: .null :: .null :: [])) := by rw [ev11]; exact lk_eq (lk_app Hv10)
  have Ev11 : EX (fun i => i = Y) 11 7699 w v11 := by rw [ev11]; exact EX.stp (EX.le (k' := 11) (s' := 7699) (EX.apd [aI 0 602 (fun _ => 0)] Ev10) (by simp) (by simp [slW, slE])) (lk_app Hv10) rfl (Or.inl rfl)
  have Av11 : v11[Y + 11]? = some (aI 0 602 (fun _ => 0)) := by rw [ev11]; exact lk_ne (by omega) (lk_l lv10)
  have Lv11 : ∀ i c, i ≠ Y → v10[i]? = some c → v11[i]? = some c := fun i c h1 h2 => by rw [ev11]; exact lk_ne (Ne.symm h1) (lk_app h2)
  refine g_aload_n (pc := 95) 0 dX12_init_95 rfl rfl ?_
  refine g_bipush (pc := 96) (v := nI 91) dX12_init_96 (by decide) ?_
  refine g_newaL (pc := 98) 91 dX12_init_98 acL (by decide) (by decide) ?_
  refine GP.tr (Y + 12) lv11 ?_
  refine g_putF (pc := 100) (.int 0 :: .int 0 :: .ref (Y + 1) :: .ref (Y + 2) :: .ref (Y + 3) :: .ref (Y + 4) :: .int 0 :: .ref (Y + 5) :: .ref (Y + 6) :: .ref (Y + 7) :: .int 0 :: .ref (Y + 8) :: .int 0 :: .ref (Y + 9) :: .ref (Y + 10) :: .ref (Y + 11) :: .ref (Y + 12) :: .int 0 :: .int 0 :: .int 0 :: .null :: .null :: .null :: .null :: .null :: .int 0 :: .int 0 :: .int 0 :: .int 0 :: .null :: .null :: .null :: .null :: []) dX12_init_100 fk_X12_45 (fun _ _ _ h => by cases h; rfl) rfl (lk_app Hv11) (Nat.le_of_ble_eq_true rfl) rfl rfl ?_
  obtain ⟨v12, ev12⟩ : ∃ wy : Wd, wy = ((v11 ++ [aL 91 (fun _ => 0)]).set Y (.inr (11, .int 0 :: .int 0 :: .ref (Y + 1) :: .ref (Y + 2) :: .ref (Y + 3) :: .ref (Y + 4) :: .int 0 :: .ref (Y + 5) :: .ref (Y + 6) :: .ref (Y + 7) :: .int 0 :: .ref (Y + 8) :: .int 0 :: .ref (Y + 9) :: .ref (Y + 10) :: .ref (Y + 11) :: .ref (Y + 12) :: .int 0 :: .int 0 :: .int 0 :: .null :: .null :: .null :: .null :: .null :: .int 0 :: .int 0 :: .int 0 :: .int 0 :: .null :: .null :: .null :: .null :: []))) := ⟨_, rfl⟩
  refine GP.weq v12 ev12.symm ?_
  have lv12 : v12.length = Y + 13 := by rw [ev12, List.length_set, List.length_append, lv11]; rfl
  have Hv12 : v12[Y]? = some (.inr (11, .int 0 :: .int 0 :: .ref (Y + 1) :: .ref (Y + 2) :: .ref (Y + 3) :: .ref (Y + 4) :: .int 0 :: .ref (Y + 5) :: .ref (Y + 6) :: .ref (Y + 7) :: .int 0 :: .ref (Y + 8) :: .int 0 :: .ref (Y + 9) :: .ref (Y + 10) :: .ref (Y + 11) :: .ref (Y + 12) :: .int 0 :: .int 0 :: .int 0 :: .null :: .null :: .null :: .null :: .null :: .int 0 :: .int 0 :: .int 0 :: .int 0 :: .null :: .null :: .null :: .null :: [])) := by rw [ev12]; exact lk_eq (lk_app Hv11)
  have Ev12 : EX (fun i => i = Y) 12 7790 w v12 := by rw [ev12]; exact EX.stp (EX.le (k' := 12) (s' := 7790) (EX.apd [aL 91 (fun _ => 0)] Ev11) (by simp) (by simp [slW, slE])) (lk_app Hv11) rfl (Or.inl rfl)
  have Av12 : v12[Y + 12]? = some (aL 91 (fun _ => 0)) := by rw [ev12]; exact lk_ne (by omega) (lk_l lv11)
  have Lv12 : ∀ i c, i ≠ Y → v11[i]? = some c → v12[i]? = some c := fun i c h1 h2 => by rw [ev12]; exact lk_ne (Ne.symm h1) (lk_app h2)
  refine g_aload_n (pc := 103) 0 dX12_init_103 rfl rfl ?_
  refine g_sipush (pc := 104) (v := nI 450) dX12_init_104 (by decide) ?_
  refine g_newaL (pc := 107) 450 dX12_init_107 acL (by decide) (by decide) ?_
  refine GP.tr (Y + 13) lv12 ?_
  refine g_putF (pc := 109) (.int 0 :: .int 0 :: .ref (Y + 1) :: .ref (Y + 2) :: .ref (Y + 3) :: .ref (Y + 4) :: .int 0 :: .ref (Y + 5) :: .ref (Y + 6) :: .ref (Y + 7) :: .int 0 :: .ref (Y + 8) :: .int 0 :: .ref (Y + 9) :: .ref (Y + 10) :: .ref (Y + 11) :: .ref (Y + 12) :: .int 0 :: .int 0 :: .int 0 :: .ref (Y + 13) :: .null :: .null :: .null :: .null :: .int 0 :: .int 0 :: .int 0 :: .int 0 :: .null :: .null :: .null :: .null :: []) dX12_init_109 fk_X12_48 (fun _ _ _ h => by cases h; rfl) rfl (lk_app Hv12) (Nat.le_of_ble_eq_true rfl) rfl rfl ?_
  obtain ⟨v13, ev13⟩ : ∃ wy : Wd, wy = ((v12 ++ [aL 450 (fun _ => 0)]).set Y (.inr (11, .int 0 :: .int 0 :: .ref (Y + 1) :: .ref (Y + 2) :: .ref (Y + 3) :: .ref (Y + 4) :: .int 0 :: .ref (Y + 5) :: .ref (Y + 6) :: .ref (Y + 7) :: .int 0 :: .ref (Y + 8) :: .int 0 :: .ref (Y + 9) :: .ref (Y + 10) :: .ref (Y + 11) :: .ref (Y + 12) :: .int 0 :: .int 0 :: .int 0 :: .ref (Y + 13) :: .null :: .null :: .null :: .null :: .int 0 :: .int 0 :: .int 0 :: .int 0 :: .null :: .null :: .null :: .null :: []))) := ⟨_, rfl⟩
  refine GP.weq v13 ev13.symm ?_
  have lv13 : v13.length = Y + 14 := by rw [ev13, List.length_set, List.length_append, lv12]; rfl
  have Hv13 : v13[Y]? = some (.inr (11, .int 0 :: .int 0 :: .ref (Y + 1) :: .ref (Y + 2) :: .ref (Y + 3) :: .ref (Y + 4) :: .int 0 :: .ref (Y + 5) :: .ref (Y + 6) :: .ref (Y + 7) :: .int 0 :: .ref (Y + 8) :: .int 0 :: .ref (Y + 9) :: .ref (Y + 10) :: .ref (Y + 11) :: .ref (Y + 12) :: .int 0 :: .int 0 :: .int 0 :: .ref (Y + 13) :: .null :: .null :: .null :: .null :: .int 0 :: .int 0 :: .int 0 :: .int 0 :: .null :: .null :: .null :: .null :: [])) := by rw [ev13]; exact lk_eq (lk_app Hv12)
  have Ev13 : EX (fun i => i = Y) 13 8240 w v13 := by rw [ev13]; exact EX.stp (EX.le (k' := 13) (s' := 8240) (EX.apd [aL 450 (fun _ => 0)] Ev12) (by simp) (by simp [slW, slE])) (lk_app Hv12) rfl (Or.inl rfl)
  have Av13 : v13[Y + 13]? = some (aL 450 (fun _ => 0)) := by rw [ev13]; exact lk_ne (by omega) (lk_l lv12)
  have Lv13 : ∀ i c, i ≠ Y → v12[i]? = some c → v13[i]? = some c := fun i c h1 h2 => by rw [ev13]; exact lk_ne (Ne.symm h1) (lk_app h2)
  refine g_aload_n (pc := 112) 0 dX12_init_112 rfl rfl ?_
  refine g_iconst (pc := 113) (v := nI 5) dX12_init_113 (by decide) ?_
  refine g_newaI (pc := 114) 5 dX12_init_114 acI (by decide) (by decide) ?_
  refine GP.tr (Y + 14) lv13 ?_
  refine g_putF (pc := 116) (.int 0 :: .int 0 :: .ref (Y + 1) :: .ref (Y + 2) :: .ref (Y + 3) :: .ref (Y + 4) :: .int 0 :: .ref (Y + 5) :: .ref (Y + 6) :: .ref (Y + 7) :: .int 0 :: .ref (Y + 8) :: .int 0 :: .ref (Y + 9) :: .ref (Y + 10) :: .ref (Y + 11) :: .ref (Y + 12) :: .int 0 :: .int 0 :: .int 0 :: .ref (Y + 13) :: .ref (Y + 14) :: .null :: .null :: .null :: .int 0 :: .int 0 :: .int 0 :: .int 0 :: .null :: .null :: .null :: .null :: []) dX12_init_116 fk_X12_51 (fun _ _ _ h => by cases h; rfl) rfl (lk_app Hv13) (Nat.le_of_ble_eq_true rfl) rfl rfl ?_
  obtain ⟨v14, ev14⟩ : ∃ wy : Wd, wy = ((v13 ++ [aI 0 5 (fun _ => 0)]).set Y (.inr (11, .int 0 :: .int 0 :: .ref (Y + 1) :: .ref (Y + 2) :: .ref (Y + 3) :: .ref (Y + 4) :: .int 0 :: .ref (Y + 5) :: .ref (Y + 6) :: .ref (Y + 7) :: .int 0 :: .ref (Y + 8) :: .int 0 :: .ref (Y + 9) :: .ref (Y + 10) :: .ref (Y + 11) :: .ref (Y + 12) :: .int 0 :: .int 0 :: .int 0 :: .ref (Y + 13) :: .ref (Y + 14) :: .null :: .null :: .null :: .int 0 :: .int 0 :: .int 0 :: .int 0 :: .null :: .null :: .null :: .null :: []))) := ⟨_, rfl⟩
  refine GP.weq v14 ev14.symm ?_
  have lv14 : v14.length = Y + 15 := by rw [ev14, List.length_set, List.length_append, lv13]; rfl
  have Hv14 : v14[Y]? = some (.inr (11, .int 0 :: .int 0 :: .ref (Y + 1) :: .ref (Y + 2) :: .ref (Y + 3) :: .ref (Y + 4) :: .int 0 :: .ref (Y + 5) :: .ref (Y + 6) :: .ref (Y + 7) :: .int 0 :: .ref (Y + 8) :: .int 0 :: .ref (Y + 9) :: .ref (Y + 10) :: .ref (Y + 11) :: .ref (Y + 12) :: .int 0 :: .int 0 :: .int 0 :: .ref (Y + 13) :: .ref (Y + 14) :: .null :: .null :: .null :: .int 0 :: .int 0 :: .int 0 :: .int 0 :: .null :: .null :: .null :: .null :: [])) := by rw [ev14]; exact lk_eq (lk_app Hv13)
  have Ev14 : EX (fun i => i = Y) 14 8245 w v14 := by rw [ev14]; exact EX.stp (EX.le (k' := 14) (s' := 8245) (EX.apd [aI 0 5 (fun _ => 0)] Ev13) (by simp) (by simp [slW, slE])) (lk_app Hv13) rfl (Or.inl rfl)
  have Av14 : v14[Y + 14]? = some (aI 0 5 (fun _ => 0)) := by rw [ev14]; exact lk_ne (by omega) (lk_l lv13)
  have Lv14 : ∀ i c, i ≠ Y → v13[i]? = some c → v14[i]? = some c := fun i c h1 h2 => by rw [ev14]; exact lk_ne (Ne.symm h1) (lk_app h2)
  refine g_aload_n (pc := 119) 0 dX12_init_119 rfl rfl ?_
  refine g_sipush (pc := 120) (v := nI 720) dX12_init_120 (by decide) ?_
  refine g_newaL (pc := 123) 720 dX12_init_123 acL (by decide) (by decide) ?_
  refine GP.tr (Y + 15) lv14 ?_
  refine g_putF (pc := 125) (.int 0 :: .int 0 :: .ref (Y + 1) :: .ref (Y + 2) :: .ref (Y + 3) :: .ref (Y + 4) :: .int 0 :: .ref (Y + 5) :: .ref (Y + 6) :: .ref (Y + 7) :: .int 0 :: .ref (Y + 8) :: .int 0 :: .ref (Y + 9) :: .ref (Y + 10) :: .ref (Y + 11) :: .ref (Y + 12) :: .int 0 :: .int 0 :: .int 0 :: .ref (Y + 13) :: .ref (Y + 14) :: .ref (Y + 15) :: .null :: .null :: .int 0 :: .int 0 :: .int 0 :: .int 0 :: .null :: .null :: .null :: .null :: []) dX12_init_125 fk_X12_54 (fun _ _ _ h => by cases h; rfl) rfl (lk_app Hv14) (Nat.le_of_ble_eq_true rfl) rfl rfl ?_
  obtain ⟨v15, ev15⟩ : ∃ wy : Wd, wy = ((v14 ++ [aL 720 (fun _ => 0)]).set Y (.inr (11, .int 0 :: .int 0 :: .ref (Y + 1) :: .ref (Y + 2) :: .ref (Y + 3) :: .ref (Y + 4) :: .int 0 :: .ref (Y + 5) :: .ref (Y + 6) :: .ref (Y + 7) :: .int 0 :: .ref (Y + 8) :: .int 0 :: .ref (Y + 9) :: .ref (Y + 10) :: .ref (Y + 11) :: .ref (Y + 12) :: .int 0 :: .int 0 :: .int 0 :: .ref (Y + 13) :: .ref (Y + 14) :: .ref (Y + 15) :: .null :: .null :: .int 0 :: .int 0 :: .int 0 :: .int 0 :: .null :: .null :: .null :: .null :: []))) := ⟨_, rfl⟩
  refine GP.weq v15 ev15.symm ?_
  have lv15 : v15.length = Y + 16 := by rw [ev15, List.length_set, List.length_append, lv14]; rfl
  have Hv15 : v15[Y]? = some (.inr (11, .int 0 :: .int 0 :: .ref (Y + 1) :: .ref (Y + 2) :: .ref (Y + 3) :: .ref (Y + 4) :: .int 0 :: .ref (Y + 5) :: .ref (Y + 6) :: .ref (Y + 7) :: .int 0 :: .ref (Y + 8) :: .int 0 :: .ref (Y + 9) :: .ref (Y + 10) :: .ref (Y + 11) :: .ref (Y + 12) :: .int 0 :: .int 0 :: .int 0 :: .ref (Y + 13) :: .ref (Y + 14) :: .ref (Y + 15) :: .null :: .null :: .int 0 :: .int 0 :: .int 0 :: .int 0 :: .null :: .null :: .null :: .null :: [])) := by rw [ev15]; exact lk_eq (lk_app Hv14)
  have Ev15 : EX (fun i => i = Y) 15 8965 w v15 := by rw [ev15]; exact EX.stp (EX.le (k' := 15) (s' := 8965) (EX.apd [aL 720 (fun _ => 0)] Ev14) (by simp) (by simp [slW, slE])) (lk_app Hv14) rfl (Or.inl rfl)
  have Av15 : v15[Y + 15]? = some (aL 720 (fun _ => 0)) := by rw [ev15]; exact lk_ne (by omega) (lk_l lv14)
  have Lv15 : ∀ i c, i ≠ Y → v14[i]? = some c → v15[i]? = some c := fun i c h1 h2 => by rw [ev15]; exact lk_ne (Ne.symm h1) (lk_app h2)
  refine g_aload_n (pc := 128) 0 dX12_init_128 rfl rfl ?_
  refine g_bipush (pc := 129) (v := nI 8) dX12_init_129 (by decide) ?_
  refine g_newaI (pc := 131) 8 dX12_init_131 acI (by decide) (by decide) ?_
  refine GP.tr (Y + 16) lv15 ?_
  refine g_putF (pc := 133) (.int 0 :: .int 0 :: .ref (Y + 1) :: .ref (Y + 2) :: .ref (Y + 3) :: .ref (Y + 4) :: .int 0 :: .ref (Y + 5) :: .ref (Y + 6) :: .ref (Y + 7) :: .int 0 :: .ref (Y + 8) :: .int 0 :: .ref (Y + 9) :: .ref (Y + 10) :: .ref (Y + 11) :: .ref (Y + 12) :: .int 0 :: .int 0 :: .int 0 :: .ref (Y + 13) :: .ref (Y + 14) :: .ref (Y + 15) :: .ref (Y + 16) :: .null :: .int 0 :: .int 0 :: .int 0 :: .int 0 :: .null :: .null :: .null :: .null :: []) dX12_init_133 fk_X12_57 (fun _ _ _ h => by cases h; rfl) rfl (lk_app Hv15) (Nat.le_of_ble_eq_true rfl) rfl rfl ?_
  obtain ⟨v16, ev16⟩ : ∃ wy : Wd, wy = ((v15 ++ [aI 0 8 (fun _ => 0)]).set Y (.inr (11, .int 0 :: .int 0 :: .ref (Y + 1) :: .ref (Y + 2) :: .ref (Y + 3) :: .ref (Y + 4) :: .int 0 :: .ref (Y + 5) :: .ref (Y + 6) :: .ref (Y + 7) :: .int 0 :: .ref (Y + 8) :: .int 0 :: .ref (Y + 9) :: .ref (Y + 10) :: .ref (Y + 11) :: .ref (Y + 12) :: .int 0 :: .int 0 :: .int 0 :: .ref (Y + 13) :: .ref (Y + 14) :: .ref (Y + 15) :: .ref (Y + 16) :: .null :: .int 0 :: .int 0 :: .int 0 :: .int 0 :: .null :: .null :: .null :: .null :: []))) := ⟨_, rfl⟩
  refine GP.weq v16 ev16.symm ?_
  have lv16 : v16.length = Y + 17 := by rw [ev16, List.length_set, List.length_append, lv15]; rfl
  have Hv16 : v16[Y]? = some (.inr (11, .int 0 :: .int 0 :: .ref (Y + 1) :: .ref (Y + 2) :: .ref (Y + 3) :: .ref (Y + 4) :: .int 0 :: .ref (Y + 5) :: .ref (Y + 6) :: .ref (Y + 7) :: .int 0 :: .ref (Y + 8) :: .int 0 :: .ref (Y + 9) :: .ref (Y + 10) :: .ref (Y + 11) :: .ref (Y + 12) :: .int 0 :: .int 0 :: .int 0 :: .ref (Y + 13) :: .ref (Y + 14) :: .ref (Y + 15) :: .ref (Y + 16) :: .null :: .int 0 :: .int 0 :: .int 0 :: .int 0 :: .null :: .null :: .null :: .null :: [])) := by rw [ev16]; exact lk_eq (lk_app Hv15)
  have Ev16 : EX (fun i => i = Y) 16 8973 w v16 := by rw [ev16]; exact EX.stp (EX.le (k' := 16) (s' := 8973) (EX.apd [aI 0 8 (fun _ => 0)] Ev15) (by simp) (by simp [slW, slE])) (lk_app Hv15) rfl (Or.inl rfl)
  have Av16 : v16[Y + 16]? = some (aI 0 8 (fun _ => 0)) := by rw [ev16]; exact lk_ne (by omega) (lk_l lv15)
  have Lv16 : ∀ i c, i ≠ Y → v15[i]? = some c → v16[i]? = some c := fun i c h1 h2 => by rw [ev16]; exact lk_ne (Ne.symm h1) (lk_app h2)
  refine g_aload_n (pc := 136) 0 dX12_init_136 rfl rfl ?_
  refine g_sipush (pc := 137) (v := nI 400) dX12_init_137 (by decide) ?_
  refine g_newaB (pc := 140) 400 dX12_init_140 acB (by decide) (by decide) ?_
  refine GP.tr (Y + 17) lv16 ?_
  refine g_putF (pc := 142) (.int 0 :: .int 0 :: .ref (Y + 1) :: .ref (Y + 2) :: .ref (Y + 3) :: .ref (Y + 4) :: .int 0 :: .ref (Y + 5) :: .ref (Y + 6) :: .ref (Y + 7) :: .int 0 :: .ref (Y + 8) :: .int 0 :: .ref (Y + 9) :: .ref (Y + 10) :: .ref (Y + 11) :: .ref (Y + 12) :: .int 0 :: .int 0 :: .int 0 :: .ref (Y + 13) :: .ref (Y + 14) :: .ref (Y + 15) :: .ref (Y + 16) :: .ref (Y + 17) :: .int 0 :: .int 0 :: .int 0 :: .int 0 :: .null :: .null :: .null :: .null :: []) dX12_init_142 fk_X12_60 (fun _ _ _ h => by cases h; rfl) rfl (lk_app Hv16) (Nat.le_of_ble_eq_true rfl) rfl rfl ?_
  obtain ⟨v17, ev17⟩ : ∃ wy : Wd, wy = ((v16 ++ [aI 2 400 (fun _ => 0)]).set Y (.inr (11, .int 0 :: .int 0 :: .ref (Y + 1) :: .ref (Y + 2) :: .ref (Y + 3) :: .ref (Y + 4) :: .int 0 :: .ref (Y + 5) :: .ref (Y + 6) :: .ref (Y + 7) :: .int 0 :: .ref (Y + 8) :: .int 0 :: .ref (Y + 9) :: .ref (Y + 10) :: .ref (Y + 11) :: .ref (Y + 12) :: .int 0 :: .int 0 :: .int 0 :: .ref (Y + 13) :: .ref (Y + 14) :: .ref (Y + 15) :: .ref (Y + 16) :: .ref (Y + 17) :: .int 0 :: .int 0 :: .int 0 :: .int 0 :: .null :: .null :: .null :: .null :: []))) := ⟨_, rfl⟩
  refine GP.weq v17 ev17.symm ?_
  have lv17 : v17.length = Y + 18 := by rw [ev17, List.length_set, List.length_append, lv16]; rfl
  have Hv17 : v17[Y]? = some (.inr (11, .int 0 :: .int 0 :: .ref (Y + 1) :: .ref (Y + 2) :: .ref (Y + 3) :: .ref (Y + 4) :: .int 0 :: .ref (Y + 5) :: .ref (Y + 6) :: .ref (Y + 7) :: .int 0 :: .ref (Y + 8) :: .int 0 :: .ref (Y + 9) :: .ref (Y + 10) :: .ref (Y + 11) :: .ref (Y + 12) :: .int 0 :: .int 0 :: .int 0 :: .ref (Y + 13) :: .ref (Y + 14) :: .ref (Y + 15) :: .ref (Y + 16) :: .ref (Y + 17) :: .int 0 :: .int 0 :: .int 0 :: .int 0 :: .null :: .null :: .null :: .null :: [])) := by rw [ev17]; exact lk_eq (lk_app Hv16)
  have Ev17 : EX (fun i => i = Y) 17 9373 w v17 := by rw [ev17]; exact EX.stp (EX.le (k' := 17) (s' := 9373) (EX.apd [aI 2 400 (fun _ => 0)] Ev16) (by simp) (by simp [slW, slE])) (lk_app Hv16) rfl (Or.inl rfl)
  have Av17 : v17[Y + 17]? = some (aI 2 400 (fun _ => 0)) := by rw [ev17]; exact lk_ne (by omega) (lk_l lv16)
  have Lv17 : ∀ i c, i ≠ Y → v16[i]? = some c → v17[i]? = some c := fun i c h1 h2 => by rw [ev17]; exact lk_ne (Ne.symm h1) (lk_app h2)
  refine g_aload_n (pc := 145) 0 dX12_init_145 rfl rfl ?_
  refine g_iconst (pc := 146) (v := -1) dX12_init_146 (by decide) ?_
  refine g_put (pc := 147) (.int 0 :: .int 0 :: .ref (Y + 1) :: .ref (Y + 2) :: .ref (Y + 3) :: .ref (Y + 4) :: .int 0 :: .ref (Y + 5) :: .ref (Y + 6) :: .ref (Y + 7) :: .int 0 :: .ref (Y + 8) :: .int 0 :: .ref (Y + 9) :: .ref (Y + 10) :: .ref (Y + 11) :: .ref (Y + 12) :: .int 0 :: .int 0 :: .int 0 :: .ref (Y + 13) :: .ref (Y + 14) :: .ref (Y + 15) :: .ref (Y + 16) :: .ref (Y + 17) :: .int 0 :: .int (-1) :: .int 0 :: .int 0 :: .null :: .null :: .null :: .null :: []) dX12_init_147 fk_X12_64 Hv17 (Nat.le_of_ble_eq_true rfl) rfl rfl ?_
  refine g_aload_n (pc := 150) 0 dX12_init_150 rfl rfl ?_
  refine g_bipush (pc := 151) (v := nI 13) dX12_init_151 (by decide) ?_
  refine g_newaI (pc := 153) 13 dX12_init_153 acI (by decide) (by decide) ?_
  refine GP.tr (Y + 18) (by rw [List.length_set]; exact lv17) ?_
  refine g_putF (pc := 155) (.int 0 :: .int 0 :: .ref (Y + 1) :: .ref (Y + 2) :: .ref (Y + 3) :: .ref (Y + 4) :: .int 0 :: .ref (Y + 5) :: .ref (Y + 6) :: .ref (Y + 7) :: .int 0 :: .ref (Y + 8) :: .int 0 :: .ref (Y + 9) :: .ref (Y + 10) :: .ref (Y + 11) :: .ref (Y + 12) :: .int 0 :: .int 0 :: .int 0 :: .ref (Y + 13) :: .ref (Y + 14) :: .ref (Y + 15) :: .ref (Y + 16) :: .ref (Y + 17) :: .int 0 :: .int (-1) :: .int 0 :: .int 0 :: .ref (Y + 18) :: .null :: .null :: .null :: []) dX12_init_155 fk_X12_68 (fun _ _ _ h => by cases h; rfl) rfl (lk_app (lk_eq Hv17)) (Nat.le_of_ble_eq_true rfl) rfl rfl ?_
  obtain ⟨v18, ev18⟩ : ∃ wy : Wd, wy = (((v17.set Y (.inr (11, .int 0 :: .int 0 :: .ref (Y + 1) :: .ref (Y + 2) :: .ref (Y + 3) :: .ref (Y + 4) :: .int 0 :: .ref (Y + 5) :: .ref (Y + 6) :: .ref (Y + 7) :: .int 0 :: .ref (Y + 8) :: .int 0 :: .ref (Y + 9) :: .ref (Y + 10) :: .ref (Y + 11) :: .ref (Y + 12) :: .int 0 :: .int 0 :: .int 0 :: .ref (Y + 13) :: .ref (Y + 14) :: .ref (Y + 15) :: .ref (Y + 16) :: .ref (Y + 17) :: .int 0 :: .int (-1) :: .int 0 :: .int 0 :: .null :: .null :: .null :: .null :: []))) ++ [aI 0 13 (fun _ => 0)]).set Y (.inr (11, .int 0 :: .int 0 :: .ref (Y + 1) :: .ref (Y + 2) :: .ref (Y + 3) :: .ref (Y + 4) :: .int 0 :: .ref (Y + 5) :: .ref (Y + 6) :: .ref (Y + 7) :: .int 0 :: .ref (Y + 8) :: .int 0 :: .ref (Y + 9) :: .ref (Y + 10) :: .ref (Y + 11) :: .ref (Y + 12) :: .int 0 :: .int 0 :: .int 0 :: .ref (Y + 13) :: .ref (Y + 14) :: .ref (Y + 15) :: .ref (Y + 16) :: .ref (Y + 17) :: .int 0 :: .int (-1) :: .int 0 :: .int 0 :: .ref (Y + 18) :: .null :: .null :: .null :: []))) := ⟨_, rfl⟩
  refine GP.weq v18 ev18.symm ?_
  have lv18 : v18.length = Y + 19 := by rw [ev18, List.length_set, List.length_append, List.length_set, lv17]; rfl
  have Hv18 : v18[Y]? = some (.inr (11, .int 0 :: .int 0 :: .ref (Y + 1) :: .ref (Y + 2) :: .ref (Y + 3) :: .ref (Y + 4) :: .int 0 :: .ref (Y + 5) :: .ref (Y + 6) :: .ref (Y + 7) :: .int 0 :: .ref (Y + 8) :: .int 0 :: .ref (Y + 9) :: .ref (Y + 10) :: .ref (Y + 11) :: .ref (Y + 12) :: .int 0 :: .int 0 :: .int 0 :: .ref (Y + 13) :: .ref (Y + 14) :: .ref (Y + 15) :: .ref (Y + 16) :: .ref (Y + 17) :: .int 0 :: .int (-1) :: .int 0 :: .int 0 :: .ref (Y + 18) :: .null :: .null :: .null :: [])) := by rw [ev18]; exact lk_eq (lk_app (lk_eq Hv17))
  have Ev18 : EX (fun i => i = Y) 18 9386 w v18 := by rw [ev18]; exact EX.stp (EX.le (k' := 18) (s' := 9386) (EX.apd [aI 0 13 (fun _ => 0)] (EX.stp Ev17 Hv17 rfl (Or.inl rfl))) (by simp) (by simp [slW, slE])) (lk_app (lk_eq Hv17)) rfl (Or.inl rfl)
  have Av18 : v18[Y + 18]? = some (aI 0 13 (fun _ => 0)) := by rw [ev18]; exact lk_ne (by omega) (lk_l (by rw [List.length_set]; exact lv17))
  have Lv18 : ∀ i c, i ≠ Y → v17[i]? = some c → v18[i]? = some c := fun i c h1 h2 => by rw [ev18]; exact lk_ne (Ne.symm h1) (lk_app (lk_ne (Ne.symm h1) h2))
  refine g_aload_n (pc := 158) 0 dX12_init_158 rfl rfl ?_
  refine g_iconst (pc := 159) (v := nI 4) dX12_init_159 (by decide) ?_
  refine g_newaI (pc := 160) 4 dX12_init_160 acI (by decide) (by decide) ?_
  refine GP.tr (Y + 19) lv18 ?_
  refine g_putF (pc := 162) (.int 0 :: .int 0 :: .ref (Y + 1) :: .ref (Y + 2) :: .ref (Y + 3) :: .ref (Y + 4) :: .int 0 :: .ref (Y + 5) :: .ref (Y + 6) :: .ref (Y + 7) :: .int 0 :: .ref (Y + 8) :: .int 0 :: .ref (Y + 9) :: .ref (Y + 10) :: .ref (Y + 11) :: .ref (Y + 12) :: .int 0 :: .int 0 :: .int 0 :: .ref (Y + 13) :: .ref (Y + 14) :: .ref (Y + 15) :: .ref (Y + 16) :: .ref (Y + 17) :: .int 0 :: .int (-1) :: .int 0 :: .int 0 :: .ref (Y + 18) :: .ref (Y + 19) :: .null :: .null :: []) dX12_init_162 fk_X12_71 (fun _ _ _ h => by cases h; rfl) rfl (lk_app Hv18) (Nat.le_of_ble_eq_true rfl) rfl rfl ?_
  obtain ⟨v19, ev19⟩ : ∃ wy : Wd, wy = ((v18 ++ [aI 0 4 (fun _ => 0)]).set Y (.inr (11, .int 0 :: .int 0 :: .ref (Y + 1) :: .ref (Y + 2) :: .ref (Y + 3) :: .ref (Y + 4) :: .int 0 :: .ref (Y + 5) :: .ref (Y + 6) :: .ref (Y + 7) :: .int 0 :: .ref (Y + 8) :: .int 0 :: .ref (Y + 9) :: .ref (Y + 10) :: .ref (Y + 11) :: .ref (Y + 12) :: .int 0 :: .int 0 :: .int 0 :: .ref (Y + 13) :: .ref (Y + 14) :: .ref (Y + 15) :: .ref (Y + 16) :: .ref (Y + 17) :: .int 0 :: .int (-1) :: .int 0 :: .int 0 :: .ref (Y + 18) :: .ref (Y + 19) :: .null :: .null :: []))) := ⟨_, rfl⟩
  refine GP.weq v19 ev19.symm ?_
  have lv19 : v19.length = Y + 20 := by rw [ev19, List.length_set, List.length_append, lv18]; rfl
  have Hv19 : v19[Y]? = some (.inr (11, .int 0 :: .int 0 :: .ref (Y + 1) :: .ref (Y + 2) :: .ref (Y + 3) :: .ref (Y + 4) :: .int 0 :: .ref (Y + 5) :: .ref (Y + 6) :: .ref (Y + 7) :: .int 0 :: .ref (Y + 8) :: .int 0 :: .ref (Y + 9) :: .ref (Y + 10) :: .ref (Y + 11) :: .ref (Y + 12) :: .int 0 :: .int 0 :: .int 0 :: .ref (Y + 13) :: .ref (Y + 14) :: .ref (Y + 15) :: .ref (Y + 16) :: .ref (Y + 17) :: .int 0 :: .int (-1) :: .int 0 :: .int 0 :: .ref (Y + 18) :: .ref (Y + 19) :: .null :: .null :: [])) := by rw [ev19]; exact lk_eq (lk_app Hv18)
  have Ev19 : EX (fun i => i = Y) 19 9390 w v19 := by rw [ev19]; exact EX.stp (EX.le (k' := 19) (s' := 9390) (EX.apd [aI 0 4 (fun _ => 0)] Ev18) (by simp) (by simp [slW, slE])) (lk_app Hv18) rfl (Or.inl rfl)
  have Av19 : v19[Y + 19]? = some (aI 0 4 (fun _ => 0)) := by rw [ev19]; exact lk_ne (by omega) (lk_l lv18)
  have Lv19 : ∀ i c, i ≠ Y → v18[i]? = some c → v19[i]? = some c := fun i c h1 h2 => by rw [ev19]; exact lk_ne (Ne.symm h1) (lk_app h2)
  refine g_aload_n (pc := 165) 0 dX12_init_165 rfl rfl ?_
  refine g_bipush (pc := 166) (v := nI 8) dX12_init_166 (by decide) ?_
  refine g_newaI (pc := 168) 8 dX12_init_168 acI (by decide) (by decide) ?_
  refine GP.tr (Y + 20) lv19 ?_
  refine g_putF (pc := 170) (.int 0 :: .int 0 :: .ref (Y + 1) :: .ref (Y + 2) :: .ref (Y + 3) :: .ref (Y + 4) :: .int 0 :: .ref (Y + 5) :: .ref (Y + 6) :: .ref (Y + 7) :: .int 0 :: .ref (Y + 8) :: .int 0 :: .ref (Y + 9) :: .ref (Y + 10) :: .ref (Y + 11) :: .ref (Y + 12) :: .int 0 :: .int 0 :: .int 0 :: .ref (Y + 13) :: .ref (Y + 14) :: .ref (Y + 15) :: .ref (Y + 16) :: .ref (Y + 17) :: .int 0 :: .int (-1) :: .int 0 :: .int 0 :: .ref (Y + 18) :: .ref (Y + 19) :: .ref (Y + 20) :: .null :: []) dX12_init_170 fk_X12_74 (fun _ _ _ h => by cases h; rfl) rfl (lk_app Hv19) (Nat.le_of_ble_eq_true rfl) rfl rfl ?_
  obtain ⟨v20, ev20⟩ : ∃ wy : Wd, wy = ((v19 ++ [aI 0 8 (fun _ => 0)]).set Y (.inr (11, .int 0 :: .int 0 :: .ref (Y + 1) :: .ref (Y + 2) :: .ref (Y + 3) :: .ref (Y + 4) :: .int 0 :: .ref (Y + 5) :: .ref (Y + 6) :: .ref (Y + 7) :: .int 0 :: .ref (Y + 8) :: .int 0 :: .ref (Y + 9) :: .ref (Y + 10) :: .ref (Y + 11) :: .ref (Y + 12) :: .int 0 :: .int 0 :: .int 0 :: .ref (Y + 13) :: .ref (Y + 14) :: .ref (Y + 15) :: .ref (Y + 16) :: .ref (Y + 17) :: .int 0 :: .int (-1) :: .int 0 :: .int 0 :: .ref (Y + 18) :: .ref (Y + 19) :: .ref (Y + 20) :: .null :: []))) := ⟨_, rfl⟩
  refine GP.weq v20 ev20.symm ?_
  have lv20 : v20.length = Y + 21 := by rw [ev20, List.length_set, List.length_append, lv19]; rfl
  have Hv20 : v20[Y]? = some (.inr (11, .int 0 :: .int 0 :: .ref (Y + 1) :: .ref (Y + 2) :: .ref (Y + 3) :: .ref (Y + 4) :: .int 0 :: .ref (Y + 5) :: .ref (Y + 6) :: .ref (Y + 7) :: .int 0 :: .ref (Y + 8) :: .int 0 :: .ref (Y + 9) :: .ref (Y + 10) :: .ref (Y + 11) :: .ref (Y + 12) :: .int 0 :: .int 0 :: .int 0 :: .ref (Y + 13) :: .ref (Y + 14) :: .ref (Y + 15) :: .ref (Y + 16) :: .ref (Y + 17) :: .int 0 :: .int (-1) :: .int 0 :: .int 0 :: .ref (Y + 18) :: .ref (Y + 19) :: .ref (Y + 20) :: .null :: [])) := by rw [ev20]; exact lk_eq (lk_app Hv19)
  have Ev20 : EX (fun i => i = Y) 20 9398 w v20 := by rw [ev20]; exact EX.stp (EX.le (k' := 20) (s' := 9398) (EX.apd [aI 0 8 (fun _ => 0)] Ev19) (by simp) (by simp [slW, slE])) (lk_app Hv19) rfl (Or.inl rfl)
  have Av20 : v20[Y + 20]? = some (aI 0 8 (fun _ => 0)) := by rw [ev20]; exact lk_ne (by omega) (lk_l lv19)
  have Lv20 : ∀ i c, i ≠ Y → v19[i]? = some c → v20[i]? = some c := fun i c h1 h2 => by rw [ev20]; exact lk_ne (Ne.symm h1) (lk_app h2)
  refine g_aload_n (pc := 173) 0 dX12_init_173 rfl rfl ?_
  refine g_bipush (pc := 174) (v := nI 8) dX12_init_174 (by decide) ?_
  refine g_newaI (pc := 176) 8 dX12_init_176 acI (by decide) (by decide) ?_
  refine GP.tr (Y + 21) lv20 ?_
  refine g_putF (pc := 178) (.int 0 :: .int 0 :: .ref (Y + 1) :: .ref (Y + 2) :: .ref (Y + 3) :: .ref (Y + 4) :: .int 0 :: .ref (Y + 5) :: .ref (Y + 6) :: .ref (Y + 7) :: .int 0 :: .ref (Y + 8) :: .int 0 :: .ref (Y + 9) :: .ref (Y + 10) :: .ref (Y + 11) :: .ref (Y + 12) :: .int 0 :: .int 0 :: .int 0 :: .ref (Y + 13) :: .ref (Y + 14) :: .ref (Y + 15) :: .ref (Y + 16) :: .ref (Y + 17) :: .int 0 :: .int (-1) :: .int 0 :: .int 0 :: .ref (Y + 18) :: .ref (Y + 19) :: .ref (Y + 20) :: .ref (Y + 21) :: []) dX12_init_178 fk_X12_77 (fun _ _ _ h => by cases h; rfl) rfl (lk_app Hv20) (Nat.le_of_ble_eq_true rfl) rfl rfl ?_
  obtain ⟨v21, ev21⟩ : ∃ wy : Wd, wy = ((v20 ++ [aI 0 8 (fun _ => 0)]).set Y (.inr (11, .int 0 :: .int 0 :: .ref (Y + 1) :: .ref (Y + 2) :: .ref (Y + 3) :: .ref (Y + 4) :: .int 0 :: .ref (Y + 5) :: .ref (Y + 6) :: .ref (Y + 7) :: .int 0 :: .ref (Y + 8) :: .int 0 :: .ref (Y + 9) :: .ref (Y + 10) :: .ref (Y + 11) :: .ref (Y + 12) :: .int 0 :: .int 0 :: .int 0 :: .ref (Y + 13) :: .ref (Y + 14) :: .ref (Y + 15) :: .ref (Y + 16) :: .ref (Y + 17) :: .int 0 :: .int (-1) :: .int 0 :: .int 0 :: .ref (Y + 18) :: .ref (Y + 19) :: .ref (Y + 20) :: .ref (Y + 21) :: []))) := ⟨_, rfl⟩
  refine GP.weq v21 ev21.symm ?_
  have lv21 : v21.length = Y + 22 := by rw [ev21, List.length_set, List.length_append, lv20]; rfl
  have Hv21 : v21[Y]? = some (.inr (11, .int 0 :: .int 0 :: .ref (Y + 1) :: .ref (Y + 2) :: .ref (Y + 3) :: .ref (Y + 4) :: .int 0 :: .ref (Y + 5) :: .ref (Y + 6) :: .ref (Y + 7) :: .int 0 :: .ref (Y + 8) :: .int 0 :: .ref (Y + 9) :: .ref (Y + 10) :: .ref (Y + 11) :: .ref (Y + 12) :: .int 0 :: .int 0 :: .int 0 :: .ref (Y + 13) :: .ref (Y + 14) :: .ref (Y + 15) :: .ref (Y + 16) :: .ref (Y + 17) :: .int 0 :: .int (-1) :: .int 0 :: .int 0 :: .ref (Y + 18) :: .ref (Y + 19) :: .ref (Y + 20) :: .ref (Y + 21) :: [])) := by rw [ev21]; exact lk_eq (lk_app Hv20)
  have Ev21 : EX (fun i => i = Y) 21 9406 w v21 := by rw [ev21]; exact EX.stp (EX.le (k' := 21) (s' := 9406) (EX.apd [aI 0 8 (fun _ => 0)] Ev20) (by simp) (by simp [slW, slE])) (lk_app Hv20) rfl (Or.inl rfl)
  have Av21 : v21[Y + 21]? = some (aI 0 8 (fun _ => 0)) := by rw [ev21]; exact lk_ne (by omega) (lk_l lv20)
  have Lv21 : ∀ i c, i ≠ Y → v20[i]? = some c → v21[i]? = some c := fun i c h1 h2 => by rw [ev21]; exact lk_ne (Ne.symm h1) (lk_app h2)
  refine g_iconst (pc := 181) (v := nI 0) dX12_init_181 (by decide) ?_
  refine g_istore_n (pc := 182) [(1, .int (nI 0)), (0, .ref Y)] dX12_init_182 rfl (by decide) rfl ?_
  refine GP.weq (v21.set (Y + 2) (aI 0 626 (rI 0))) (by rw [rI_0, set_same (Lv21 _ _ (by omega) (Lv20 _ _ (by omega) (Lv19 _ _ (by omega) (Lv18 _ _ (by omega) (Lv17 _ _ (by omega) (Lv16 _ _ (by omega) (Lv15 _ _ (by omega) (Lv14 _ _ (by omega) (Lv13 _ _ (by omega) (Lv12 _ _ (by omega) (Lv11 _ _ (by omega) (Lv10 _ _ (by omega) (Lv9 _ _ (by omega) (Lv8 _ _ (by omega) (Lv7 _ _ (by omega) (Lv6 _ _ (by omega) (Lv5 _ _ (by omega) (Lv4 _ _ (by omega) (Lv3 _ _ (by omega) Av2)))))))))))))))))))]) ?_
  refine GP.lsub _ (by simp) (mnw_loop Hv21 (Lv21 _ _ (by omega) (Lv20 _ _ (by omega) (Lv19 _ _ (by omega) (Lv18 _ _ (by omega) (Lv17 _ _ (by omega) (Lv16 _ _ (by omega) (Lv15 _ _ (by omega) (Lv14 _ _ (by omega) (Lv13 _ _ (by omega) (Lv12 _ _ (by omega) (Lv11 _ _ (by omega) (Lv10 _ _ (by omega) (Lv9 _ _ (by omega) (Lv8 _ _ (by omega) (Lv7 _ _ (by omega) (Lv6 _ _ (by omega) (Lv5 _ _ (by omega) (Lv4 _ _ (by omega) (Lv3 _ _ (by omega) Av2))))))))))))))))))) ?_ 8 0 (by omega))
  have U : ∀ i c, i ≠ Y + 2 → v21[i]? = some c → (v21.set (Y + 2) (aI 0 626 (rI 8)))[i]? = some c := fun i c h1 h2 => lk_ne (Ne.symm h1) h2
  have hL9 : lcP (v21.set (Y + 2) (aI 0 626 (rI 8))) Y 0 0 0 0 0 0 0 (-1) 0 0 (fun _ => 0) := ⟨0, 0, _, _, _, _, U _ _ (by omega) Hv21, U _ _ (by omega) (Lv21 _ _ (by omega) (Lv20 _ _ (by omega) (Lv19 _ _ (by omega) (Lv18 _ _ (by omega) (Lv17 _ _ (by omega) (Lv16 _ _ (by omega) (Lv15 _ _ (by omega) (Lv14 _ _ (by omega) (Lv13 _ _ (by omega) (Lv12 _ _ (by omega) (Lv11 _ _ (by omega) (Lv10 _ _ (by omega) (Lv9 _ _ (by omega) (Lv8 _ _ (by omega) Av7)))))))))))))), U _ _ (by omega) (Lv21 _ _ (by omega) (Lv20 _ _ (by omega) (Lv19 _ _ (by omega) (Lv18 _ _ (by omega) (Lv17 _ _ (by omega) (Lv16 _ _ (by omega) (Lv15 _ _ (by omega) (Lv14 _ _ (by omega) (Lv13 _ _ (by omega) (Lv12 _ _ (by omega) (Lv11 _ _ (by omega) (Lv10 _ _ (by omega) (Lv9 _ _ (by omega) Av8))))))))))))), U _ _ (by omega) (Lv21 _ _ (by omega) (Lv20 _ _ (by omega) (Lv19 _ _ (by omega) (Lv18 _ _ (by omega) (Lv17 _ _ (by omega) (Lv16 _ _ (by omega) (Lv15 _ _ (by omega) (Lv14 _ _ (by omega) (Lv13 _ _ (by omega) (Lv12 _ _ (by omega) (Lv11 _ _ (by omega) (Lv10 _ _ (by omega) Av9)))))))))))), U _ _ (by omega) (Lv21 _ _ (by omega) (Lv20 _ _ (by omega) (Lv19 _ _ (by omega) (Lv18 _ _ (by omega) (Lv17 _ _ (by omega) (Lv16 _ _ (by omega) (Lv15 _ _ (by omega) (Lv14 _ _ (by omega) (Lv13 _ _ (by omega) (Lv12 _ _ (by omega) (Lv11 _ _ (by omega) Av10))))))))))), U _ _ (by omega) (Lv21 _ _ (by omega) (Lv20 _ _ (by omega) (Lv19 _ _ (by omega) (Lv18 _ _ (by omega) (Lv17 _ _ (by omega) (Lv16 _ _ (by omega) (Lv15 _ _ (by omega) (Lv14 _ _ (by omega) (Lv13 _ _ (by omega) (Lv12 _ _ (by omega) Av11))))))))))⟩
  have E22 : EX (fun i => i = Y) 21 9406 w (v21.set (Y + 2) (aI 0 626 (rI 8))) := EX.stp Ev21 (Lv21 _ _ (by omega) (Lv20 _ _ (by omega) (Lv19 _ _ (by omega) (Lv18 _ _ (by omega) (Lv17 _ _ (by omega) (Lv16 _ _ (by omega) (Lv15 _ _ (by omega) (Lv14 _ _ (by omega) (Lv13 _ _ (by omega) (Lv12 _ _ (by omega) (Lv11 _ _ (by omega) (Lv10 _ _ (by omega) (Lv9 _ _ (by omega) (Lv8 _ _ (by omega) (Lv7 _ _ (by omega) (Lv6 _ _ (by omega) (Lv5 _ _ (by omega) (Lv4 _ _ (by omega) (Lv3 _ _ (by omega) Av2))))))))))))))))))) rfl (Or.inr (by omega))
  refine g_aload_n (pc := 207) 0 dX12_init_207 rfl rfl ?_
  refine g_callV (pc := 208) [] dX12_init_208 cv_X12_80.1 cv_X12_80.2.1 cv_X12_80.2.2.1 cv_X12_80.2.2.2 (lk_ne (show (Y + 2) ≠ Y by omega) Hv21) rfl rfl (Nat.le_of_ble_eq_true rfl) (by decide) (by decide) (mp_layCyclotomic _ hL9) ?_
  rintro _ w9 ⟨rfl, g9, hP9, hci9, hF9⟩
  obtain ⟨dg9, dd9, h9, d9, q9, r9, k0, k7, k8, k9, k10, k11⟩ := hP9
  have hlen : w9.length = Y + 22 := by rw [hF9.1, List.length_set, lv21]
  have hM : mdC w9 Y 0 (fun _ => 0) (-1) (nI 0) (fun _ => 0) newS 0 (fun _ => 0) (fun _ => newS) (fun _ => none) := ⟨⟨0, dg9, dd9, 0, 0, 0, 0, 0, k0⟩, ⟨⟨_, (hF9.lk (by unfold lcS; omega) (U _ _ (by omega) (Lv21 _ _ (by omega) (Lv20 _ _ (by omega) (Lv19 _ _ (by omega) (Lv18 _ _ (by omega) (Lv17 _ _ (by omega) (Lv16 _ _ (by omega) (Lv15 _ _ (by omega) (Lv14 _ _ (by omega) (Lv13 _ _ (by omega) (Lv12 _ _ (by omega) (Lv11 _ _ (by omega) (Lv10 _ _ (by omega) (Lv9 _ _ (by omega) (Lv8 _ _ (by omega) (Lv7 _ _ (by omega) (Lv6 _ _ (by omega) (Lv5 _ _ (by omega) (Lv4 _ _ (by omega) (Lv3 _ _ (by omega) (Lv2 _ _ (by omega) Av1)))))))))))))))))))))), rfl, rfl, rfl, rfl, rfl⟩, ⟨_, hF9.lk (by unfold lcS; omega) (lk_eq (Lv21 _ _ (by omega) (Lv20 _ _ (by omega) (Lv19 _ _ (by omega) (Lv18 _ _ (by omega) (Lv17 _ _ (by omega) (Lv16 _ _ (by omega) (Lv15 _ _ (by omega) (Lv14 _ _ (by omega) (Lv13 _ _ (by omega) (Lv12 _ _ (by omega) (Lv11 _ _ (by omega) (Lv10 _ _ (by omega) (Lv9 _ _ (by omega) (Lv8 _ _ (by omega) (Lv7 _ _ (by omega) (Lv6 _ _ (by omega) (Lv5 _ _ (by omega) (Lv4 _ _ (by omega) (Lv3 _ _ (by omega) Av2)))))))))))))))))))), rI_R⟩, ⟨_, _, (hF9.lk (by unfold lcS; omega) (U _ _ (by omega) (Lv21 _ _ (by omega) (Lv20 _ _ (by omega) (Lv19 _ _ (by omega) (Lv18 _ _ (by omega) (Lv17 _ _ (by omega) (Lv16 _ _ (by omega) (Lv15 _ _ (by omega) (Lv14 _ _ (by omega) (Lv13 _ _ (by omega) (Lv12 _ _ (by omega) (Lv11 _ _ (by omega) (Lv10 _ _ (by omega) (Lv9 _ _ (by omega) (Lv8 _ _ (by omega) (Lv7 _ _ (by omega) (Lv6 _ _ (by omega) (Lv5 _ _ (by omega) (Lv4 _ _ (by omega) Av3)))))))))))))))))))), (hF9.lk (by unfold lcS; omega) (U _ _ (by omega) (Lv21 _ _ (by omega) (Lv20 _ _ (by omega) (Lv19 _ _ (by omega) (Lv18 _ _ (by omega) (Lv17 _ _ (by omega) (Lv16 _ _ (by omega) (Lv15 _ _ (by omega) (Lv14 _ _ (by omega) (Lv13 _ _ (by omega) (Lv12 _ _ (by omega) (Lv11 _ _ (by omega) (Lv10 _ _ (by omega) (Lv9 _ _ (by omega) (Lv8 _ _ (by omega) (Lv7 _ _ (by omega) (Lv6 _ _ (by omega) (Lv5 _ _ (by omega) Av4))))))))))))))))))), Nat.zero_le _, fun i hi => absurd hi (Nat.not_lt_zero _)⟩, ⟨_, _, (hF9.lk (by unfold lcS; omega) (U _ _ (by omega) (Lv21 _ _ (by omega) (Lv20 _ _ (by omega) (Lv19 _ _ (by omega) (Lv18 _ _ (by omega) (Lv17 _ _ (by omega) (Lv16 _ _ (by omega) (Lv15 _ _ (by omega) (Lv14 _ _ (by omega) (Lv13 _ _ (by omega) (Lv12 _ _ (by omega) (Lv11 _ _ (by omega) (Lv10 _ _ (by omega) (Lv9 _ _ (by omega) (Lv8 _ _ (by omega) (Lv7 _ _ (by omega) (Lv6 _ _ (by omega) Av5)))))))))))))))))), (hF9.lk (by unfold lcS; omega) (U _ _ (by omega) (Lv21 _ _ (by omega) (Lv20 _ _ (by omega) (Lv19 _ _ (by omega) (Lv18 _ _ (by omega) (Lv17 _ _ (by omega) (Lv16 _ _ (by omega) (Lv15 _ _ (by omega) (Lv14 _ _ (by omega) (Lv13 _ _ (by omega) (Lv12 _ _ (by omega) (Lv11 _ _ (by omega) (Lv10 _ _ (by omega) (Lv9 _ _ (by omega) (Lv8 _ _ (by omega) (Lv7 _ _ (by omega) Av6))))))))))))))))), fun k hk => ⟨fun V hV => (nomatch hV), fun _ => rfl⟩⟩, ⟨g9, k11, hci9⟩, ⟨_, (hF9.lk (by unfold lcS; omega) (U _ _ (by omega) (Lv21 _ _ (by omega) (Lv20 _ _ (by omega) (Lv19 _ _ (by omega) (Lv18 _ _ (by omega) Av17)))))), Nat.zero_le _, fun i hi => absurd hi (Nat.not_lt_zero _)⟩⟩, ⟨_, _, _, _, _, _, _, _, _, _, _, k7, k8, k9, k10, (hF9.lk (by unfold lcS; omega) (U _ _ (by omega) (Lv21 _ _ (by omega) (Lv20 _ _ (by omega) (Lv19 _ _ (by omega) (Lv18 _ _ (by omega) (Lv17 _ _ (by omega) (Lv16 _ _ (by omega) (Lv15 _ _ (by omega) (Lv14 _ _ (by omega) (Lv13 _ _ (by omega) Av12))))))))))), (hF9.lk (by unfold lcS; omega) (U _ _ (by omega) (Lv21 _ _ (by omega) (Lv20 _ _ (by omega) (Lv19 _ _ (by omega) (Lv18 _ _ (by omega) (Lv17 _ _ (by omega) (Lv16 _ _ (by omega) (Lv15 _ _ (by omega) (Lv14 _ _ (by omega) Av13)))))))))), (hF9.lk (by unfold lcS; omega) (U _ _ (by omega) (Lv21 _ _ (by omega) (Lv20 _ _ (by omega) (Lv19 _ _ (by omega) (Lv18 _ _ (by omega) (Lv17 _ _ (by omega) (Lv16 _ _ (by omega) (Lv15 _ _ (by omega) Av14))))))))), (hF9.lk (by unfold lcS; omega) (U _ _ (by omega) (Lv21 _ _ (by omega) (Lv20 _ _ (by omega) (Lv19 _ _ (by omega) Av18))))), (hF9.lk (by unfold lcS; omega) (U _ _ (by omega) (Lv21 _ _ (by omega) (Lv20 _ _ (by omega) Av19)))), (hF9.lk (by unfold lcS; omega) (U _ _ (by omega) (Lv21 _ _ (by omega) Av20))), (hF9.lk (by unfold lcS; omega) (U _ _ (by omega) Av21))⟩, ⟨_, _, (hF9.lk (by unfold lcS; omega) (U _ _ (by omega) (Lv21 _ _ (by omega) (Lv20 _ _ (by omega) (Lv19 _ _ (by omega) (Lv18 _ _ (by omega) (Lv17 _ _ (by omega) (Lv16 _ _ (by omega) Av15)))))))), (hF9.lk (by unfold lcS; omega) (U _ _ (by omega) (Lv21 _ _ (by omega) (Lv20 _ _ (by omega) (Lv19 _ _ (by omega) (Lv18 _ _ (by omega) (Lv17 _ _ (by omega) Av16))))))), fun k hk => Or.inl rfl⟩⟩
  exact g_vret (pc := 211) dX12_init_211 ⟨rfl, hlen, (EX.trn E22 (EX.of hF9 (fun _ h => h)) (fun i hi => by unfold lcS at hi; omega)).le (by omega) (by omega), hM⟩
