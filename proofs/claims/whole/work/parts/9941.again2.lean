set_option maxHeartbeats 4000000 in
theorem nb_tail2 {w0 w w6 : Wd} {X : Nat} {rw9 : Nat → Int64} {en : Nat → Int32} (ho : X + 1 = w.length) (hl6 : w6.length = X + 135) (hE6 : EX (fun i => i = X) 134 2670 w w6) (hH6 : w6[X]? = some (.inr (10, [.ref (X + 1), .ref (X + 3), .ref (X + 12), .ref (X + 52), .ref (X + 112), .ref (X + 132), .null, .null, .null, .null, .null, .int 0, .int 0]))) (qT : tapC w6 X 0 (fun _ => 0)) (q1 : ladC w6 (X + 3) (X + 3 + 1) 0 0 (fun _ _ => 0)) (q2 : gauC w6 (X + 12) (nI 0) (nI 0)) (q3 : cirA w6 (X + 52)) (pH0 : w6[X + 112]? = some (oH (X + 112) 0 0 0 0 0 0)) (pH1 : hunT w6 (X + 112)) (pH2 : whC w6 (X + 112 + 2) 8) (pH3 : w6[X + 112 + 4]? = some (aL 13 rw9)) (pH4 : w6[X + 112 + 5]? = some (aI 0 480 en)) (pa : w6[X + 132]? = some (oA (X + 133) (X + 134) 0)) (pb : w6[X + 133]? = some (aR 5 8 (fun _ => none))) (pc9 : w6[X + 134]? = some (aI 0 8 (fun _ => 0))) : BX11_init w0 (fun r w' => r = none ∧ w'.length = X + 146 ∧ EX (fun i => i = X) 145 2747 w w' ∧ bxC w' X 0 (fun _ => 0) (-1) (nI 0) (fun _ => 0) newS 0 (fun _ => 0) (fun _ => newS) (fun _ => none) ∧ w'[X + 145]? = some (aI 0 0 (fun _ => 0))) w6 70 [(0, .ref X)] [] := by
  refine g_aload_n (pc := 70) 0 dX11_init_70 rfl rfl ?_
  refine g_iconst (pc := 71) (v := nI 2) dX11_init_71 (by decide) ?_
  refine g_newq (pc := 72) (k := 5) 2 dX11_init_72 cl_X11_51 (Or.inr (Or.inl ⟨rfl, rfl⟩)) (by decide) (by decide) ?_
  refine GP.tr (X + 135) hl6 ?_
  obtain ⟨v7, hv7⟩ : ∃ wy : Wd, wy = w6 ++ [aR 5 2 (fun _ => none)] := ⟨_, rfl⟩
  refine GP.weq v7 hv7.symm ?_
  have hlv7 : v7.length = X + 136 := by rw [hv7, List.length_append, hl6]; rfl
  have hEv7 : EX (fun i => i = X) 135 2672 w v7 := by rw [hv7]; exact EX.le (k' := 135) (s' := 2672) (EX.apd [aR 5 2 (fun _ => none)] hE6) (by simp) (by simp [slW, slE])
  have A7 : ∀ i c, w6[i]? = some c → v7[i]? = some c := fun i c a => by rw [hv7]; exact lk_app a
  have hHv7 : v7[X]? = some (.inr (10, [.ref (X + 1), .ref (X + 3), .ref (X + 12), .ref (X + 52), .ref (X + 112), .ref (X + 132), .null, .null, .null, .null, .null, .int 0, .int 0])) := A7 _ _ hH6
  have n7 : v7[X + 135]? = some (aR 5 2 (fun _ => none)) := by rw [hv7]; exact lk_at hl6
  refine g_putF (pc := 75) [.ref (X + 1), .ref (X + 3), .ref (X + 12), .ref (X + 52), .ref (X + 112), .ref (X + 132), .ref (X + 135), .null, .null, .null, .null, .int 0, .int 0] dX11_init_75 fk_X11_53 (fun _ _ _ h => by cases h; rfl) rfl hHv7 (Nat.le_of_ble_eq_true rfl) rfl rfl ?_
  obtain ⟨w7, hw7⟩ : ∃ wy : Wd, wy = (v7.set X (.inr (10, [.ref (X + 1), .ref (X + 3), .ref (X + 12), .ref (X + 52), .ref (X + 112), .ref (X + 132), .ref (X + 135), .null, .null, .null, .null, .int 0, .int 0]))) := ⟨_, rfl⟩
  refine GP.weq w7 hw7.symm ?_
  have hl7 : w7.length = X + 136 := by rw [hw7, List.length_set]; exact hlv7
  have hE7 : EX (fun i => i = X) 135 2672 w w7 := by rw [hw7]; exact EX.stp hEv7 hHv7 rfl (Or.inl rfl)
  have hH7 : w7[X]? = some (.inr (10, [.ref (X + 1), .ref (X + 3), .ref (X + 12), .ref (X + 52), .ref (X + 112), .ref (X + 132), .ref (X + 135), .null, .null, .null, .null, .int 0, .int 0])) := by rw [hw7]; exact lk_eq hHv7
  have Z7 : ∀ i c, i ≠ X → v7[i]? = some c → w7[i]? = some c := fun i c a b => by rw [hw7]; exact lk_ne (Ne.symm a) b
  have L7 : ∀ i c, i ≠ X → w6[i]? = some c → w7[i]? = some c := fun i c a b => Z7 i c a (A7 i c b)
  refine g_aload_n (pc := 78) 0 dX11_init_78 rfl rfl ?_
  refine g_bipush (pc := 79) (v := nI 25) dX11_init_79 (by decide) ?_
  refine g_newaL (pc := 81) 25 dX11_init_81 acL (by decide) (by decide) ?_
  refine GP.tr (X + 136) hl7 ?_
  obtain ⟨v8, hv8⟩ : ∃ wy : Wd, wy = w7 ++ [aL 25 (fun _ => 0)] := ⟨_, rfl⟩
  refine GP.weq v8 hv8.symm ?_
  have hlv8 : v8.length = X + 137 := by rw [hv8, List.length_append, hl7]; rfl
  have hEv8 : EX (fun i => i = X) 136 2697 w v8 := by rw [hv8]; exact EX.le (k' := 136) (s' := 2697) (EX.apd [aL 25 (fun _ => 0)] hE7) (by simp) (by simp [slW, slE])
  have A8 : ∀ i c, w7[i]? = some c → v8[i]? = some c := fun i c a => by rw [hv8]; exact lk_app a
  have hHv8 : v8[X]? = some (.inr (10, [.ref (X + 1), .ref (X + 3), .ref (X + 12), .ref (X + 52), .ref (X + 112), .ref (X + 132), .ref (X + 135), .null, .null, .null, .null, .int 0, .int 0])) := A8 _ _ hH7
  have n8 : v8[X + 136]? = some (aL 25 (fun _ => 0)) := by rw [hv8]; exact lk_at hl7
  refine g_putF (pc := 83) [.ref (X + 1), .ref (X + 3), .ref (X + 12), .ref (X + 52), .ref (X + 112), .ref (X + 132), .ref (X + 135), .ref (X + 136), .null, .null, .null, .int 0, .int 0] dX11_init_83 fk_X11_57 (fun _ _ _ h => by cases h; rfl) rfl hHv8 (Nat.le_of_ble_eq_true rfl) rfl rfl ?_
  obtain ⟨w8, hw8⟩ : ∃ wy : Wd, wy = (v8.set X (.inr (10, [.ref (X + 1), .ref (X + 3), .ref (X + 12), .ref (X + 52), .ref (X + 112), .ref (X + 132), .ref (X + 135), .ref (X + 136), .null, .null, .null, .int 0, .int 0]))) := ⟨_, rfl⟩
  refine GP.weq w8 hw8.symm ?_
  have hl8 : w8.length = X + 137 := by rw [hw8, List.length_set]; exact hlv8
  have hE8 : EX (fun i => i = X) 136 2697 w w8 := by rw [hw8]; exact EX.stp hEv8 hHv8 rfl (Or.inl rfl)
  have hH8 : w8[X]? = some (.inr (10, [.ref (X + 1), .ref (X + 3), .ref (X + 12), .ref (X + 52), .ref (X + 112), .ref (X + 132), .ref (X + 135), .ref (X + 136), .null, .null, .null, .int 0, .int 0])) := by rw [hw8]; exact lk_eq hHv8
  have Z8 : ∀ i c, i ≠ X → v8[i]? = some c → w8[i]? = some c := fun i c a b => by rw [hw8]; exact lk_ne (Ne.symm a) b
  have L8 : ∀ i c, i ≠ X → w7[i]? = some c → w8[i]? = some c := fun i c a b => Z8 i c a (A8 i c b)
  refine g_aload_n (pc := 86) 0 dX11_init_86 rfl rfl ?_
  refine g_bipush (pc := 87) (v := nI 25) dX11_init_87 (by decide) ?_
  refine g_newaL (pc := 89) 25 dX11_init_89 acL (by decide) (by decide) ?_
  refine GP.tr (X + 137) hl8 ?_
  obtain ⟨v9, hv9⟩ : ∃ wy : Wd, wy = w8 ++ [aL 25 (fun _ => 0)] := ⟨_, rfl⟩
  refine GP.weq v9 hv9.symm ?_
  have hlv9 : v9.length = X + 138 := by rw [hv9, List.length_append, hl8]; rfl
  have hEv9 : EX (fun i => i = X) 137 2722 w v9 := by rw [hv9]; exact EX.le (k' := 137) (s' := 2722) (EX.apd [aL 25 (fun _ => 0)] hE8) (by simp) (by simp [slW, slE])
  have A9 : ∀ i c, w8[i]? = some c → v9[i]? = some c := fun i c a => by rw [hv9]; exact lk_app a
  have hHv9 : v9[X]? = some (.inr (10, [.ref (X + 1), .ref (X + 3), .ref (X + 12), .ref (X + 52), .ref (X + 112), .ref (X + 132), .ref (X + 135), .ref (X + 136), .null, .null, .null, .int 0, .int 0])) := A9 _ _ hH8
  have n9 : v9[X + 137]? = some (aL 25 (fun _ => 0)) := by rw [hv9]; exact lk_at hl8
  refine g_putF (pc := 91) [.ref (X + 1), .ref (X + 3), .ref (X + 12), .ref (X + 52), .ref (X + 112), .ref (X + 132), .ref (X + 135), .ref (X + 136), .ref (X + 137), .null, .null, .int 0, .int 0] dX11_init_91 fk_X11_61 (fun _ _ _ h => by cases h; rfl) rfl hHv9 (Nat.le_of_ble_eq_true rfl) rfl rfl ?_
  obtain ⟨w9, hw9⟩ : ∃ wy : Wd, wy = (v9.set X (.inr (10, [.ref (X + 1), .ref (X + 3), .ref (X + 12), .ref (X + 52), .ref (X + 112), .ref (X + 132), .ref (X + 135), .ref (X + 136), .ref (X + 137), .null, .null, .int 0, .int 0]))) := ⟨_, rfl⟩
  refine GP.weq w9 hw9.symm ?_
  have hl9 : w9.length = X + 138 := by rw [hw9, List.length_set]; exact hlv9
  have hE9 : EX (fun i => i = X) 137 2722 w w9 := by rw [hw9]; exact EX.stp hEv9 hHv9 rfl (Or.inl rfl)
  have hH9 : w9[X]? = some (.inr (10, [.ref (X + 1), .ref (X + 3), .ref (X + 12), .ref (X + 52), .ref (X + 112), .ref (X + 132), .ref (X + 135), .ref (X + 136), .ref (X + 137), .null, .null, .int 0, .int 0])) := by rw [hw9]; exact lk_eq hHv9
  have Z9 : ∀ i c, i ≠ X → v9[i]? = some c → w9[i]? = some c := fun i c a b => by rw [hw9]; exact lk_ne (Ne.symm a) b
  have L9 : ∀ i c, i ≠ X → w8[i]? = some c → w9[i]? = some c := fun i c a b => Z9 i c a (A9 i c b)
  refine g_aload_n (pc := 94) 0 dX11_init_94 rfl rfl ?_
  refine g_iconst (pc := 95) (v := nI 5) dX11_init_95 (by decide) ?_
  refine g_newaI (pc := 96) 5 dX11_init_96 acI (by decide) (by decide) ?_
  refine GP.tr (X + 138) hl9 ?_
  obtain ⟨v10, hv10⟩ : ∃ wy : Wd, wy = w9 ++ [aI 0 5 (fun _ => 0)] := ⟨_, rfl⟩
  refine GP.weq v10 hv10.symm ?_
  have hlv10 : v10.length = X + 139 := by rw [hv10, List.length_append, hl9]; rfl
  have hEv10 : EX (fun i => i = X) 138 2727 w v10 := by rw [hv10]; exact EX.le (k' := 138) (s' := 2727) (EX.apd [aI 0 5 (fun _ => 0)] hE9) (by simp) (by simp [slW, slE])
  have A10 : ∀ i c, w9[i]? = some c → v10[i]? = some c := fun i c a => by rw [hv10]; exact lk_app a
  have hHv10 : v10[X]? = some (.inr (10, [.ref (X + 1), .ref (X + 3), .ref (X + 12), .ref (X + 52), .ref (X + 112), .ref (X + 132), .ref (X + 135), .ref (X + 136), .ref (X + 137), .null, .null, .int 0, .int 0])) := A10 _ _ hH9
  have n10 : v10[X + 138]? = some (aI 0 5 (fun _ => 0)) := by rw [hv10]; exact lk_at hl9
  refine g_putF (pc := 98) [.ref (X + 1), .ref (X + 3), .ref (X + 12), .ref (X + 52), .ref (X + 112), .ref (X + 132), .ref (X + 135), .ref (X + 136), .ref (X + 137), .ref (X + 138), .null, .int 0, .int 0] dX11_init_98 fk_X11_64 (fun _ _ _ h => by cases h; rfl) rfl hHv10 (Nat.le_of_ble_eq_true rfl) rfl rfl ?_
  obtain ⟨w10, hw10⟩ : ∃ wy : Wd, wy = (v10.set X (.inr (10, [.ref (X + 1), .ref (X + 3), .ref (X + 12), .ref (X + 52), .ref (X + 112), .ref (X + 132), .ref (X + 135), .ref (X + 136), .ref (X + 137), .ref (X + 138), .null, .int 0, .int 0]))) := ⟨_, rfl⟩
  refine GP.weq w10 hw10.symm ?_
  have hl10 : w10.length = X + 139 := by rw [hw10, List.length_set]; exact hlv10
  have hE10 : EX (fun i => i = X) 138 2727 w w10 := by rw [hw10]; exact EX.stp hEv10 hHv10 rfl (Or.inl rfl)
  have hH10 : w10[X]? = some (.inr (10, [.ref (X + 1), .ref (X + 3), .ref (X + 12), .ref (X + 52), .ref (X + 112), .ref (X + 132), .ref (X + 135), .ref (X + 136), .ref (X + 137), .ref (X + 138), .null, .int 0, .int 0])) := by rw [hw10]; exact lk_eq hHv10
  have Z10 : ∀ i c, i ≠ X → v10[i]? = some c → w10[i]? = some c := fun i c a b => by rw [hw10]; exact lk_ne (Ne.symm a) b
  have L10 : ∀ i c, i ≠ X → w9[i]? = some c → w10[i]? = some c := fun i c a b => Z10 i c a (A10 i c b)
  refine g_aload_n (pc := 101) 0 dX11_init_101 rfl rfl ?_
  refine g_new (pc := 102) dX11_init_102 nk_X11_51 ?_
  refine GP.tr (X + 139) hl10 ?_
  refine g_dup (pc := 105) dX11_init_105 rfl ?_
  refine g_callI (pc := 106) [] dX11_init_106 ci_X11_68.1 ci_X11_68.2.1 ci_X11_68.2.2 rfl rfl (Nat.le_of_ble_eq_true rfl) (by decide) (by decide) (sp_newShelf2 _ (len_new hl10) (lk_at hl10)) ?_
  rintro _ v11 ⟨rfl, s1, s2, pS, pS6⟩
  obtain ⟨u11, hu11⟩ : ∃ wy : Wd, wy = w10 ++ [.inr (7, [.null, .null])] := ⟨_, rfl⟩
  rw [← hu11] at s2
  have hlv11 : v11.length = X + 146 := s1
  have hEu11 : EX (fun i => i = X) 139 2729 w u11 := by rw [hu11]; exact EX.le (k' := 139) (s' := 2729) (EX.apd [.inr (7, [.null, .null])] hE10) (by simp) (by simp [slW, slE])
  have hEv11 : EX (fun i => i = X) 145 2747 w v11 := EX.le (hEu11.trn s2 (fun i hi => Or.inr (le_pl 138 ho hi))) (by decide) (by decide)
  have A11 : ∀ i c, w10[i]? = some c → v11[i]? = some c := fun i c a => by
    exact s2.lk (fun e => ne_old hl10 a e.symm) (by rw [hu11]; exact lk_app a)
  have hHv11 : v11[X]? = some (.inr (10, [.ref (X + 1), .ref (X + 3), .ref (X + 12), .ref (X + 52), .ref (X + 112), .ref (X + 132), .ref (X + 135), .ref (X + 136), .ref (X + 137), .ref (X + 138), .null, .int 0, .int 0])) := A11 _ _ hH10
  refine g_put (pc := 109) [.ref (X + 1), .ref (X + 3), .ref (X + 12), .ref (X + 52), .ref (X + 112), .ref (X + 132), .ref (X + 135), .ref (X + 136), .ref (X + 137), .ref (X + 138), .ref (X + 139), .int 0, .int 0] dX11_init_109 fk_X11_69 hHv11 (Nat.le_of_ble_eq_true rfl) rfl rfl ?_
  obtain ⟨w11, hw11⟩ : ∃ wy : Wd, wy = (v11.set X (.inr (10, [.ref (X + 1), .ref (X + 3), .ref (X + 12), .ref (X + 52), .ref (X + 112), .ref (X + 132), .ref (X + 135), .ref (X + 136), .ref (X + 137), .ref (X + 138), .ref (X + 139), .int 0, .int 0]))) := ⟨_, rfl⟩
  refine GP.weq w11 hw11.symm ?_
  have hl11 : w11.length = X + 146 := by rw [hw11, List.length_set]; exact hlv11
  have hE11 : EX (fun i => i = X) 145 2747 w w11 := by rw [hw11]; exact EX.stp hEv11 hHv11 rfl (Or.inl rfl)
  have hH11 : w11[X]? = some (.inr (10, [.ref (X + 1), .ref (X + 3), .ref (X + 12), .ref (X + 52), .ref (X + 112), .ref (X + 132), .ref (X + 135), .ref (X + 136), .ref (X + 137), .ref (X + 138), .ref (X + 139), .int 0, .int 0])) := by rw [hw11]; exact lk_eq hHv11
  have Z11 : ∀ i c, i ≠ X → v11[i]? = some c → w11[i]? = some c := fun i c a b => by rw [hw11]; exact lk_ne (Ne.symm a) b
  have L11 : ∀ i c, i ≠ X → w10[i]? = some c → w11[i]? = some c := fun i c a b => Z11 i c a (A11 i c b)
  refine g_aload_n (pc := 112) 0 dX11_init_112 rfl rfl ?_
  refine g_iconst (pc := 113) (v := -1) dX11_init_113 (by decide) ?_
  refine g_put (pc := 114) [.ref (X + 1), .ref (X + 3), .ref (X + 12), .ref (X + 52), .ref (X + 112), .ref (X + 132), .ref (X + 135), .ref (X + 136), .ref (X + 137), .ref (X + 138), .ref (X + 139), .int (-1), .int 0] dX11_init_114 fk_X11_73 hH11 (Nat.le_of_ble_eq_true rfl) rfl rfl ?_
  refine g_aload_n (pc := 117) 0 dX11_init_117 rfl rfl ?_
  refine g_iconst (pc := 118) (v := nI 0) dX11_init_118 (by decide) ?_
  refine g_put (pc := 119) [.ref (X + 1), .ref (X + 3), .ref (X + 12), .ref (X + 52), .ref (X + 112), .ref (X + 132), .ref (X + 135), .ref (X + 136), .ref (X + 137), .ref (X + 138), .ref (X + 139), .int (-1), .int (nI 0)] dX11_init_119 fk_X11_77 (lk_eq hH11) (Nat.le_of_ble_eq_true rfl) rfl rfl ?_
  refine GP.weq (w11.set X (.inr (10, [.ref (X + 1), .ref (X + 3), .ref (X + 12), .ref (X + 52), .ref (X + 112), .ref (X + 132), .ref (X + 135), .ref (X + 136), .ref (X + 137), .ref (X + 138), .ref (X + 139), .int (-1), .int (nI 0)]))) (by rw [List.set_set]) ?_
  obtain ⟨wz, hwz⟩ : ∃ wy : Wd, wy = (w11.set X (.inr (10, [.ref (X + 1), .ref (X + 3), .ref (X + 12), .ref (X + 52), .ref (X + 112), .ref (X + 132), .ref (X + 135), .ref (X + 136), .ref (X + 137), .ref (X + 138), .ref (X + 139), .int (-1), .int (nI 0)]))) := ⟨_, rfl⟩
  refine GP.weq wz hwz.symm ?_
  have Z : ∀ i c, i ≠ X → w11[i]? = some c → wz[i]? = some c := fun i c a b => by rw [hwz]; exact lk_ne (Ne.symm a) b
  have F10 : ∀ i c, i ≠ X → w10[i]? = some c → wz[i]? = some c := fun i c a b => Z i c a (L11 i c a b)
  have F9 : ∀ i c, i ≠ X → w9[i]? = some c → wz[i]? = some c := fun i c a b => F10 i c a (L10 i c a b)
  have F8 : ∀ i c, i ≠ X → w8[i]? = some c → wz[i]? = some c := fun i c a b => F9 i c a (L9 i c a b)
  have F7 : ∀ i c, i ≠ X → w7[i]? = some c → wz[i]? = some c := fun i c a b => F8 i c a (L8 i c a b)
  have F6 : ∀ i c, i ≠ X → w6[i]? = some c → wz[i]? = some c := fun i c a b => F7 i c a (L7 i c a b)
  have R1 := q1.kp (fun i c a b g => F6 i c (ne_up _ a) g)
  have R2 := q2.kp (fun i c a b g => F6 i c (ne_up _ a) g)
  have R3 := q3.kp (fun i c a b g => F6 i c (ne_up _ a) g)
  have Q7 := F7 _ _ ne_pl (Z7 _ _ ne_pl n7)
  have Q8 := F8 _ _ ne_pl (Z8 _ _ ne_pl n8)
  have Q9 := F9 _ _ ne_pl (Z9 _ _ ne_pl n9)
  have Q10 := F10 _ _ ne_pl (Z10 _ _ ne_pl n10)
  have QS : shC wz (X + 139) (X + 139) newS := pS.kp (fun i c a g => Z i c (ne_up 138 a) (Z11 i c (ne_up 138 a) g))
  have QX : wz[X]? = some (oB X (X + 139) (-1) (nI 0)) := by rw [hwz]; exact lk_eq hH11
  have QE : EX (fun i => i = X) 145 2747 w wz := by rw [hwz]; exact EX.stp hE11 hH11 rfl (Or.inl rfl)
  have QL : wz.length = X + 146 := by rw [hwz, List.length_set]; exact hl11
  have QT : tapC wz X 0 (fun _ => 0) := by
    obtain ⟨_, pl, f, a, b, c⟩ := qT
    exact ⟨by omega, pl, f, F6 _ _ ne_pl a, F6 _ _ ne_pl b, c⟩
  have QW : wkC wz X := ⟨⟨0, 0, _, R1⟩, ⟨_, _, R2⟩, R3, ⟨0, 0, 0, 0, 0, 0, _, _, F6 _ _ ne_pl pH0, pH1.kp (fun i c a b g => F6 i c (ne_up _ a) g), wh_keep pH2 (fun c h => F6 _ _ (ne_pl (k := 113)) h) (fun c h => F6 _ _ (ne_pl (k := 114)) h), F6 _ _ (ne_pl (k := 115)) pH3, F6 _ _ (ne_pl (k := 116)) pH4⟩, ⟨_, Q8⟩, ⟨_, Q9⟩⟩
  have QP : pasC wz X 0 (fun _ => 0) (fun _ => newS) := ⟨by omega, _, _, F6 _ _ ne_pl pa, F6 _ _ ne_pl pb, F6 _ _ ne_pl pc9, fun i hi => absurd hi (Nat.not_lt_zero _)⟩
  have QI : imgC wz X (fun _ => none) := ⟨_, Q7, fun k hk => ⟨fun V h => by simp at h, fun _ => rfl⟩⟩
  have QR : refC wz X (fun _ => 0) := ⟨_, Q10, fun i hi => rfl⟩
  have QY : wz[X + 145]? = some (aI 0 0 (fun _ => 0)) := Z _ _ (by omega) (Z11 _ _ (by omega) pS6)
  exact g_vret (pc := 122) dX11_init_122 ⟨rfl, QL, QE, ⟨⟨⟨X + 139, QX, QS⟩, QT, QW, QP, QI, QR⟩, QY⟩⟩
set_option maxHeartbeats 4000000 in
theorem sp_newBox2 (w : Wd) {X : Nat} (ho : X + 1 = w.length) (hH : w[X]? = some (.inr (10, [.null, .null, .null, .null, .null, .null, .null, .null, .null, .null, .null, .int 0, .int 0]))) : EX11_init [.ref X] w (fun r w' => r = none ∧ w'.length = X + 146 ∧ EX (fun i => i = X) 145 2747 w w' ∧ bxC w' X 0 (fun _ => 0) (-1) (nI 0) (fun _ => 0) newS 0 (fun _ => 0) (fun _ => newS) (fun _ => none) ∧ w'[X + 145]? = some (aI 0 0 (fun _ => 0))) := by
  refine EP.of (plainFor_of_name (by decide)) [(0, .ref X)] rfl (Nat.le_of_ble_eq_true rfl) (fun r wf h => by obtain ⟨rfl, -⟩ := h; trivial) ?_
  show BX11_init w _ w 0 [(0, .ref X)] []
  refine g_aload_n (pc := 0) 0 dX11_init_0 rfl rfl ?_
  refine g_oinit (pc := 1) dX11_init_1 ol_X11_3 oi_in oi_co (by decide) (Nat.le_of_ble_eq_true rfl) (by decide) ?_
  refine g_aload_n (pc := 4) 0 dX11_init_4 rfl rfl ?_
  refine g_new (pc := 5) dX11_init_5 nk_X11_9 ?_
  refine GP.tr (X + 1) ho.symm ?_
  refine g_dup (pc := 8) dX11_init_8 rfl ?_
  refine g_callIN (pc := 9) [] dX11_init_9 nw_8 cn_X8_init.1 cn_X8_init.2.1 pn_X8_init cn_X8_init.2.2 rfl rfl rfl (Nat.le_of_ble_eq_true rfl) (by decide) (by decide) (sp_newTape _ (lk_at ho.symm)) ?_
  rintro _ w9 ⟨rfl, e9⟩
  rw [List.length_append, show ([.inr (8, [.null, .int 0, .int 0])] : Wd).length = 1 from rfl, ← ho] at e9
  obtain ⟨v1, hv1⟩ : ∃ wy : Wd, wy = w ++ [oT (X + 1 + 1) 0 0, aI 2 400 (fun _ => 0)] := ⟨_, rfl⟩
  refine GP.weq v1 (by rw [e9, hv1, ho]; exact two_new) ?_
  have hlv1 : v1.length = X + 3 := by rw [hv1, List.length_append]; show w.length + 2 = _; omega
  have hEv1 : EX (fun i => i = X) 2 403 w v1 := by rw [hv1]; exact EX.app.le (by simp) (by simp [slW, slE])
  have hHv1 : v1[X]? = some (.inr (10, [.null, .null, .null, .null, .null, .null, .null, .null, .null, .null, .null, .int 0, .int 0])) := by rw [hv1]; exact lk_app hH
  have A1 : ∀ i c, w[i]? = some c → v1[i]? = some c := fun i c a => by rw [hv1]; exact lk_app a
  have t1 : v1[X + 1]? = some (oT (X + 2) 0 0) := by rw [hv1]; exact lk_a1 ho.symm
  have t2 : v1[X + 2]? = some (aI 2 400 (fun _ => 0)) := by rw [hv1]; exact lk_a2 (by omega)
  refine g_putF (pc := 12) [.ref (X + 1), .null, .null, .null, .null, .null, .null, .null, .null, .null, .null, .int 0, .int 0] dX11_init_12 fk_X11_12 (fun _ _ _ h => by cases h; rfl) rfl hHv1 (Nat.le_of_ble_eq_true rfl) rfl rfl ?_
  obtain ⟨w1, hw1⟩ : ∃ wy : Wd, wy = (v1.set X (.inr (10, [.ref (X + 1), .null, .null, .null, .null, .null, .null, .null, .null, .null, .null, .int 0, .int 0]))) := ⟨_, rfl⟩
  refine GP.weq w1 hw1.symm ?_
  have hl1 : w1.length = X + 3 := by rw [hw1, List.length_set]; exact hlv1
  have hE1 : EX (fun i => i = X) 2 403 w w1 := by rw [hw1]; exact EX.stp hEv1 hHv1 rfl (Or.inl rfl)
  have hH1 : w1[X]? = some (.inr (10, [.ref (X + 1), .null, .null, .null, .null, .null, .null, .null, .null, .null, .null, .int 0, .int 0])) := by rw [hw1]; exact lk_eq hHv1
  have Z1 : ∀ i c, i ≠ X → v1[i]? = some c → w1[i]? = some c := fun i c a b => by rw [hw1]; exact lk_ne (Ne.symm a) b
  have L1 : ∀ i c, i ≠ X → w[i]? = some c → w1[i]? = some c := fun i c a b => Z1 i c a (A1 i c b)
  refine g_aload_n (pc := 15) 0 dX11_init_15 rfl rfl ?_
  refine g_new (pc := 16) dX11_init_16 nk_X11_16 ?_
  refine GP.tr (X + 3) hl1 ?_
  refine g_dup (pc := 19) dX11_init_19 rfl ?_
  refine g_callIN (pc := 20) [] dX11_init_20 nw_4 cn_X4_init.1 cn_X4_init.2.1 pn_X4_init cn_X4_init.2.2 rfl rfl rfl (Nat.le_of_ble_eq_true rfl) (by decide) (by decide) (sp_newLadder _ (lk_at hl1)) ?_
  rintro _ w9 ⟨rfl, e9⟩
  obtain ⟨u2, hu2⟩ : ∃ wy : Wd, wy = w1 ++ [.inr (4, [.null, .int 0, .int 0])] := ⟨_, rfl⟩
  have hlu2 : u2.length = X + 4 := by rw [hu2, List.length_append, hl1]; rfl
  have hc2 : u2[X + 3]? = some (.inr (4, [.null, .int 0, .int 0])) := by rw [hu2]; exact lk_at hl1
  rw [← hu2] at e9
  have hq2 := ladC_new (by omega) hc2
  rw [← e9] at hq2
  obtain ⟨v2, hv2⟩ : ∃ wy : Wd, wy = u2.set (X + 3) (.inr (4, [.ref u2.length, .int (nI 0), .int (nI 0)])) ++ mnaT 7 u2.length 7 (aL 13 (fun _ => 0)) := ⟨_, rfl⟩
  refine GP.weq v2 (e9.trans hv2.symm) ?_
  rw [e9, ← hv2, hlu2] at hq2
  have hlv2 : v2.length = X + 12 := by rw [hv2, List.length_append, List.length_set, mnaT_len]; omega
  have hEv2 : EX (fun i => i = X) 11 504 w v2 := by
    rw [hv2]
    exact EX.le (k' := 11) (s' := 504) (EX.apd (mnaT 7 u2.length 7 (aL 13 (fun _ => 0))) (EX.stp (k := 3) (s := 406) (by rw [hu2]; exact EX.le (EX.apd [.inr (4, [.null, .int 0, .int 0])] hE1) (by simp) (by simp [slW, slE])) hc2 rfl (Or.inr (le_pl 2 ho rfl)))) (by rw [mnaT_len]; decide) (by rw [mnaT_sl]; decide)
  have hHv2 : v2[X]? = some (.inr (10, [.ref (X + 1), .null, .null, .null, .null, .null, .null, .null, .null, .null, .null, .int 0, .int 0])) := by rw [hv2, hu2]; exact lk_app (lk_ne (by omega) (lk_app hH1))
  have A2 : ∀ i c, w1[i]? = some c → v2[i]? = some c := fun i c a => by
    rw [hv2, hu2]
    exact lk_app (lk_ne (ne_old hl1 a) (lk_app a))
  refine g_putF (pc := 23) [.ref (X + 1), .ref (X + 3), .null, .null, .null, .null, .null, .null, .null, .null, .null, .int 0, .int 0] dX11_init_23 fk_X11_19 (fun _ _ _ h => by cases h; rfl) rfl hHv2 (Nat.le_of_ble_eq_true rfl) rfl rfl ?_
  obtain ⟨w2, hw2⟩ : ∃ wy : Wd, wy = (v2.set X (.inr (10, [.ref (X + 1), .ref (X + 3), .null, .null, .null, .null, .null, .null, .null, .null, .null, .int 0, .int 0]))) := ⟨_, rfl⟩
  refine GP.weq w2 hw2.symm ?_
  have hl2 : w2.length = X + 12 := by rw [hw2, List.length_set]; exact hlv2
  have hE2 : EX (fun i => i = X) 11 504 w w2 := by rw [hw2]; exact EX.stp hEv2 hHv2 rfl (Or.inl rfl)
  have hH2 : w2[X]? = some (.inr (10, [.ref (X + 1), .ref (X + 3), .null, .null, .null, .null, .null, .null, .null, .null, .null, .int 0, .int 0])) := by rw [hw2]; exact lk_eq hHv2
  have Z2 : ∀ i c, i ≠ X → v2[i]? = some c → w2[i]? = some c := fun i c a b => by rw [hw2]; exact lk_ne (Ne.symm a) b
  have L2 : ∀ i c, i ≠ X → w1[i]? = some c → w2[i]? = some c := fun i c a b => Z2 i c a (A2 i c b)
  refine g_aload_n (pc := 26) 0 dX11_init_26 rfl rfl ?_
  refine g_new (pc := 27) dX11_init_27 nk_X11_23 ?_
  refine GP.tr (X + 12) hl2 ?_
  refine g_dup (pc := 30) dX11_init_30 rfl ?_
  refine g_callI (pc := 31) [] dX11_init_31 ci_X11_25.1 ci_X11_25.2.1 ci_X11_25.2.2 rfl rfl (Nat.le_of_ble_eq_true rfl) (by decide) (by decide) (sp_newGauge _ (len_new hl2) (lk_at hl2)) ?_
  rintro _ v3 ⟨rfl, q1, q2, pG⟩
  obtain ⟨u3, hu3⟩ : ∃ wy : Wd, wy = w2 ++ [.inr (2, [.null, .null, .null, .null, .null, .null, .int 0, .int 0])] := ⟨_, rfl⟩
  rw [← hu3] at q2
  have hlv3 : v3.length = X + 52 := q1
  have hEu3 : EX (fun i => i = X) 12 512 w u3 := by rw [hu3]; exact EX.le (k' := 12) (s' := 512) (EX.apd [.inr (2, [.null, .null, .null, .null, .null, .null, .int 0, .int 0])] hE2) (by simp) (by simp [slW, slE])
  have hEv3 : EX (fun i => i = X) 51 1412 w v3 := EX.le (hEu3.trn q2 (fun i hi => Or.inr (le_pl 11 ho hi))) (by decide) (by decide)
  have A3 : ∀ i c, w2[i]? = some c → v3[i]? = some c := fun i c a => by
    exact q2.lk (fun e => ne_old hl2 a e.symm) (by rw [hu3]; exact lk_app a)
  have hHv3 : v3[X]? = some (.inr (10, [.ref (X + 1), .ref (X + 3), .null, .null, .null, .null, .null, .null, .null, .null, .null, .int 0, .int 0])) := A3 _ _ hH2
  refine g_putF (pc := 34) [.ref (X + 1), .ref (X + 3), .ref (X + 12), .null, .null, .null, .null, .null, .null, .null, .null, .int 0, .int 0] dX11_init_34 fk_X11_26 (fun _ _ _ h => by cases h; rfl) rfl hHv3 (Nat.le_of_ble_eq_true rfl) rfl rfl ?_
  obtain ⟨w3, hw3⟩ : ∃ wy : Wd, wy = (v3.set X (.inr (10, [.ref (X + 1), .ref (X + 3), .ref (X + 12), .null, .null, .null, .null, .null, .null, .null, .null, .int 0, .int 0]))) := ⟨_, rfl⟩
  refine GP.weq w3 hw3.symm ?_
  have hl3 : w3.length = X + 52 := by rw [hw3, List.length_set]; exact hlv3
  have hE3 : EX (fun i => i = X) 51 1412 w w3 := by rw [hw3]; exact EX.stp hEv3 hHv3 rfl (Or.inl rfl)
  have hH3 : w3[X]? = some (.inr (10, [.ref (X + 1), .ref (X + 3), .ref (X + 12), .null, .null, .null, .null, .null, .null, .null, .null, .int 0, .int 0])) := by rw [hw3]; exact lk_eq hHv3
  have Z3 : ∀ i c, i ≠ X → v3[i]? = some c → w3[i]? = some c := fun i c a b => by rw [hw3]; exact lk_ne (Ne.symm a) b
  have L3 : ∀ i c, i ≠ X → w2[i]? = some c → w3[i]? = some c := fun i c a b => Z3 i c a (A3 i c b)
  refine g_aload_n (pc := 37) 0 dX11_init_37 rfl rfl ?_
  refine g_new (pc := 38) dX11_init_38 nk_X11_30 ?_
  refine GP.tr (X + 52) hl3 ?_
  refine g_dup (pc := 41) dX11_init_41 rfl ?_
  refine g_callI (pc := 42) [] dX11_init_42 ci_X11_32.1 ci_X11_32.2.1 ci_X11_32.2.2 rfl rfl (Nat.le_of_ble_eq_true rfl) (by decide) (by decide) (sp_newCircle _ (len_new hl3) (lk_at hl3)) ?_
  rintro _ v4 ⟨rfl, q1, q2, pC⟩
  obtain ⟨u4, hu4⟩ : ∃ wy : Wd, wy = w3 ++ [.inr (0, [.null, .null, .null, .null, .null, .int 0, .long 0])] := ⟨_, rfl⟩
  rw [← hu4] at q2
  have hlv4 : v4.length = X + 112 := q1
  have hEu4 : EX (fun i => i = X) 52 1419 w u4 := by rw [hu4]; exact EX.le (k' := 52) (s' := 1419) (EX.apd [.inr (0, [.null, .null, .null, .null, .null, .int 0, .long 0])] hE3) (by simp) (by simp [slW, slE])
  have hEv4 : EX (fun i => i = X) 111 1949 w v4 := EX.le (hEu4.trn q2 (fun i hi => Or.inr (le_pl 51 ho hi))) (by decide) (by decide)
  have A4 : ∀ i c, w3[i]? = some c → v4[i]? = some c := fun i c a => by
    exact q2.lk (fun e => ne_old hl3 a e.symm) (by rw [hu4]; exact lk_app a)
  have hHv4 : v4[X]? = some (.inr (10, [.ref (X + 1), .ref (X + 3), .ref (X + 12), .null, .null, .null, .null, .null, .null, .null, .null, .int 0, .int 0])) := A4 _ _ hH3
  refine g_putF (pc := 45) [.ref (X + 1), .ref (X + 3), .ref (X + 12), .ref (X + 52), .null, .null, .null, .null, .null, .null, .null, .int 0, .int 0] dX11_init_45 fk_X11_33 (fun _ _ _ h => by cases h; rfl) rfl hHv4 (Nat.le_of_ble_eq_true rfl) rfl rfl ?_
  obtain ⟨w4, hw4⟩ : ∃ wy : Wd, wy = (v4.set X (.inr (10, [.ref (X + 1), .ref (X + 3), .ref (X + 12), .ref (X + 52), .null, .null, .null, .null, .null, .null, .null, .int 0, .int 0]))) := ⟨_, rfl⟩
  refine GP.weq w4 hw4.symm ?_
  have hl4 : w4.length = X + 112 := by rw [hw4, List.length_set]; exact hlv4
  have hE4 : EX (fun i => i = X) 111 1949 w w4 := by rw [hw4]; exact EX.stp hEv4 hHv4 rfl (Or.inl rfl)
  have hH4 : w4[X]? = some (.inr (10, [.ref (X + 1), .ref (X + 3), .ref (X + 12), .ref (X + 52), .null, .null, .null, .null, .null, .null, .null, .int 0, .int 0])) := by rw [hw4]; exact lk_eq hHv4
  have Z4 : ∀ i c, i ≠ X → v4[i]? = some c → w4[i]? = some c := fun i c a b => by rw [hw4]; exact lk_ne (Ne.symm a) b
  have L4 : ∀ i c, i ≠ X → w3[i]? = some c → w4[i]? = some c := fun i c a b => Z4 i c a (A4 i c b)
  refine g_aload_n (pc := 48) 0 dX11_init_48 rfl rfl ?_
  refine g_new (pc := 49) dX11_init_49 nk_X11_37 ?_
  refine GP.tr (X + 112) hl4 ?_
  refine g_dup (pc := 52) dX11_init_52 rfl ?_
  refine g_callI (pc := 53) [] dX11_init_53 ci_X11_39.1 ci_X11_39.2.1 ci_X11_39.2.2 rfl rfl (Nat.le_of_ble_eq_true rfl) (by decide) (by decide) (sp_newHunt _ (len_new hl4) (lk_at hl4)) ?_
  rintro _ v5 ⟨rfl, q1, q2, ⟨pH0, pH1, pH2, pH3, pH4⟩⟩
  obtain ⟨u5, hu5⟩ : ∃ wy : Wd, wy = w4 ++ [.inr (3, [.null, .null, .null, .null, .int 0, .int 0, .int 0, .int 0, .int 0, .int 0])] := ⟨_, rfl⟩
  rw [← hu5] at q2
  have hlv5 : v5.length = X + 132 := q1
  have hEu5 : EX (fun i => i = X) 112 1959 w u5 := by rw [hu5]; exact EX.le (k' := 112) (s' := 1959) (EX.apd [.inr (3, [.null, .null, .null, .null, .int 0, .int 0, .int 0, .int 0, .int 0, .int 0])] hE4) (by simp) (by simp [slW, slE])
  have hEv5 : EX (fun i => i = X) 131 2651 w v5 := EX.le (hEu5.trn q2 (fun i hi => Or.inr (le_pl 111 ho hi))) (by decide) (by decide)
  have A5 : ∀ i c, w4[i]? = some c → v5[i]? = some c := fun i c a => by
    exact q2.lk (fun e => ne_old hl4 a e.symm) (by rw [hu5]; exact lk_app a)
  have hHv5 : v5[X]? = some (.inr (10, [.ref (X + 1), .ref (X + 3), .ref (X + 12), .ref (X + 52), .null, .null, .null, .null, .null, .null, .null, .int 0, .int 0])) := A5 _ _ hH4
  refine g_putF (pc := 56) [.ref (X + 1), .ref (X + 3), .ref (X + 12), .ref (X + 52), .ref (X + 112), .null, .null, .null, .null, .null, .null, .int 0, .int 0] dX11_init_56 fk_X11_40 (fun _ _ _ h => by cases h; rfl) rfl hHv5 (Nat.le_of_ble_eq_true rfl) rfl rfl ?_
  obtain ⟨w5, hw5⟩ : ∃ wy : Wd, wy = (v5.set X (.inr (10, [.ref (X + 1), .ref (X + 3), .ref (X + 12), .ref (X + 52), .ref (X + 112), .null, .null, .null, .null, .null, .null, .int 0, .int 0]))) := ⟨_, rfl⟩
  refine GP.weq w5 hw5.symm ?_
  have hl5 : w5.length = X + 132 := by rw [hw5, List.length_set]; exact hlv5
  have hE5 : EX (fun i => i = X) 131 2651 w w5 := by rw [hw5]; exact EX.stp hEv5 hHv5 rfl (Or.inl rfl)
  have hH5 : w5[X]? = some (.inr (10, [.ref (X + 1), .ref (X + 3), .ref (X + 12), .ref (X + 52), .ref (X + 112), .null, .null, .null, .null, .null, .null, .int 0, .int 0])) := by rw [hw5]; exact lk_eq hHv5
  have Z5 : ∀ i c, i ≠ X → v5[i]? = some c → w5[i]? = some c := fun i c a b => by rw [hw5]; exact lk_ne (Ne.symm a) b
  have L5 : ∀ i c, i ≠ X → w4[i]? = some c → w5[i]? = some c := fun i c a b => Z5 i c a (A5 i c b)
  refine g_aload_n (pc := 59) 0 dX11_init_59 rfl rfl ?_
  refine g_new (pc := 60) dX11_init_60 nk_X11_44 ?_
  refine GP.tr (X + 132) hl5 ?_
  refine g_dup (pc := 63) dX11_init_63 rfl ?_
  refine g_callIN (pc := 64) [] dX11_init_64 nw_5 cn_X5_init.1 cn_X5_init.2.1 pn_X5_init cn_X5_init.2.2 rfl rfl rfl (Nat.le_of_ble_eq_true rfl) (by decide) (by decide) (sp_newPast _ (lk_at hl5)) ?_
  rintro _ w9 ⟨rfl, e9⟩
  obtain ⟨u6, hu6⟩ : ∃ wy : Wd, wy = w5 ++ [.inr (5, [.null, .null, .int 0])] := ⟨_, rfl⟩
  have hlu6 : u6.length = X + 133 := by rw [hu6, List.length_append, hl5]; rfl
  have hc6 : u6[X + 132]? = some (.inr (5, [.null, .null, .int 0])) := by rw [hu6]; exact lk_at hl5
  rw [← hu6, hlu6] at e9
  obtain ⟨v6, hv6⟩ : ∃ wy : Wd, wy = u6.set (X + 132) (oA (X + 133) (X + 133 + 1) 0) ++ [aR 5 8 (fun _ => none), aI 0 8 (fun _ => 0)] := ⟨_, rfl⟩
  refine GP.weq v6 (e9.trans hv6.symm) ?_
  have hls6 : (u6.set (X + 132) (oA (X + 133) (X + 133 + 1) 0)).length = X + 133 := by rw [List.length_set]; exact hlu6
  have hlv6 : v6.length = X + 135 := by rw [hv6, List.length_append, List.length_set, hlu6]; rfl
  have hEv6 : EX (fun i => i = X) 134 2670 w v6 := by
    rw [hv6]
    exact EX.le (k' := 134) (s' := 2670) (EX.apd [aR 5 8 (fun _ => none), aI 0 8 (fun _ => 0)] (EX.stp (k := 132) (s := 2654) (by rw [hu6]; exact EX.le (EX.apd [.inr (5, [.null, .null, .int 0])] hE5) (by simp) (by simp [slW, slE])) hc6 rfl (Or.inr (le_pl 131 ho rfl)))) (by simp) (by simp [slW, slE])
  have A6 : ∀ i c, w5[i]? = some c → v6[i]? = some c := fun i c a => by
    rw [hv6, hu6]
    exact lk_app (lk_ne (ne_old hl5 a) (lk_app a))
  have hHv6 : v6[X]? = some (.inr (10, [.ref (X + 1), .ref (X + 3), .ref (X + 12), .ref (X + 52), .ref (X + 112), .null, .null, .null, .null, .null, .null, .int 0, .int 0])) := A6 _ _ hH5
  have pa : v6[X + 132]? = some (oA (X + 133) (X + 134) 0) := by rw [hv6]; exact lk_app (lk_eq hc6)
  have pb : v6[X + 133]? = some (aR 5 8 (fun _ => none)) := by rw [hv6]; exact lk_a1 hls6
  have pc9 : v6[X + 134]? = some (aI 0 8 (fun _ => 0)) := by rw [hv6]; exact lk_a2 (by omega)
  refine g_putF (pc := 67) [.ref (X + 1), .ref (X + 3), .ref (X + 12), .ref (X + 52), .ref (X + 112), .ref (X + 132), .null, .null, .null, .null, .null, .int 0, .int 0] dX11_init_67 fk_X11_47 (fun _ _ _ h => by cases h; rfl) rfl hHv6 (Nat.le_of_ble_eq_true rfl) rfl rfl ?_
  obtain ⟨w6, hw6⟩ : ∃ wy : Wd, wy = (v6.set X (.inr (10, [.ref (X + 1), .ref (X + 3), .ref (X + 12), .ref (X + 52), .ref (X + 112), .ref (X + 132), .null, .null, .null, .null, .null, .int 0, .int 0]))) := ⟨_, rfl⟩
  refine GP.weq w6 hw6.symm ?_
  have hl6 : w6.length = X + 135 := by rw [hw6, List.length_set]; exact hlv6
  have hE6 : EX (fun i => i = X) 134 2670 w w6 := by rw [hw6]; exact EX.stp hEv6 hHv6 rfl (Or.inl rfl)
  have hH6 : w6[X]? = some (.inr (10, [.ref (X + 1), .ref (X + 3), .ref (X + 12), .ref (X + 52), .ref (X + 112), .ref (X + 132), .null, .null, .null, .null, .null, .int 0, .int 0])) := by rw [hw6]; exact lk_eq hHv6
  have Z6 : ∀ i c, i ≠ X → v6[i]? = some c → w6[i]? = some c := fun i c a b => by rw [hw6]; exact lk_ne (Ne.symm a) b
  have L6 : ∀ i c, i ≠ X → w5[i]? = some c → w6[i]? = some c := fun i c a b => Z6 i c a (A6 i c b)
  have F5 : ∀ i c, i ≠ X → w5[i]? = some c → w6[i]? = some c := fun i c a b => L6 i c a b
  have F4 : ∀ i c, i ≠ X → w4[i]? = some c → w6[i]? = some c := fun i c a b => F5 i c a (L5 i c a b)
  have F3 : ∀ i c, i ≠ X → w3[i]? = some c → w6[i]? = some c := fun i c a b => F4 i c a (L4 i c a b)
  have F2 : ∀ i c, i ≠ X → w2[i]? = some c → w6[i]? = some c := fun i c a b => F3 i c a (L3 i c a b)
  have F1 : ∀ i c, i ≠ X → w1[i]? = some c → w6[i]? = some c := fun i c a b => F2 i c a (L2 i c a b)
  have Q1 : ladC w6 (X + 3) (X + 3 + 1) 0 0 (fun _ _ => 0) := ladC.kp hq2 (fun i c a b g => F2 i c (ne_up 2 a) (Z2 i c (ne_up 2 a) g))
  have Q2 : gauC w6 (X + 12) (nI 0) (nI 0) := pG.kp (fun i c a b g => F3 i c (ne_up 11 a) (Z3 i c (ne_up 11 a) g))
  have Q3 : cirA w6 (X + 52) := pC.kp (fun i c a b g => F4 i c (ne_up 51 a) (Z4 i c (ne_up 51 a) g))
  have Q4 : ∀ i c, X + 112 ≤ i → v5[i]? = some c → w6[i]? = some c := fun i c a g => F5 i c (ne_up 111 a) (Z5 i c (ne_up 111 a) g)
  have QT : tapC w6 X 0 (fun _ => 0) := ⟨Nat.zero_le _, 0, _, F1 _ _ ne_pl (Z1 _ _ ne_pl t1), F1 _ _ ne_pl (Z1 _ _ ne_pl t2), fun i hi => absurd hi (Nat.not_lt_zero _)⟩
  exact nb_tail2 ho hl6 hE6 hH6 QT Q1 Q2 Q3 (Q4 _ _ (Nat.le_refl _) pH0) (pH1.kp (fun i c a b g => Q4 i c a g)) (wh_keep pH2 (fun c h => Q4 _ _ (Nat.le_add_right _ _) h) (fun c h => Q4 _ _ (Nat.le_add_right (X + 112) 3) h)) (Q4 _ _ (Nat.le_add_right _ _) pH3) (Q4 _ _ (Nat.le_add_right _ _) pH4) (Z6 _ _ ne_pl pa) (Z6 _ _ ne_pl pb) (Z6 _ _ ne_pl pc9)
