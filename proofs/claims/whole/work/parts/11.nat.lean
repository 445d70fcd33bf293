/-! rules over numbers (nI k), and small laws of worlds -/
theorem GP.weq {nm own : String} {cc : ByteArray} {nL : Nat} {ret : Option FieldType} {d lo : Nat} {sc : Option (Nat × (Nat → Int32))} {w0 : Wd} {Post : Option Value → Wd → Prop} {w : Wd} (w' : Wd) {pc : Nat} {ls : List (Nat × Value)} {st : List Value} (h : w = w') (k : GP nm own cc nL ret d lo sc w0 Post w' pc ls st) : GP nm own cc nL ret d lo sc w0 Post w pc ls st := h ▸ k
theorem GP.lsub {nm own : String} {cc : ByteArray} {nL : Nat} {ret : Option FieldType} {d lo : Nat} {sc : Option (Nat × (Nat → Int32))} {w0 : Wd} {Post : Option Value → Wd → Prop} {w : Wd} {pc : Nat} {ls : List (Nat × Value)} (ls' : List (Nat × Value)) {st : List Value} (h : ∀ q ∈ ls', q ∈ ls) (k : GP nm own cc nL ret d lo sc w0 Post w pc ls' st) : GP nm own cc nL ret d lo sc w0 Post w pc ls st := by
  refine GP.go ⟨Nat.le_refl _, Nat.le_refl _⟩ k fun hC _ _ _ _ _ _ hl hI hS kk => kk _ _ _ ⟨hl.1, hl.2.1, fun q hq => hl.2.2 q ?_⟩ hI hS
  obtain ⟨q0, hq0, rfl⟩ := List.mem_map.mp hq
  exact List.mem_map.mpr ⟨q0, h q0 hq0, rfl⟩
theorem GP.ti {nm own : String} {cc : ByteArray} {nL : Nat} {ret : Option FieldType} {d lo : Nat} {sc : Option (Nat × (Nat → Int32))} {w0 : Wd} {Post : Option Value → Wd → Prop} {w : Wd} {pc : Nat} {ls : List (Nat × Value)} {x : Int32} (y : Int32) {st : List Value} (h : x = y) (k : GP nm own cc nL ret d lo sc w0 Post w pc ls (.int y :: st)) : GP nm own cc nL ret d lo sc w0 Post w pc ls (.int x :: st) := h ▸ k
theorem GP.tl {nm own : String} {cc : ByteArray} {nL : Nat} {ret : Option FieldType} {d lo : Nat} {sc : Option (Nat × (Nat → Int32))} {w0 : Wd} {Post : Option Value → Wd → Prop} {w : Wd} {pc : Nat} {ls : List (Nat × Value)} {x : Int64} (y : Int64) {st : List Value} (h : x = y) (k : GP nm own cc nL ret d lo sc w0 Post w pc ls (.long y :: st)) : GP nm own cc nL ret d lo sc w0 Post w pc ls (.long x :: st) := h ▸ k
theorem GP.post {nm own : String} {cc : ByteArray} {nL : Nat} {ret : Option FieldType} {d lo : Nat} {sc : Option (Nat × (Nat → Int32))} {w0 : Wd} {P1 P2 : Option Value → Wd → Prop} {w : Wd} {pc : Nat} {ls : List (Nat × Value)} {st : List Value} (hp : ∀ r wf, P1 r wf → P2 r wf) (k : GP nm own cc nL ret d lo sc w0 P1 w pc ls st) : GP nm own cc nL ret d lo sc w0 P2 w pc ls st := by
  obtain ⟨r, wf, h1, h2⟩ := k
  exact ⟨r, wf, hp r wf h1, h2⟩
theorem lk_eq {w : Wd} {i : Nat} {c c' : Ce} (h : w[i]? = some c) : (w.set i c')[i]? = some c' := by
  rw [List.getElem?_set_self (List.getElem?_eq_some_iff.mp h).1]
theorem lk_ne {w : Wd} {i j : Nat} {c c' : Ce} (hn : i ≠ j) (h : w[j]? = some c) : (w.set i c')[j]? = some c := by
  rw [List.getElem?_set_ne hn]
  exact h
theorem lk_app {w : Wd} {i : Nat} {c : Ce} {t : Wd} (h : w[i]? = some c) : (w ++ t)[i]? = some c := by
  rw [List.getElem?_append_left (List.getElem?_eq_some_iff.mp h).1]
  exact h
theorem lk_new {w : Wd} {c : Ce} : (w ++ [c])[w.length]? = some c := by
  rw [List.getElem?_append_right (Nat.le_refl _), Nat.sub_self]
  rfl
theorem set_app {w t : Wd} {i : Nat} {c c' : Ce} (h : w[i]? = some c) : (w ++ t).set i c' = w.set i c' ++ t := by
  rw [List.set_append_left _ _ (List.getElem?_eq_some_iff.mp h).1]
theorem set_new {w : Wd} {c c' : Ce} : (w ++ [c]).set w.length c' = w ++ [c'] := by
  rw [List.set_append_right _ _ (Nat.le_refl _), Nat.sub_self]
  rfl
theorem ne_new {w : Wd} {i : Nat} {c : Ce} (h : w[i]? = some c) : i ≠ w.length := Nat.ne_of_lt (List.getElem?_eq_some_iff.mp h).1
theorem new_ne {w : Wd} {i : Nat} {c : Ce} (h : w[i]? = some c) : w.length ≠ i := Ne.symm (ne_new h)
theorem set_same {w : Wd} {i : Nat} {c : Ce} (h : w[i]? = some c) : w.set i c = w := by
  apply List.ext_getElem?
  intro j
  by_cases hj : i = j
  · subst hj
    rw [lk_eq h, h]
  · rw [List.getElem?_set_ne hj]
theorem nI_inc (k : Nat) (c : Nat) : nI k + nI c = nI (k + c) := nI_add k c
theorem nI_mul (a b : Nat) : nI a * nI b = nI (a * b) := by
  simp [nI]
theorem nI_sub {a b : Nat} (h : b ≤ a) : nI a - nI b = nI (a - b) := by
  obtain ⟨c, rfl⟩ := Nat.exists_eq_add_of_le h
  rw [Nat.add_sub_cancel_left, ← nI_add, Int32.add_comm, Int32.add_sub_cancel]
theorem IXn {j n : Nat} (h : j < n) (hn : n < 2147483648) : IX (nI j) n j := ⟨nI_toInt (Nat.lt_trans h hn), h⟩
theorem nI_inj {a b : Nat} (ha : a < 2147483648) (hb : b < 2147483648) : nI a = nI b ↔ a = b := nI_eq ha hb
theorem nI_leN {a b : Nat} (ha : a < 2147483648) (hb : b < 2147483648) : nI a ≤ nI b ↔ a ≤ b := nI_leI ha hb
theorem nI_ltN {a b : Nat} (ha : a < 2147483648) (hb : b < 2147483648) : nI a < nI b ↔ a < b := nI_ltI ha hb
theorem nI_div {a b : Nat} (ha : a < 2147483648) (hb : b < 2147483648) : nI a / nI b = nI (a / b) := by
  apply Int32.toInt_inj.mp
  have h2 : (nI (a / b)).toInt = ((a / b : Nat) : Int) := nI_toInt (Nat.lt_of_le_of_lt (Nat.div_le_self a b) ha)
  rw [Int32.toInt_div, nI_toInt ha, nI_toInt hb, h2]
  have h3 : ((a : Int).tdiv (b : Int)) = ((a / b : Nat) : Int) := by
    rw [Int.tdiv_eq_ediv_of_nonneg (by omega)]
    rfl
  rw [h3]
  have h4 : a / b ≤ a := Nat.div_le_self a b
  clear h3 h2
  generalize a / b = q at h4 ⊢
  rw [Int.bmod_def]
  split <;> omega
theorem nI_rem {a b : Nat} (ha : a < 2147483648) (hb : b < 2147483648) : nI a - nI a / nI b * nI b = nI (a % b) := by
  rw [nI_div ha hb, nI_mul, nI_sub (Nat.div_mul_le_self a b)]
  congr 1
  have := Nat.div_add_mod a b
  rw [Nat.mul_comm] at this
  omega
section LGn
variable {nm own : String} {cc : ByteArray} {nL : Nat} {ret : Option FieldType} {d lo : Nat} {sc : Option (Nat × (Nat → Int32))} {w0 : Wd} {Post : Option Value → Wd → Prop} {w : Wd} {pc : Nat} {ls ls' : List (Nat × Value)} {st : List Value}
theorem n_iadd {a b : Nat} (hd : decode cc pc = .ok (.iadd, 1)) (k : GP nm own cc nL ret d lo sc w0 Post w (pc + 1) ls (.int (nI (a + b)) :: st)) : GP nm own cc nL ret d lo sc w0 Post w pc ls (.int (nI b) :: .int (nI a) :: st) := g_iadd hd (GP.ti _ (nI_add a b) k)
theorem n_imul {a b : Nat} (hd : decode cc pc = .ok (.imul, 1)) (k : GP nm own cc nL ret d lo sc w0 Post w (pc + 1) ls (.int (nI (a * b)) :: st)) : GP nm own cc nL ret d lo sc w0 Post w pc ls (.int (nI b) :: .int (nI a) :: st) := g_imul hd (GP.ti _ (nI_mul a b) k)
theorem n_isub {a b : Nat} (hd : decode cc pc = .ok (.isub, 1)) (h : b ≤ a) (k : GP nm own cc nL ret d lo sc w0 Post w (pc + 1) ls (.int (nI (a - b)) :: st)) : GP nm own cc nL ret d lo sc w0 Post w pc ls (.int (nI b) :: .int (nI a) :: st) := g_isub hd (GP.ti _ (nI_sub h) k)
theorem n_idiv {a b : Nat} (hd : decode cc pc = .ok (.idiv, 1)) (ha : a < 2147483648) (hb : b < 2147483648) (h0 : 0 < b) (k : GP nm own cc nL ret d lo sc w0 Post w (pc + 1) ls (.int (nI (a / b)) :: st)) : GP nm own cc nL ret d lo sc w0 Post w pc ls (.int (nI b) :: .int (nI a) :: st) := g_idiv hd (nI_ne0 h0 hb) (GP.ti _ (nI_div ha hb) k)
theorem n_irem {a b : Nat} (hd : decode cc pc = .ok (.irem, 1)) (ha : a < 2147483648) (hb : b < 2147483648) (h0 : 0 < b) (k : GP nm own cc nL ret d lo sc w0 Post w (pc + 1) ls (.int (nI (a % b)) :: st)) : GP nm own cc nL ret d lo sc w0 Post w pc ls (.int (nI b) :: .int (nI a) :: st) := g_irem hd (nI_ne0 h0 hb) (GP.ti _ (nI_rem ha hb) k)
theorem n_iinc {i c a : Nat} {n : Int} (ls' : List (Nat × Value)) (j : Nat) (hd : decode cc pc = .ok (.iinc i n, 3)) (hj : ls[j]? = some (i, .int (nI a))) (hc : Int32.ofInt n = nI c) (hn : i < nL) (hl : setL ls i (.int (nI (a + c))) = ls') (k : GP nm own cc nL ret d lo sc w0 Post w (pc + 3) ls' st) : GP nm own cc nL ret d lo sc w0 Post w pc ls st := g_iinc ls' j hd hj (by rw [hc, nI_add]) hn hl k
theorem n_idec {i c a : Nat} {n : Int} (ls' : List (Nat × Value)) (j : Nat) (hd : decode cc pc = .ok (.iinc i n, 3)) (hj : ls[j]? = some (i, .int (nI a))) (hc : Int32.ofInt n = - nI c) (h : c ≤ a) (hn : i < nL) (hl : setL ls i (.int (nI (a - c))) = ls') (k : GP nm own cc nL ret d lo sc w0 Post w (pc + 3) ls' st) : GP nm own cc nL ret d lo sc w0 Post w pc ls st := g_iinc ls' j hd hj (by rw [hc, ← Int32.sub_eq_add_neg, nI_sub h]) hn hl k
theorem n_icmp_eq {a b : Nat} {off : Int} (tgt : Nat) (hd : decode cc pc = .ok (.if_icmp .eq off, 3)) (ht : (pc : Int) + off = (tgt : Int)) (ha : a < 2147483648) (hb : b < 2147483648) (kt : a = b → GP nm own cc nL ret d lo sc w0 Post w tgt ls st) (kf : ¬ (a = b) → GP nm own cc nL ret d lo sc w0 Post w (pc + 3) ls st) : GP nm own cc nL ret d lo sc w0 Post w pc ls (.int (nI b) :: .int (nI a) :: st) := g_icmp_eq tgt hd ht (fun h => kt ((nI_inj ha hb).mp h)) (fun h => kf (fun g => h ((nI_inj ha hb).mpr g)))
theorem n_icmp_ne {a b : Nat} {off : Int} (tgt : Nat) (hd : decode cc pc = .ok (.if_icmp .ne off, 3)) (ht : (pc : Int) + off = (tgt : Int)) (ha : a < 2147483648) (hb : b < 2147483648) (kt : ¬ (a = b) → GP nm own cc nL ret d lo sc w0 Post w tgt ls st) (kf : a = b → GP nm own cc nL ret d lo sc w0 Post w (pc + 3) ls st) : GP nm own cc nL ret d lo sc w0 Post w pc ls (.int (nI b) :: .int (nI a) :: st) := g_icmp_ne tgt hd ht (fun h => kt (fun g => h ((nI_inj ha hb).mpr g))) (fun h => kf ((nI_inj ha hb).mp (Classical.not_not.mp h)))
theorem n_icmp_lt {a b : Nat} {off : Int} (tgt : Nat) (hd : decode cc pc = .ok (.if_icmp .lt off, 3)) (ht : (pc : Int) + off = (tgt : Int)) (ha : a < 2147483648) (hb : b < 2147483648) (kt : a < b → GP nm own cc nL ret d lo sc w0 Post w tgt ls st) (kf : ¬ (a < b) → GP nm own cc nL ret d lo sc w0 Post w (pc + 3) ls st) : GP nm own cc nL ret d lo sc w0 Post w pc ls (.int (nI b) :: .int (nI a) :: st) := g_icmp_lt tgt hd ht (fun h => kt ((nI_ltN ha hb).mp h)) (fun h => kf (fun g => h ((nI_ltN ha hb).mpr g)))
theorem n_icmp_ge {a b : Nat} {off : Int} (tgt : Nat) (hd : decode cc pc = .ok (.if_icmp .ge off, 3)) (ht : (pc : Int) + off = (tgt : Int)) (ha : a < 2147483648) (hb : b < 2147483648) (kt : b ≤ a → GP nm own cc nL ret d lo sc w0 Post w tgt ls st) (kf : ¬ (b ≤ a) → GP nm own cc nL ret d lo sc w0 Post w (pc + 3) ls st) : GP nm own cc nL ret d lo sc w0 Post w pc ls (.int (nI b) :: .int (nI a) :: st) := g_icmp_ge tgt hd ht (fun h => kt ((nI_leN hb ha).mp h)) (fun h => kf (fun g => h ((nI_leN hb ha).mpr g)))
theorem n_icmp_gt {a b : Nat} {off : Int} (tgt : Nat) (hd : decode cc pc = .ok (.if_icmp .gt off, 3)) (ht : (pc : Int) + off = (tgt : Int)) (ha : a < 2147483648) (hb : b < 2147483648) (kt : b < a → GP nm own cc nL ret d lo sc w0 Post w tgt ls st) (kf : ¬ (b < a) → GP nm own cc nL ret d lo sc w0 Post w (pc + 3) ls st) : GP nm own cc nL ret d lo sc w0 Post w pc ls (.int (nI b) :: .int (nI a) :: st) := g_icmp_gt tgt hd ht (fun h => kt ((nI_ltN hb ha).mp h)) (fun h => kf (fun g => h ((nI_ltN hb ha).mpr g)))
theorem n_icmp_le {a b : Nat} {off : Int} (tgt : Nat) (hd : decode cc pc = .ok (.if_icmp .le off, 3)) (ht : (pc : Int) + off = (tgt : Int)) (ha : a < 2147483648) (hb : b < 2147483648) (kt : a ≤ b → GP nm own cc nL ret d lo sc w0 Post w tgt ls st) (kf : ¬ (a ≤ b) → GP nm own cc nL ret d lo sc w0 Post w (pc + 3) ls st) : GP nm own cc nL ret d lo sc w0 Post w pc ls (.int (nI b) :: .int (nI a) :: st) := g_icmp_le tgt hd ht (fun h => kt ((nI_leN ha hb).mp h)) (fun h => kf (fun g => h ((nI_leN ha hb).mpr g)))
theorem n_if_eq {a : Nat} {off : Int} (tgt : Nat) (hd : decode cc pc = .ok (.ifCond .eq off, 3)) (ht : (pc : Int) + off = (tgt : Int)) (ha : a < 2147483648) (kt : a = 0 → GP nm own cc nL ret d lo sc w0 Post w tgt ls st) (kf : ¬ (a = 0) → GP nm own cc nL ret d lo sc w0 Post w (pc + 3) ls st) : GP nm own cc nL ret d lo sc w0 Post w pc ls (.int (nI a) :: st) := g_if_eq tgt hd ht (fun h => kt ((nI_inj (b := 0) ha (by decide)).mp h)) (fun h => kf (fun g => h ((nI_inj (b := 0) ha (by decide)).mpr g)))
theorem n_if_ne {a : Nat} {off : Int} (tgt : Nat) (hd : decode cc pc = .ok (.ifCond .ne off, 3)) (ht : (pc : Int) + off = (tgt : Int)) (ha : a < 2147483648) (kt : ¬ (a = 0) → GP nm own cc nL ret d lo sc w0 Post w tgt ls st) (kf : a = 0 → GP nm own cc nL ret d lo sc w0 Post w (pc + 3) ls st) : GP nm own cc nL ret d lo sc w0 Post w pc ls (.int (nI a) :: st) := g_if_ne tgt hd ht (fun h => kt (fun g => h ((nI_inj (b := 0) ha (by decide)).mpr g))) (fun h => kf ((nI_inj (b := 0) ha (by decide)).mp (Classical.not_not.mp h)))
theorem n_if_le {a : Nat} {off : Int} (tgt : Nat) (hd : decode cc pc = .ok (.ifCond .le off, 3)) (ht : (pc : Int) + off = (tgt : Int)) (ha : a < 2147483648) (kt : a = 0 → GP nm own cc nL ret d lo sc w0 Post w tgt ls st) (kf : ¬ (a = 0) → GP nm own cc nL ret d lo sc w0 Post w (pc + 3) ls st) : GP nm own cc nL ret d lo sc w0 Post w pc ls (.int (nI a) :: st) := g_if_le tgt hd ht (fun h => kt (Nat.le_zero.mp ((nI_leN (b := 0) ha (by decide)).mp h))) (fun h => kf (fun g => h ((nI_leN (b := 0) ha (by decide)).mpr (Nat.le_zero.mpr g))))
theorem n_if_gt {a : Nat} {off : Int} (tgt : Nat) (hd : decode cc pc = .ok (.ifCond .gt off, 3)) (ht : (pc : Int) + off = (tgt : Int)) (ha : a < 2147483648) (kt : ¬ (a = 0) → GP nm own cc nL ret d lo sc w0 Post w tgt ls st) (kf : a = 0 → GP nm own cc nL ret d lo sc w0 Post w (pc + 3) ls st) : GP nm own cc nL ret d lo sc w0 Post w pc ls (.int (nI a) :: st) := g_if_gt tgt hd ht (fun h => kt (fun g => absurd ((nI_ltN (a := 0) (by decide) ha).mp h) (by omega))) (fun h => kf (Nat.eq_zero_of_not_pos (fun g => h ((nI_ltN (a := 0) (by decide) ha).mpr g))))
theorem n_if_lt {a : Nat} {off : Int} (tgt : Nat) (hd : decode cc pc = .ok (.ifCond .lt off, 3)) (ht : (pc : Int) + off = (tgt : Int)) (ha : a < 2147483648) (kf : GP nm own cc nL ret d lo sc w0 Post w (pc + 3) ls st) : GP nm own cc nL ret d lo sc w0 Post w pc ls (.int (nI a) :: st) := g_if_lt tgt hd ht (fun h => absurd h (nI_pos ha)) (fun _ => kf)
theorem n_if_ge {a : Nat} {off : Int} (tgt : Nat) (hd : decode cc pc = .ok (.ifCond .ge off, 3)) (ht : (pc : Int) + off = (tgt : Int)) (ha : a < 2147483648) (kt : GP nm own cc nL ret d lo sc w0 Post w tgt ls st) : GP nm own cc nL ret d lo sc w0 Post w pc ls (.int (nI a) :: st) := g_if_ge tgt hd ht (fun _ => kt) (fun h => absurd (nI_pos' ha) h)
end LGn
