/-! new T[n][k] -/
theorem IN.many {D : va_G} {aC : Nat → ClassId} {b base : Nat} {w t : Wd} {H H1 : Heap} (h : IN D aC b base w H) (z : H1.size = H.size + t.length) (he : ∀ i c, t[i]? = some c → va_at D vwCl (base + (w.length + i), cvE aC b base c) H1) (oq : ∀ q : Nat, q < H.size → H1[q]? = H[q]?) : IN D aC b base (w ++ t) H1 := by
  refine ⟨by rw [z, h.1, List.length_append]; omega, fun k q hk => ?_⟩
  have hP := h.2.kept (fun k q hk => oq q.1 (h.2 k q hk).lt)
  simp only [cvW, List.getElem?_mapIdx] at hk
  by_cases hl : k < w.length
  · rw [List.getElem?_append_left hl] at hk
    exact hP k q (by simp only [cvW, List.getElem?_mapIdx]; exact hk)
  · rw [List.getElem?_append_right (by omega)] at hk
    cases hc : t[k - w.length]? with
    | none => rw [hc] at hk; cases hk
    | some c =>
      rw [hc] at hk
      cases hk
      have h9 := he (k - w.length) c hc
      rw [show w.length + (k - w.length) = k by omega] at h9
      exact h9
def mnaT (k l N : Nat) (c : Ce) : Wd := aR k N (fun i => if i < N then some (l + 1 + i) else none) :: List.replicate N c
theorem mnaT_len {k l N : Nat} {c : Ce} : (mnaT k l N c).length = 1 + N := by simp [mnaT]; omega
theorem mnaT_sl {k l N : Nat} {c : Ce} : slW (mnaT k l N c) = N + N * slE c := by simp [mnaT, slW, slE]
theorem mna_outer (c : ClassId) (N h0 : Nat) : ∀ i : Nat, Jvm.Free.Multi.outerC c N h0 i = arrV c N (fun j => va_rf (if j < i then some (h0 + 1 + j) else none))
  | 0 => by
    have e : (fun j : Nat => va_rf (if j < 0 then some (h0 + 1 + j) else none)) = fun _ => Value.null := funext fun j => by simp [va_rf]
    rw [e]
    exact arrV_new _ _ _
  | i + 1 => by
    have ih := mna_outer c N h0 i
    have e : Jvm.Free.Multi.outerC c N h0 (i + 1) = (Jvm.Free.Multi.outerC c N h0 i).setSlot i (.ref (h0 + 1 + i)) := rfl
    rw [e, ih, arrV_store]
    congr 1
    funext j
    rcases Nat.lt_trichotomy j i with h | h | h
    · simp [updV, Nat.ne_of_lt h, h, Nat.lt_succ_of_lt h]
    · subst h
      simp [updV, va_rf]
    · simp [updV, Nat.ne_of_gt h, Nat.not_lt_of_gt h, show ¬ j < i + 1 by omega]
theorem slW_apps {w t : Wd} : slW (w ++ t) = slW w + slW t := by simp [slW]
theorem g_mnaL {nm own : String} {cc : ByteArray} {nL : Nat} {ret : Option FieldType} {d lo : Nat} {sc : Option (Nat × (Nat → Int32))} {w0 : Wd} {Post : Option Value → Wd → Prop} {w : Wd} {pc : Nat} {ls : List (Nat × Value)} {st : List Value} {idx : Nat} {n k : Int32} (N K : Nat) (hd : decode cc pc = .ok (.multianewarray idx 2, 4)) (hlk : Cond.classLink own idx "[[J" ∈ gT) (hn : n.toInt = (N : Int)) (hk : k.toInt = (K : Int)) (hN : N ≤ 1000) (hK1 : K ≤ 1000) (kk : GP nm own cc nL ret d lo sc w0 Post (w ++ mnaT 7 w.length N (aL K (fun _ => 0))) (pc + 4) ls (.ref w.length :: st)) : GP nm own cc nL ret d lo sc w0 Post w pc ls (.int k :: .int n :: st) := by
  have hcN : n.toNatClampNeg = N := by show n.toInt.toNat = N; rw [hn]; rfl
  have hcK : k.toNatClampNeg = K := by show k.toInt.toNat = K; rw [hk]; rfl
  have hsl : slW (mnaT 7 w.length N (aL K (fun _ => 0))) = N + N * K := mnaT_sl
  have hle : (mnaT 7 w.length N (aL K (fun _ => 0))).length = 1 + N := mnaT_len
  refine GP.go ⟨by rw [List.length_append]; omega, by rw [slW_apps]; omega⟩ kk fun {l} {p} {e} {R} {s} {m} {args} {below} {meth} {c} {D} {aC} {b} {base} {Q} {lsA} {H} {locs} hC _ _ hcl hs2 h0 h1 hl hI hS kk => ?_
  obtain ⟨hx, hb, -, ho, hts, -, -, -, hK, hKx, -⟩ := hC
  have e1 : (w ++ mnaT 7 w.length N (aL K (fun _ => 0))).length - w0.length = w.length - w0.length + (1 + N) := by rw [List.length_append]; omega
  have e2 : slW (w ++ mnaT 7 w.length N (aL K (fun _ => 0))) - slW w0 = slW w - slW w0 + (N + N * K) := by rw [slW_apps]; omega
  rw [e1, e2, ← Nat.add_assoc, ← Nat.add_assoc] at kk
  rw [e1] at hcl
  rw [e2] at hs2
  have hb1 : H.size = base + w.length := hI.1
  have hcy : s.vm.findClass (FieldType.array .long).toString = some (aC 1) := (hK.2 1 _ rfl).2
  have hcA : s.vm.findClass ("[" ++ (FieldType.array .long).toString) = some (aC 7) := (hK.2 7 _ rfl).2
  intro T hT X
  obtain ⟨vm₁, cA, comp, -, fA, fC, hO, -, X', step⟩ := X.multianewarray2F hx ho (hts _ hlk) hKx.2.2.2.2.2.2.2.1 (hts _ acL) (g := F0 m pc lsA (.int k :: .int n :: st.map (cvV b base))) rfl (by rw [hb]; exact hd) rfl (by rw [Int32.lt_iff_toInt_lt, hn]; show ¬ (N : Int) < 0; omega) (by rw [Int32.lt_iff_toInt_lt, hk]; show ¬ (K : Int) < 0; omega) (by rw [hcN]; omega) (by rw [hcK]; show K * 8 ≤ _; omega) (by rw [hcK]; omega) rfl rfl (by rw [hcN]; exact hcl) (by rw [hcN, hcK]; exact hs2)
  cases hcy.symm.trans fC
  cases hcA.symm.trans fA
  rw [hcN, hcK] at X' step
  generalize hF : Jvm.Free.Multi.fill (T.setVm vm₁) (aC 7) (aC 1) N K (defaultValue .long) N = F at X' step
  have hTh : (T.setVm vm₁).heap = H := hT
  obtain ⟨f1, f2, -, -⟩ := Jvm.Free.Multi.fill_facts (T.setVm vm₁) (aC 7) (aC 1) N K (defaultValue .long) N
  rw [hF, hTh] at f1 f2
  have hold : ∀ x : Nat, x < H.size → F.heap[x]? = H[x]? := fun x hx => by
    have := Jvm.Free.Multi.fill_old (T.setVm vm₁) (aC 7) (aC 1) N K (defaultValue .long) (a := x) (by rw [hTh]; exact hx) N
    rw [hF, hTh] at this
    exact this
  have hz : ∀ c : ClassId, Jvm.Free.Multi.innerC c K (defaultValue .long) = vp_cell c (K, Sum.inr (Sum.inl (fun _ => 0))) := fun c => by
    show ({ cls := c, slots := Array.replicate K (defaultValue .long), vm := .none } : Cell) = arrV c K (fun _ => defaultValue .long)
    rw [arrV_new]
  have hrow : ∀ j : Nat, j < N → F.heap[H.size + 1 + j]? = some (vp_cell (aC 1) (K, Sum.inr (Sum.inl (fun _ => 0)))) := fun j hj => by
    have := Jvm.Free.Multi.fill_inner (T.setVm vm₁) (aC 7) (aC 1) N K (defaultValue .long) N j hj
    rw [hF, hTh, hz] at this
    exact this
  have hout : Jvm.Free.Multi.outerC (aC 7) N H.size N = vp_cell (aC 7) (N, .inr (.inr (.inr (.inr (fun i => if i < N then some (H.size + 1 + i) else none))))) := by
    rw [vp_cell_q]
    exact mna_outer (aC 7) N H.size N
  rw [hout] at f2
  have hI1 : IN D aC b base (w ++ mnaT 7 w.length N (aL K (fun _ => 0))) F.heap := by
    refine hI.many (by rw [f1, hle]; omega) (fun i c hi => ?_) hold
    cases i with
    | zero =>
      cases hi
      show F.heap[base + (w.length + 0)]? = some (vp_cell (aC 7) (N, .inr (.inr (.inr (.inr (fun j => (if j < N then some (w.length + 1 + j) else none).map (fun i => base + i)))))))
      rw [Nat.add_zero, ← hb1, f2]
      congr 2
      refine congrArg (fun z => (N, Sum.inr (Sum.inr (Sum.inr (Sum.inr z))))) (funext fun j => ?_)
      by_cases hj : j < N
      · rw [if_pos hj, if_pos hj, hb1]
        show some (base + w.length + 1 + j) = some (base + (w.length + 1 + j))
        congr 1
        omega
      · rw [if_neg hj, if_neg hj]
        rfl
    | succ i =>
      have hi2 : (List.replicate N (aL K (fun _ => 0) : Ce))[i]? = some c := hi
      rw [List.getElem?_replicate] at hi2
      split at hi2
      · rename_i hiN
        cases hi2
        show F.heap[base + (w.length + (i + 1))]? = some (vp_cell (aC 1) (K, Sum.inr (Sum.inl (fun _ => 0))))
        rw [show base + (w.length + (i + 1)) = H.size + 1 + i by omega]
        exact hrow i hiN
      · cases hi2
  have hS1 : va_S (Inn base) s.heap F.heap locs := ⟨by rw [f1]; have := hS.1; omega, fun x h1 h2 => (hold x (Nat.lt_of_lt_of_le h1 hS.1)).trans (hS.2.1 x h1 h2), hS.2.2⟩
  obtain ⟨t, a1, b1⟩ := kk _ F.heap locs hl hI1 hS1 F rfl X'
  refine ⟨t, step t ?_, b1⟩
  have e : T.heap.size = base + w.length := by rw [hT]; exact hb1
  rw [e]
  exact a1
theorem g_mnaI {nm own : String} {cc : ByteArray} {nL : Nat} {ret : Option FieldType} {d lo : Nat} {sc : Option (Nat × (Nat → Int32))} {w0 : Wd} {Post : Option Value → Wd → Prop} {w : Wd} {pc : Nat} {ls : List (Nat × Value)} {st : List Value} {idx : Nat} {n k : Int32} (N K : Nat) (hd : decode cc pc = .ok (.multianewarray idx 2, 4)) (hlk : Cond.classLink own idx "[[I" ∈ gT) (hn : n.toInt = (N : Int)) (hk : k.toInt = (K : Int)) (hN : N ≤ 1000) (hK1 : K ≤ 1000) (kk : GP nm own cc nL ret d lo sc w0 Post (w ++ mnaT 8 w.length N (aI 0 K (fun _ => 0))) (pc + 4) ls (.ref w.length :: st)) : GP nm own cc nL ret d lo sc w0 Post w pc ls (.int k :: .int n :: st) := by
  have hcN : n.toNatClampNeg = N := by show n.toInt.toNat = N; rw [hn]; rfl
  have hcK : k.toNatClampNeg = K := by show k.toInt.toNat = K; rw [hk]; rfl
  have hsl : slW (mnaT 8 w.length N (aI 0 K (fun _ => 0))) = N + N * K := mnaT_sl
  have hle : (mnaT 8 w.length N (aI 0 K (fun _ => 0))).length = 1 + N := mnaT_len
  refine GP.go ⟨by rw [List.length_append]; omega, by rw [slW_apps]; omega⟩ kk fun {l} {p} {e} {R} {s} {m} {args} {below} {meth} {c} {D} {aC} {b} {base} {Q} {lsA} {H} {locs} hC _ _ hcl hs2 h0 h1 hl hI hS kk => ?_
  obtain ⟨hx, hb, -, ho, hts, -, -, -, hK, hKx, -⟩ := hC
  have e1 : (w ++ mnaT 8 w.length N (aI 0 K (fun _ => 0))).length - w0.length = w.length - w0.length + (1 + N) := by rw [List.length_append]; omega
  have e2 : slW (w ++ mnaT 8 w.length N (aI 0 K (fun _ => 0))) - slW w0 = slW w - slW w0 + (N + N * K) := by rw [slW_apps]; omega
  rw [e1, e2, ← Nat.add_assoc, ← Nat.add_assoc] at kk
  rw [e1] at hcl
  rw [e2] at hs2
  have hb1 : H.size = base + w.length := hI.1
  have hcy : s.vm.findClass (FieldType.array .int).toString = some (aC 0) := (hK.2 0 _ rfl).2
  have hcA : s.vm.findClass ("[" ++ (FieldType.array .int).toString) = some (aC 8) := (hK.2 8 _ rfl).2
  intro T hT X
  obtain ⟨vm₁, cA, comp, -, fA, fC, hO, -, X', step⟩ := X.multianewarray2F hx ho (hts _ hlk) hKx.2.2.2.2.2.2.2.2 (hts _ acI) (g := F0 m pc lsA (.int k :: .int n :: st.map (cvV b base))) rfl (by rw [hb]; exact hd) rfl (by rw [Int32.lt_iff_toInt_lt, hn]; show ¬ (N : Int) < 0; omega) (by rw [Int32.lt_iff_toInt_lt, hk]; show ¬ (K : Int) < 0; omega) (by rw [hcN]; omega) (by rw [hcK]; show K * 4 ≤ _; omega) (by rw [hcK]; omega) rfl rfl (by rw [hcN]; exact hcl) (by rw [hcN, hcK]; exact hs2)
  cases hcy.symm.trans fC
  cases hcA.symm.trans fA
  rw [hcN, hcK] at X' step
  generalize hF : Jvm.Free.Multi.fill (T.setVm vm₁) (aC 8) (aC 0) N K (defaultValue .int) N = F at X' step
  have hTh : (T.setVm vm₁).heap = H := hT
  obtain ⟨f1, f2, -, -⟩ := Jvm.Free.Multi.fill_facts (T.setVm vm₁) (aC 8) (aC 0) N K (defaultValue .int) N
  rw [hF, hTh] at f1 f2
  have hold : ∀ x : Nat, x < H.size → F.heap[x]? = H[x]? := fun x hx => by
    have := Jvm.Free.Multi.fill_old (T.setVm vm₁) (aC 8) (aC 0) N K (defaultValue .int) (a := x) (by rw [hTh]; exact hx) N
    rw [hF, hTh] at this
    exact this
  have hz : ∀ c : ClassId, Jvm.Free.Multi.innerC c K (defaultValue .int) = vp_cell c (K, Sum.inl (fun _ => 0)) := fun c => by
    show ({ cls := c, slots := Array.replicate K (defaultValue .int), vm := .none } : Cell) = arrV c K (fun _ => defaultValue .int)
    rw [arrV_new]
  have hrow : ∀ j : Nat, j < N → F.heap[H.size + 1 + j]? = some (vp_cell (aC 0) (K, Sum.inl (fun _ => 0))) := fun j hj => by
    have := Jvm.Free.Multi.fill_inner (T.setVm vm₁) (aC 8) (aC 0) N K (defaultValue .int) N j hj
    rw [hF, hTh, hz] at this
    exact this
  have hout : Jvm.Free.Multi.outerC (aC 8) N H.size N = vp_cell (aC 8) (N, .inr (.inr (.inr (.inr (fun i => if i < N then some (H.size + 1 + i) else none))))) := by
    rw [vp_cell_q]
    exact mna_outer (aC 8) N H.size N
  rw [hout] at f2
  have hI1 : IN D aC b base (w ++ mnaT 8 w.length N (aI 0 K (fun _ => 0))) F.heap := by
    refine hI.many (by rw [f1, hle]; omega) (fun i c hi => ?_) hold
    cases i with
    | zero =>
      cases hi
      show F.heap[base + (w.length + 0)]? = some (vp_cell (aC 8) (N, .inr (.inr (.inr (.inr (fun j => (if j < N then some (w.length + 1 + j) else none).map (fun i => base + i)))))))
      rw [Nat.add_zero, ← hb1, f2]
      congr 2
      refine congrArg (fun z => (N, Sum.inr (Sum.inr (Sum.inr (Sum.inr z))))) (funext fun j => ?_)
      by_cases hj : j < N
      · rw [if_pos hj, if_pos hj, hb1]
        show some (base + w.length + 1 + j) = some (base + (w.length + 1 + j))
        congr 1
        omega
      · rw [if_neg hj, if_neg hj]
        rfl
    | succ i =>
      have hi2 : (List.replicate N (aI 0 K (fun _ => 0) : Ce))[i]? = some c := hi
      rw [List.getElem?_replicate] at hi2
      split at hi2
      · rename_i hiN
        cases hi2
        show F.heap[base + (w.length + (i + 1))]? = some (vp_cell (aC 0) (K, Sum.inl (fun _ => 0)))
        rw [show base + (w.length + (i + 1)) = H.size + 1 + i by omega]
        exact hrow i hiN
      · cases hi2
  have hS1 : va_S (Inn base) s.heap F.heap locs := ⟨by rw [f1]; have := hS.1; omega, fun x h1 h2 => (hold x (Nat.lt_of_lt_of_le h1 hS.1)).trans (hS.2.1 x h1 h2), hS.2.2⟩
  obtain ⟨t, a1, b1⟩ := kk _ F.heap locs hl hI1 hS1 F rfl X'
  refine ⟨t, step t ?_, b1⟩
  have e : T.heap.size = base + w.length := by rw [hT]; exact hb1
  rw [e]
  exact a1

