/-! System.arraycopy over rows of longs and of ints -/
theorem nw_arraycopy : nativeFrameWords "java/lang/System" "arraycopy" 5 + 11 ≤ 31 := by decide +kernel
section LGg
variable {nm own : String} {cc : ByteArray} {nL : Nat} {ret : Option FieldType} {d lo : Nat} {sc : Option (Nat × (Nat → Int32))} {w0 : Wd} {Post : Option Value → Wd → Prop} {w : Wd} {pc : Nat} {ls ls' : List (Nat × Value)} {st : List Value}
theorem g_copyL {idx o0 o1 n0 n1 sp dp n : Nat} {f g : Nat → Int64} (hd : decode cc pc = .ok (.invokestatic idx, 3)) (hlk : Cond.methodLink own idx arraycopyName ∈ gT) (hnat : Cond.native arraycopyName ∈ gT) (hsta : Cond.static arraycopyName ∈ gT) (hini : Cond.initialized "java/lang/System" ∈ gT) (h0 : w[o0]? = some (aL n0 f)) (h1 : w[o1]? = some (aL n1 g)) (hs : sp + n ≤ n0) (ht : dp + n ≤ n1) (hn0 : n0 < 2147483648) (hn1 : n1 < 2147483648) (hcat : (st.map fun v => v.category).sum ≤ 8) (hdep : 1 ≤ d) (hlo : 39 ≤ lo)
    (kk : GP nm own cc nL ret d lo sc w0 Post (w.set o1 (aL n1 (va_cpy f g sp dp n))) (pc + 3) ls st) : GP nm own cc nL ret d lo sc w0 Post w pc ls (.int (nI n) :: .int (nI dp) :: .ref o1 :: .int (nI sp) :: .ref o0 :: st) := by
  refine GP.go ⟨by rw [List.length_set]; exact Nat.le_refl _, by rw [slW_set (c' := aL n1 (va_cpy f g sp dp n)) h1 rfl]; exact Nat.le_refl _⟩ kk fun {l} {p} {e} {R} {s} {m} {args} {below} {meth} {c} {D} {aC} {b} {base} {Q} {lsA} {H} {locs} hC hdR hloR _ _ hw0 _ hl hI hS kk => ?_
  obtain ⟨hx, hb, hml, ho, hts, -, -, -, hK, hKx, hbb, hsz, -⟩ := hC
  rw [List.length_set, slW_set (c' := aL n1 (va_cpy f g sp dp n)) h1 rfl] at kk
  have nn : ∀ z : Nat, z < 2147483648 → ¬ nI z < 0 := fun z hz => nI_pos hz
  have nc : ∀ z : Nat, z < 2147483648 → (nI z).toNatClampNeg = z := fun z hz => nI_clamp hz
  refine va_copyl (sp := nI sp) (dp := nI dp) (n := nI n) (a0 := base + o0) (a := base + o1) hx hb (by rw [hml]; exact hl.1.symm) ho (hts _ hlk) (hts _ hnat) (hts _ hsta) (hts _ hini) hK hI.2 cvW_D hS o0 o1 1 1 (cvW_get h0) (cvW_get h1) rfl rfl rfl (nn sp (by omega)) (nn dp (by omega)) (nn n (by omega)) (by rw [nc sp (by omega), nc n (by omega)]; exact hs) (by rw [nc dp (by omega), nc n (by omega)]; exact ht) (fun _ _ => rfl) (Nat.le_trans hdep hdR) (by have := nw_arraycopy; rw [cat_map]; omega) hd fun H1 locs1 hP1 hD1 hS1 => ?_
  rw [nc sp (by omega), nc dp (by omega), nc n (by omega)] at hP1
  intro T hT X
  have hz : H1.size = base + w.length := by
    have g1 : T.heap.size ≤ s.heap.size + (w.length - w0.length) := X.heapSize
    rw [hT, hsz] at g1
    have g2 : ∀ i, i < w.length → base + i < H1.size := fun i hi => by
      obtain ⟨c9, hc9⟩ : ∃ c9, ((cvW aC b base w).set o1 (base + o1, .inl (aC 1, n1, .inr (.inl (va_cpy f g sp dp n)))))[i]? = some (base + i, c9) := by
        by_cases hio : o1 = i
        · subst hio
          exact ⟨_, by rw [List.getElem?_set_self (by simp [cvW]; exact hi)]⟩
        · refine ⟨cvE aC b base w[i], ?_⟩
          rw [List.getElem?_set_ne hio]
          exact cvW_get (List.getElem?_eq_getElem hi)
      exact (hP1 i _ hc9).lt
    have g3 : base ≤ H1.size := by
      have := hS1.1
      omega
    rcases Nat.eq_zero_or_pos w.length with h9 | h9
    · omega
    · have := g2 (w.length - 1) (by omega)
      omega
  exact kk _ H1 locs1 hl ⟨by rw [List.length_set]; exact hz, by rw [cvW_set]; exact hP1⟩ hS1 T hT X
theorem g_copyI {idx o0 o1 n0 n1 sp dp n : Nat} {f g : Nat → Int32} (hd : decode cc pc = .ok (.invokestatic idx, 3)) (hlk : Cond.methodLink own idx arraycopyName ∈ gT) (hnat : Cond.native arraycopyName ∈ gT) (hsta : Cond.static arraycopyName ∈ gT) (hini : Cond.initialized "java/lang/System" ∈ gT) (h0 : w[o0]? = some (aI 0 n0 f)) (h1 : w[o1]? = some (aI 0 n1 g)) (hs : sp + n ≤ n0) (ht : dp + n ≤ n1) (hn0 : n0 < 2147483648) (hn1 : n1 < 2147483648) (hcat : (st.map fun v => v.category).sum ≤ 8) (hdep : 1 ≤ d) (hlo : 39 ≤ lo)
    (kk : GP nm own cc nL ret d lo sc w0 Post (w.set o1 (aI 0 n1 (va_cpy f g sp dp n))) (pc + 3) ls st) : GP nm own cc nL ret d lo sc w0 Post w pc ls (.int (nI n) :: .int (nI dp) :: .ref o1 :: .int (nI sp) :: .ref o0 :: st) := by
  refine GP.go ⟨by rw [List.length_set]; exact Nat.le_refl _, by rw [slW_set (c' := aI 0 n1 (va_cpy f g sp dp n)) h1 rfl]; exact Nat.le_refl _⟩ kk fun {l} {p} {e} {R} {s} {m} {args} {below} {meth} {c} {D} {aC} {b} {base} {Q} {lsA} {H} {locs} hC hdR hloR _ _ hw0 _ hl hI hS kk => ?_
  obtain ⟨hx, hb, hml, ho, hts, -, -, -, hK, hKx, hbb, hsz, -⟩ := hC
  rw [List.length_set, slW_set (c' := aI 0 n1 (va_cpy f g sp dp n)) h1 rfl] at kk
  have nn : ∀ z : Nat, z < 2147483648 → ¬ nI z < 0 := fun z hz => nI_pos hz
  have nc : ∀ z : Nat, z < 2147483648 → (nI z).toNatClampNeg = z := fun z hz => nI_clamp hz
  refine va_copyi (sp := nI sp) (dp := nI dp) (n := nI n) (a0 := base + o0) (a := base + o1) hx hb (by rw [hml]; exact hl.1.symm) ho (hts _ hlk) (hts _ hnat) (hts _ hsta) (hts _ hini) hK hI.2 cvW_D hS o0 o1 0 0 (cvW_get h0) (cvW_get h1) rfl rfl rfl (nn sp (by omega)) (nn dp (by omega)) (nn n (by omega)) (by rw [nc sp (by omega), nc n (by omega)]; exact hs) (by rw [nc dp (by omega), nc n (by omega)]; exact ht) (fun _ _ => rfl) (Nat.le_trans hdep hdR) (by have := nw_arraycopy; rw [cat_map]; omega) hd fun H1 locs1 hP1 hD1 hS1 => ?_
  rw [nc sp (by omega), nc dp (by omega), nc n (by omega)] at hP1
  intro T hT X
  have hz : H1.size = base + w.length := by
    have g1 : T.heap.size ≤ s.heap.size + (w.length - w0.length) := X.heapSize
    rw [hT, hsz] at g1
    have g2 : ∀ i, i < w.length → base + i < H1.size := fun i hi => by
      obtain ⟨c9, hc9⟩ : ∃ c9, ((cvW aC b base w).set o1 (base + o1, .inl (aC 0, n1, .inl (va_cpy f g sp dp n))))[i]? = some (base + i, c9) := by
        by_cases hio : o1 = i
        · subst hio
          exact ⟨_, by rw [List.getElem?_set_self (by simp [cvW]; exact hi)]⟩
        · refine ⟨cvE aC b base w[i], ?_⟩
          rw [List.getElem?_set_ne hio]
          exact cvW_get (List.getElem?_eq_getElem hi)
      exact (hP1 i _ hc9).lt
    have g3 : base ≤ H1.size := by
      have := hS1.1
      omega
    rcases Nat.eq_zero_or_pos w.length with h9 | h9
    · omega
    · have := g2 (w.length - 1) (by omega)
      omega
  exact kk _ H1 locs1 hl ⟨by rw [List.length_set]; exact hz, by rw [cvW_set]; exact hP1⟩ hS1 T hT X
end LGg
