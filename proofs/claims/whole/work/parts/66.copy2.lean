/-! the clone of a row of ints, and the cast to its own class -/
section LGh
variable {nm own : String} {cc : ByteArray} {nL : Nat} {ret : Option FieldType} {d lo : Nat} {sc : Option (Nat × (Nat → Int32))} {w0 : Wd} {Post : Option Value → Wd → Prop} {w : Wd} {pc : Nat} {ls ls' : List (Nat × Value)} {st : List Value}
theorem g_clone {idx o n : Nat} {f : Nat → Int32} (hd : decode cc pc = .ok (.invokevirtual idx, 3)) (hlk : Cond.methodLink own idx ⟨"[I", "clone", "()Ljava/lang/Object;"⟩ ∈ gT) (h0 : w[o]? = some (aI 0 n f)) (hcat : (st.map fun v => v.category).sum ≤ 8) (hdep : 1 ≤ d) (hlo : 39 ≤ lo)
    (kk : GP nm own cc nL ret d lo sc w0 Post (w ++ [aI 0 n f]) (pc + 3) ls (.ref w.length :: st)) : GP nm own cc nL ret d lo sc w0 Post w pc ls (.ref o :: st) := by
  refine GP.go ⟨by simp, by rw [slW_app]; exact Nat.le_add_right _ _⟩ kk fun {l} {p} {e} {R} {s} {m} {args} {below} {meth} {c} {D} {aC} {b} {base} {Q} {lsA} {H} {locs} hC hdR hloR hcl hs2 hw0 hw1 hl hI hS kk => ?_
  obtain ⟨hx, hb, hml, ho, hts, -, -, -, hK, hKx, hbb, hsz, -⟩ := hC
  have e1 : (w ++ [aI 0 n f]).length - w0.length = w.length - w0.length + 1 := by simp; omega
  have e2 : slW (w ++ [aI 0 n f]) - slW w0 = slW w - slW w0 + n := by rw [slW_app]; show slW w + n - slW w0 = _; omega
  rw [e1, e2] at kk
  rw [e1] at hcl
  rw [e2] at hs2
  have hcI : s.vm.findClass "[I" = some (aC 0) := (hK.2 0 _ rfl).2
  refine va_clone (ad := "[I") (a := base + o) (ty := .int) hx hb (by rw [hml]; exact hl.1.symm) ho (hts _ hlk) (hts _ tw_803) (hts _ tw_804) (hts _ tw_805) (hts _ tw_806) hKx.2.2.2.2.2.2.1 hK hI.2 cvW_D hS (fun q hq => by show base ≤ q; omega) o 0 (cvW_get h0) rfl hcI (fun i v hv => ?_) (Nat.le_trans hdep hdR) (by rw [cat_map]; omega) hcl hs2 hd fun q H1 hK1 hP1 hD1 hS1 => ?_
  · have hv2 : (Array.ofFn (n := n) fun j => Value.int (f j.1))[i]? = some v := hv
    rw [Array.getElem?_ofFn] at hv2
    split at hv2
    · cases hv2; rfl
    · cases hv2
  · intro T hT X
    have g1 : T.heap.size ≤ s.heap.size + (w.length - w0.length + 1) := X.heapSize
    rw [hT, hsz] at g1
    have hlw : (cvW aC b base w).length = w.length := by simp [cvW]
    have hq1 : (cvW aC b base w ++ [(q, Sum.inl (aC 0, n, Sum.inl f))])[w.length]? = some (q, Sum.inl (aC 0, n, Sum.inl f)) := by
      rw [List.getElem?_append_right (by omega), hlw, Nat.sub_self]
      rfl
    have hq2 : q < H1.size := (hP1 w.length _ hq1).lt
    have hq3 : base ≤ q := hD1.2 w.length _ hq1
    have hq4 : q = base + w.length := by
      rcases Nat.lt_or_ge q (base + w.length) with h9 | h9
      · exfalso
        have hi : q - base < w.length := by omega
        have h8 : (cvW aC b base w ++ [(q, Sum.inl (aC 0, n, Sum.inl f))])[q - base]? = some (base + (q - base), cvE aC b base w[q - base]) := by
          rw [List.getElem?_append_left (by omega)]
          exact cvW_get (List.getElem?_eq_getElem hi)
        have := hD1.1 (q - base) w.length _ _ h8 hq1 (by show base + (q - base) = q; omega)
        omega
      · omega
    subst hq4
    have hz : H1.size = base + (w ++ [aI 0 n f]).length := by
      rw [List.length_append]
      show _ = base + (w.length + 1)
      omega
    exact kk _ H1 locs hl ⟨hz, by rw [cvW_app]; exact hP1⟩ hS1 T hT X
theorem g_castI {idx o n : Nat} {f : Nat → Int32} (hd : decode cc pc = .ok (.checkcast idx, 3)) (hlk : Cond.classLink own idx "[I" ∈ gT) (h0 : w[o]? = some (aI 0 n f)) (kk : GP nm own cc nL ret d lo sc w0 Post w (pc + 3) ls (.ref o :: st)) : GP nm own cc nL ret d lo sc w0 Post w pc ls (.ref o :: st) := by
  refine GP.go ⟨Nat.le_refl _, Nat.le_refl _⟩ kk fun {l} {p} {e} {R} {s} {m} {args} {below} {meth} {c} {D} {aC} {b} {base} {Q} {lsA} {H} {locs} hC hdR hloR hcl hs2 hw0 hw1 hl hI hS kk => ?_
  obtain ⟨hx, hb, hml, ho, hts, -, -, -, hK, hKx, hbb, hsz, -⟩ := hC
  have hcI : s.vm.findClass "[I" = some (aC 0) := (hK.2 0 _ rfl).2
  exact va_castA (a := base + o) hx hb ho (hts _ hlk) hI.2 o (cvW_get h0) hcI hd (kk _ _ _ hl hI hS)
end LGh
