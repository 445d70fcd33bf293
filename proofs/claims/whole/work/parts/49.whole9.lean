/-! Whole numbers by their values alone: the object lies at o, its digits behind it -/
def whC (w : Wd) (o N : Nat) : Prop := ∃ n ds, w[o]? = some (oW (o + 1) n) ∧ w[o + 1]? = some (aL N ds)
def whV (w : Wd) (o N : Nat) (v : Int) : Prop := ∃ n ds, w[o]? = some (oW (o + 1) n) ∧ w[o + 1]? = some (aL N ds) ∧ n ≤ N ∧ wf ds n ∧ vl ds n = v
def wS (o i : Nat) : Prop := i = o ∨ i = o + 1
theorem whV.c {w : Wd} {o N : Nat} {v : Int} (h : whV w o N v) : whC w o N := by
  obtain ⟨n, ds, h1, h2, -⟩ := h
  exact ⟨n, ds, h1, h2⟩
theorem whV.fr {S : Nat → Prop} {w w' : Wd} {o N : Nat} {v : Int} (h : whV w o N v) (hF : FR S w w') (h1 : ¬ S o) (h2 : ¬ S (o + 1)) : whV w' o N v := by
  obtain ⟨n, ds, a, b, c⟩ := h
  exact ⟨n, ds, hF.lk h1 a, hF.lk h2 b, c⟩
theorem whC.fr {S : Nat → Prop} {w w' : Wd} {o N : Nat} (h : whC w o N) (hF : FR S w w') (h1 : ¬ S o) (h2 : ¬ S (o + 1)) : whC w' o N := by
  obtain ⟨n, ds, a, b⟩ := h
  exact ⟨n, ds, hF.lk h1 a, hF.lk h2 b⟩
theorem wh_fin {w : Wd} {o N n n' : Nat} {ds ds' : Nat → Int64} {v : Int} (ho : w[o]? = some (oW (o + 1) n)) (ha : w[o + 1]? = some (aL N ds)) (hn : n' ≤ N) (hw : wf ds' n') (hv : vl ds' n' = v) : whV ((w.set o (oW (o + 1) n')).set (o + 1) (aL N ds')) o N v ∧ FR (wS o) w ((w.set o (oW (o + 1) n')).set (o + 1) (aL N ds')) := by
  have h1 : (w.set o (oW (o + 1) n'))[o + 1]? = some (aL N ds) := lk_ne (by omega) ha
  refine ⟨⟨n', ds', lk_ne (by omega) (lk_eq ho), lk_eq h1, hn, hw, hv⟩, ?_⟩
  exact (FR.set (c' := oW (o + 1) n') ho rfl (Or.inl rfl)).tr (FR.set (c' := aL N ds') h1 rfl (Or.inr rfl))
theorem wh_lim {ds : Nat → Int64} {n k : Nat} (h : wf ds n) (hv : vl ds n < 268435456 ^ k) : n ≤ k := by
  by_cases hk : n ≤ k
  · exact hk
  · exfalso
    have h1 := vl_ge h (by omega)
    have h3 := ipow_le (show k ≤ n - 1 by omega)
    omega
theorem whV.nn {w : Wd} {o N : Nat} {v : Int} (h : whV w o N v) : 0 ≤ v := by
  obtain ⟨n, ds, -, -, -, h1, rfl⟩ := h
  exact vl_nn (fun j hj => (h1.1 j hj).1)
theorem wh_small (w : Wd) {o N x : Nat} (h : whC w o N) (hN : N < 2147483648) (h1 : 1 ≤ N) (hx : x < 268435456) : EX10_setSmall [.ref o, .int (nI x)] w (fun r w' => r = none ∧ whV w' o N x ∧ FR (wS o) w w') := by
  obtain ⟨n, ds, ho, ha⟩ := h
  refine EP.mono (sp_setSmall w o (o + 1) N n x ds ho ha (by omega) hN h1 hx) ?_
  rintro r wf ⟨rfl, ds', n', g1, g2, g3, rfl⟩
  exact ⟨rfl, wh_fin ho ha (by omega) g1 g2⟩
theorem wh_square (w : Wd) {o p N M k : Nat} {v : Int} (h : whC w o N) (hp : whV w p M v) (hop : o + 1 < p ∨ p + 1 < o) (hN : N < 2147483648) (hM : M < 2147483648) (hv : v < 268435456 ^ k) (hk : k ≤ 64) (hkN : 2 * k ≤ N) : EX10_setSquare [.ref o, .ref p] w (fun r w' => r = none ∧ whV w' o N (v * v) ∧ FR (wS o) w w') := by
  obtain ⟨n, ds, ho, ha⟩ := h
  obtain ⟨m, es, hp, hb, hm, he, rfl⟩ := hp
  have hmk := wh_lim he hv
  refine EP.mono (sp_setSquare w ho ha hp hb (by omega) (by omega) (by omega) hN hM hm (by omega) (by omega) he.1) ?_
  rintro r wf ⟨rfl, ds', n', g1, g2, g3, rfl⟩
  exact ⟨rfl, wh_fin ho ha (by omega) g1 g2⟩
theorem wh_product (w : Wd) {o p q N M K k l : Nat} {v u : Int} (h : whC w o N) (hp : whV w p M v) (hq : whV w q K u) (hop : o + 1 < p ∨ p + 1 < o) (hoq : o + 1 < q ∨ q + 1 < o) (hN : N < 2147483648) (hM : M < 2147483648) (hK : K < 2147483648) (hv : v < 268435456 ^ k) (hu : u < 268435456 ^ l) (hk : k ≤ 100) (hkN : k + l ≤ N) : EX10_setProduct [.ref o, .ref p, .ref q] w (fun r w' => r = none ∧ whV w' o N (v * u) ∧ FR (wS o) w w') := by
  obtain ⟨n, ds, ho, ha⟩ := h
  obtain ⟨m, es, hp, hb, hm, he, rfl⟩ := hp
  obtain ⟨m2, fs, hq, hc, hm2, hf, rfl⟩ := hq
  have hmk := wh_lim he hv
  have hmk2 := wh_lim hf hu
  refine EP.mono (sp_setProduct w ho ha hp hb hq hc (by omega) (by omega) (by omega) (by omega) (by omega) hN hM hK hm hm2 (by omega) (by omega) he.1 hf.1) ?_
  rintro r wf ⟨rfl, ds', n', g1, g2, g3, rfl⟩
  exact ⟨rfl, wh_fin ho ha (by omega) g1 g2⟩
theorem wh_divide (w : Wd) {o N dv : Nat} {v : Int} (h : whV w o N v) (hN : N < 2147483648) (h0 : 0 < dv) (h1 : dv < 268435456) : EX10_divide [.ref o, .int (nI dv)] w (fun r w' => r = none ∧ whV w' o N (v / dv) ∧ FR (wS o) w w') := by
  obtain ⟨n, ds, ho, ha, hn, hd, rfl⟩ := h
  refine EP.mono (sp_divide w ho ha (by omega) hN hn hd.1 h0 h1) ?_
  rintro r wf ⟨rfl, ds', n', g1, g2, g3, rfl⟩
  exact ⟨rfl, wh_fin ho ha (by omega) g1 g2⟩
theorem wh_lessOne (w : Wd) {o N : Nat} {v : Int} (h : whV w o N v) (hN : N < 2147483648) (h0 : 0 < v) : EX10_lessOne [.ref o] w (fun r w' => r = none ∧ whV w' o N (v - 1) ∧ FR (wS o) w w') := by
  obtain ⟨n, ds, ho, ha, hn, hd, rfl⟩ := h
  have hn0 : 0 < n := by
    rcases Nat.eq_zero_or_pos n with e | e
    · subst e
      exact absurd h0 (by show ¬ (0 : Int) < 0; decide)
    · exact e
  refine EP.mono (sp_lessOne w ho ha (by omega) hN hn hd hn0) ?_
  rintro r wf ⟨rfl, ds', n', g1, g2, g3, rfl⟩
  exact ⟨rfl, wh_fin ho ha (by omega) g1 g2⟩
theorem wh_isAbove (w : Wd) {o p N M : Nat} {v u : Int} (h : whV w o N v) (hp : whV w p M u) (hN : N < 2147483648) (hM : M < 2147483648) : EX10_isAbove [.ref o, .ref p] w (fun r w' => (r = some (.int (nI 1)) ∧ u < v ∧ w' = w) ∨ (r = some (.int (nI 0)) ∧ ¬ u < v ∧ w' = w)) := by
  obtain ⟨n, ds, ho, ha, hn, hd, rfl⟩ := h
  obtain ⟨m, es, hp, hb, hm, he, rfl⟩ := hp
  refine EP.mono (sp_isAbove w ho ha hp hb hN hM hn hm hd he) ?_
  rintro r wf ⟨rfl, rfl⟩
  by_cases hc : vl es m < vl ds n
  · exact Or.inl ⟨by rw [if_pos hc]; rfl, hc, rfl⟩
  · exact Or.inr ⟨by rw [if_neg hc]; rfl, hc, rfl⟩
theorem wh_size (w : Wd) {o N : Nat} {x : Int64} (h : whC w o N) (hN : N < 2147483648) (h3 : 3 ≤ N) : EX10_setSize [.ref o, .long x] w (fun r w' => r = none ∧ whV w' o N (x.toUInt64.toNat : Int) ∧ FR (wS o) w w') := by
  obtain ⟨n, ds, ho, ha⟩ := h
  refine EP.mono (sp_setSize w o (o + 1) N n x ds ho ha (by omega) hN h3) ?_
  rintro r wf ⟨rfl, ds', n', g1, g2, g3, rfl⟩
  exact ⟨rfl, wh_fin ho ha (by omega) g1 g2⟩
theorem wh_squares (w : Wd) {o N q Q n : Nat} {g : Nat → Int64} (h : whC w o N) (hq : w[q]? = some (aL Q g)) (hoq : q ≠ o + 1) (hN : N < 2147483648) (hQ : Q < 2147483648) (h6 : 6 ≤ N) (hn : n < Q) (hn2 : n ≤ 12) : EX10_setSquares [.ref o, .ref q, .int (nI n)] w (fun r w' => r = none ∧ whV w' o N (sqs g (n + 1)) ∧ FR (wS o) w w') := by
  obtain ⟨m, ds, ho, ha⟩ := h
  refine EP.mono (sp_setSquares w ho ha hq (by omega) (Ne.symm hoq) hN hQ h6 hn hn2) ?_
  rintro r wf ⟨rfl, ds', n', g1, g2, g3, rfl⟩
  exact ⟨rfl, wh_fin ho ha (by omega) g1 g2⟩
theorem wf_same {f g : Nat → Int64} {n : Nat} (h : ∀ j, j < n → f j = g j) (hw : wf g n) : wf f n := by
  refine ⟨fun j hj => ?_, ?_⟩
  · rw [h j hj]
    exact hw.1 j hj
  · rcases hw.2 with e | e
    · exact Or.inl e
    · by_cases h0 : n = 0
      · exact Or.inl h0
      · exact Or.inr (by rw [h (n - 1) (by omega)]; exact e)
theorem wh_to (w : Wd) {o p N M k : Nat} {v : Int} (h : whC w o N) (hp : whV w p M v) (hop : o + 1 < p ∨ p + 1 < o) (hN : N < 2147483648) (hM : M < 2147483648) (hv : v < 268435456 ^ k) (hk : k ≤ N) : EX10_setTo [.ref o, .ref p] w (fun r w' => r = none ∧ whV w' o N v ∧ FR (wS o) w w') := by
  obtain ⟨n, ds, ho, ha⟩ := h
  obtain ⟨m, es, hp, hb, hm, he, rfl⟩ := hp
  have hmk := wh_lim he hv
  refine EP.mono (sp_setTo w o (o + 1) N n p (p + 1) M m ds es ho ha hp hb (by omega) (by omega) (by omega) (by omega) (by omega) hN hM (by omega) hm) ?_
  rintro r wf ⟨rfl, ds', rfl, g1⟩
  exact ⟨rfl, wh_fin ho ha (by omega) (wf_same g1 he) (vl_congr g1)⟩
