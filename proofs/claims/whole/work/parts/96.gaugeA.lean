/-! Gauge: its constructor, the loops -/
theorem bin_z : ∀ {n k : Nat}, n < k → binI n k = 0
  | 0, k + 1, _ => rfl
  | n + 1, k + 1, h => by
    show binI n k + binI n (k + 1) = 0
    rw [bin_z (by omega), bin_z (by omega)]
theorem bin_0 {n : Nat} : binI n 0 = 1 := by cases n <;> rfl
/-- rows before n are done, row n up to k, the others empty -/
def wayI (w : Wd) (o n k : Nat) : Prop := ∀ m, m < 13 → ∃ y, w[o + 3 + m]? = some (aI 0 13 y) ∧ ∀ i, i < 13 → y i = if m < n ∨ (m = n ∧ i < k) then nI (binI m i) else 0
theorem wayI.set {w : Wd} {o n k : Nat} {y : Nat → Int32} (h : wayI w o n k) (hn : n < 13) (hk : k < 13) (hy : w[o + 3 + n]? = some (aI 0 13 y)) : wayI (w.set (o + 3 + n) (aI 0 13 (upd y k (nI (binI n k))))) o n (k + 1) := by
  intro m hm
  obtain ⟨z, h1, h2⟩ := h m hm
  by_cases e : m = n
  · subst e
    have e9 : z = y := by
      have := h1.symm.trans hy
      simpa using this
    subst e9
    refine ⟨_, lk_eq hy, fun i hi => ?_⟩
    by_cases e2 : i = k
    · subst e2
      rw [upd_s, if_pos (Or.inr ⟨rfl, by omega⟩)]
    · rw [upd_n e2, h2 i hi]
      by_cases e3 : i < k
      · rw [if_pos (Or.inr ⟨rfl, e3⟩), if_pos (Or.inr ⟨rfl, by omega⟩)]
      · rw [if_neg (by omega), if_neg (by omega)]
  · refine ⟨z, lk_ne (by omega) h1, fun i hi => ?_⟩
    rw [h2 i hi]
    by_cases e3 : m < n
    · rw [if_pos (Or.inl e3), if_pos (Or.inl e3)]
    · rw [if_neg (by omega), if_neg (by omega)]
theorem wayI.nxt {w : Wd} {o n : Nat} (h : wayI w o n (n + 1)) : wayI w o (n + 1) 0 := by
  intro m hm
  obtain ⟨z, h1, h2⟩ := h m hm
  refine ⟨z, h1, fun i hi => ?_⟩
  rw [h2 i hi]
  by_cases e : m = n
  · subst e
    by_cases e2 : i < m + 1
    · rw [if_pos (Or.inr ⟨rfl, e2⟩), if_pos (Or.inl (by omega))]
    · rw [if_neg (by omega), if_pos (Or.inl (by omega)), bin_z (by omega)]
      rfl
  · by_cases e3 : m < n
    · rw [if_pos (Or.inl e3), if_pos (Or.inl (by omega))]
    · rw [if_neg (by omega), if_neg (by omega)]
theorem wayI.fr {w w1 : Wd} {o n k : Nat} (h : wayI w o n k) (hF : ∀ i c, o + 3 ≤ i → i ≤ o + 15 → w[i]? = some c → w1[i]? = some c) : wayI w1 o n k := by
  intro m hm
  obtain ⟨z, h1, h2⟩ := h m hm
  exact ⟨z, hF _ _ (by omega) (by omega) h1, h2⟩
/-- all but the ways -/
def gauR (w : Wd) (G : Nat) : Prop := thoC w G ∧ (∃ yf, w[G + 2]? = some (aR 8 13 yf) ∧ ∀ n, n < 13 → yf n = some (G + 3 + n)) ∧ whC w (G + 16) 8 ∧ whC w (G + 18) 64 ∧ whC w (G + 20) 128 ∧ whC w (G + 22) 128
theorem gauR.set {w : Wd} {G m : Nat} {c' : Ce} (h : gauR w G) (hm : m < 13) : gauR (w.set (G + 3 + m) c') G := by
  obtain ⟨⟨⟨tf, a1, a2⟩, a3⟩, ⟨yf, b1, b2⟩, c1, c2, c3, c4⟩ := h
  have L : ∀ i c, (i < G + 3 ∨ G + 15 < i) → w[i]? = some c → (w.set (G + 3 + m) c')[i]? = some c := fun i c a b => lk_ne (by omega) b
  have LC : ∀ i N, G + 15 < i → whC w i N → whC (w.set (G + 3 + m) c') i N := fun i N a b => by
    obtain ⟨n, ds, p1, p2⟩ := b
    exact ⟨n, ds, L _ _ (by omega) p1, L _ _ (by omega) p2⟩
  refine ⟨⟨⟨tf, L _ _ (by omega) a1, a2⟩, fun s hs => ?_⟩, ⟨yf, L _ _ (by omega) b1, b2⟩, LC _ _ (by omega) c1, LC _ _ (by omega) c2, LC _ _ (by omega) c3, LC _ _ (by omega) c4⟩
  obtain ⟨N, hN, n, ds, p1, p2, p3, p4, p5⟩ := a3 s hs
  exact ⟨N, hN, n, ds, L _ _ (by omega) p1, L _ _ (by omega) p2, p3, p4, p5⟩
abbrev BX2_init (w0 : Wd) (Post : Option Value → Wd → Prop) (w : Wd) (pc : Nat) (ls : List (Nat × Value)) (st : List Value) : Prop := GP "<init>" RX2 cX2_init 4 none 3 117 none w0 Post w pc ls st
abbrev EX2_init (As : List Value) (w : Wd) (Post : Option Value → Wd → Prop) : Prop := EP yX2_init cX2_init 4 none 3 As w Post
theorem gw_in {w0 w : Wd} {o n : Nat} {Q : Option Value → Wd → Prop} (ho : o + 1 = w.length) (hn : n < 13) (K : ∀ w2 : Wd, w2.length = o + 40 → EX (fun i => i = o) 39 900 w w2 → w2[o]? = some (oG o (nI 0) (nI 0)) → gauR w2 o → wayI w2 o n (n + 1) → BX2_init w0 Q w2 218 [(2, .int (nI n)), (0, .ref o)] []) : ∀ (z k : Nat) (w1 : Wd), n + 1 = k + z → 1 ≤ k → w1.length = o + 40 → EX (fun i => i = o) 39 900 w w1 → w1[o]? = some (oG o (nI 0) (nI 0)) → gauR w1 o → wayI w1 o n k → BX2_init w0 Q w1 176 [(3, .int (nI k)), (2, .int (nI n)), (0, .ref o)] [] := by
  intro z
  induction z with
  | zero =>
    intro k w1 hz hk hl hE hH hR hI
    refine g_iload_n (pc := 176) 0 dX2_init_176 rfl rfl ?_
    refine g_iload_n (pc := 177) 1 dX2_init_177 rfl rfl ?_
    refine n_icmp_gt (pc := 178) 218 dX2_init_178 (by decide) (by omega) (by omega) (fun hb9 => ?_) (fun hb9 => ?_)
    · have e9 : k = n + 1 := by omega
      subst e9
      exact GP.lsub _ (by simp) (K w1 hl hE hH hR hI)
    · exact absurd hb9 (by omega)
  | succ z ih =>
    intro k w1 hz hk hl hE hH hR hI
    have hR9 := hR
    obtain ⟨hT, ⟨yf, hy1, hy2⟩, hW⟩ := hR9
    obtain ⟨y, hr, hv⟩ := hI n hn
    obtain ⟨n9, e9⟩ : ∃ n9, n = n9 + 1 := ⟨n - 1, by omega⟩
    obtain ⟨y2, hr2, hv2⟩ := hI n9 (by omega)
    refine g_iload_n (pc := 176) 0 dX2_init_176 rfl rfl ?_
    refine g_iload_n (pc := 177) 1 dX2_init_177 rfl rfl ?_
    refine n_icmp_gt (pc := 178) 218 dX2_init_178 (by decide) (by omega) (by omega) (fun hb9 => ?_) (fun hb9 => ?_)
    · exact absurd hb9 (by omega)
    · refine g_aload_n (pc := 181) 2 dX2_init_181 rfl rfl ?_
      refine g_get (pc := 182) dX2_init_182 fk_X2_19 hH rfl ?_
      refine g_iload_n (pc := 185) 1 dX2_init_185 rfl rfl ?_
      refine g_aald (pc := 186) (v := .ref (o + 3 + n)) n dX2_init_186 hy1 (by decide) (IXn (by omega) (by omega)) (show rfV (yf n) = .ref (o + 3 + n) from by rw [hy2 n (by omega)]; rfl) ?_
      refine g_iload_n (pc := 187) 0 dX2_init_187 rfl rfl ?_
      refine g_aload_n (pc := 188) 2 dX2_init_188 rfl rfl ?_
      refine g_get (pc := 189) dX2_init_189 fk_X2_19 hH rfl ?_
      refine g_iload_n (pc := 192) 1 dX2_init_192 rfl rfl ?_
      refine g_iconst (pc := 193) (v := nI 1) dX2_init_193 (by decide) ?_
      refine n_isub (pc := 194) dX2_init_194 (by omega) ?_
      refine g_aald (pc := 195) (v := .ref (o + 3 + n9)) (n - 1) dX2_init_195 hy1 (by decide) (IXn (by omega) (by omega)) (show rfV (yf (n - 1)) = .ref (o + 3 + n9) from by rw [show n - 1 = n9 by omega, hy2 n9 (by omega)]; rfl) ?_
      refine g_iload_n (pc := 196) 0 dX2_init_196 rfl rfl ?_
      refine g_iconst (pc := 197) (v := nI 1) dX2_init_197 (by decide) ?_
      refine n_isub (pc := 198) dX2_init_198 (by omega) ?_
      refine g_iald (pc := 199) (k - 1) dX2_init_199 hr2 (IXn (by omega) (by omega)) ?_
      refine g_aload_n (pc := 200) 2 dX2_init_200 rfl rfl ?_
      refine g_get (pc := 201) dX2_init_201 fk_X2_19 hH rfl ?_
      refine g_iload_n (pc := 204) 1 dX2_init_204 rfl rfl ?_
      refine g_iconst (pc := 205) (v := nI 1) dX2_init_205 (by decide) ?_
      refine n_isub (pc := 206) dX2_init_206 (by omega) ?_
      refine g_aald (pc := 207) (v := .ref (o + 3 + n9)) (n - 1) dX2_init_207 hy1 (by decide) (IXn (by omega) (by omega)) (show rfV (yf (n - 1)) = .ref (o + 3 + n9) from by rw [show n - 1 = n9 by omega, hy2 n9 (by omega)]; rfl) ?_
      refine g_iload_n (pc := 208) 0 dX2_init_208 rfl rfl ?_
      refine g_iald (pc := 209) k dX2_init_209 hr2 (IXn (by omega) (by omega)) ?_
      refine g_iadd (pc := 210) dX2_init_210 ?_
      refine GP.ti (nI (binI n k)) (show y2 (k - 1) + y2 k = nI (binI n k) from by rw [hv2 (k - 1) (by omega), hv2 k (by omega), if_pos (Or.inl (by omega)), if_pos (Or.inl (by omega)), nI_inc, e9, show k = k - 1 + 1 by omega]; rfl) ?_
      refine g_iast (pc := 211) k dX2_init_211 hr (IXn (by omega) (by omega)) ?_
      refine n_iinc (pc := 212) (c := 1) [(3, .int (nI (k + 1))), (2, .int (nI n)), (0, .ref o)] 0 dX2_init_212 rfl (by decide) (by decide) rfl ?_
      refine g_goto (pc := 215) 176 dX2_init_215 (by decide) ?_
      obtain ⟨w2, hw2⟩ : ∃ w9 : Wd, w9 = (w1.set (o + 3 + n) (aI 0 13 (upd y k (nI (binI n k))))) := ⟨_, rfl⟩
      refine GP.weq w2 hw2.symm ?_
      exact GP.lsub _ (by simp) (ih (k + 1) w2 (by omega) (by omega) (by rw [hw2, List.length_set]; exact hl) (by rw [hw2]; exact hE.stp hr rfl (Or.inr (by omega))) (by rw [hw2]; exact lk_ne (by omega) hH) (by rw [hw2]; exact hR.set hn) (by rw [hw2]; exact hI.set hn (by omega) hr))
theorem gw_out {w0 w : Wd} {o : Nat} (ho : o + 1 = w.length) : ∀ (z n : Nat) (w1 : Wd), 13 = n + z → w1.length = o + 40 → EX (fun i => i = o) 39 900 w w1 → w1[o]? = some (oG o (nI 0) (nI 0)) → gauR w1 o → wayI w1 o n 0 → BX2_init w0 (fun r w' => r = none ∧ w'.length = o + 40 ∧ EX (fun i => i = o) 39 900 w w' ∧ gauC w' o (nI 0) (nI 0)) w1 159 [(2, .int (nI n)), (0, .ref o)] [] := by
  intro z
  induction z with
  | zero =>
    intro n w1 hz hl hE hH hR hI
    refine g_iload_n (pc := 159) 0 dX2_init_159 rfl rfl ?_
    refine g_bipush (pc := 160) (v := nI 13) dX2_init_160 (by decide) ?_
    refine n_icmp_ge (pc := 162) 224 dX2_init_162 (by decide) (by omega) (by omega) (fun hb9 => ?_) (fun hb9 => ?_)
    · have hR9 := hR
      obtain ⟨hT, ⟨yf, hy1, hy2⟩, hW⟩ := hR9
      exact g_vret (pc := 224) dX2_init_224 ⟨rfl, hl, hE, hH, hT, ⟨⟨yf, hy1, hy2⟩, fun m hm => by obtain ⟨y, a, b⟩ := hI m hm; exact ⟨y, a, fun i hi => by rw [b i (by omega), if_pos (Or.inl (by omega))]⟩⟩, hW⟩
    · exact absurd hb9 (by omega)
  | succ z ih =>
    intro n w1 hz hl hE hH hR hI
    have hR9 := hR
    obtain ⟨hT, ⟨yf, hy1, hy2⟩, hW⟩ := hR9
    obtain ⟨y, hr, hv⟩ := hI n (by omega)
    refine g_iload_n (pc := 159) 0 dX2_init_159 rfl rfl ?_
    refine g_bipush (pc := 160) (v := nI 13) dX2_init_160 (by decide) ?_
    refine n_icmp_ge (pc := 162) 224 dX2_init_162 (by decide) (by omega) (by omega) (fun hb9 => ?_) (fun hb9 => ?_)
    · exact absurd hb9 (by omega)
    · refine g_aload_n (pc := 165) 1 dX2_init_165 rfl rfl ?_
      refine g_get (pc := 166) dX2_init_166 fk_X2_19 hH rfl ?_
      refine g_iload_n (pc := 169) 0 dX2_init_169 rfl rfl ?_
      refine g_aald (pc := 170) (v := .ref (o + 3 + n)) n dX2_init_170 hy1 (by decide) (IXn (by omega) (by omega)) (show rfV (yf n) = .ref (o + 3 + n) from by rw [hy2 n (by omega)]; rfl) ?_
      refine g_iconst (pc := 171) (v := nI 0) dX2_init_171 (by decide) ?_
      refine g_iconst (pc := 172) (v := nI 1) dX2_init_172 (by decide) ?_
      refine g_iast (pc := 173) 0 dX2_init_173 hr (IXn (by omega) (by omega)) ?_
      refine g_iconst (pc := 174) (v := nI 1) dX2_init_174 (by decide) ?_
      refine g_istore_n (pc := 175) [(3, .int (nI 1)), (2, .int (nI n)), (0, .ref o)] dX2_init_175 rfl (by decide) rfl ?_
      obtain ⟨w2, hw2⟩ : ∃ w9 : Wd, w9 = w1.set (o + 3 + n) (aI 0 13 (upd y 0 (nI (binI n 0)))) := ⟨_, rfl⟩
      refine GP.weq w2 (by rw [hw2, bin_0]; first | rfl | skip) ?_
      refine GP.lsub _ (by simp) (gw_in ho (show n < 13 by omega) (fun w3 al aE aH aR aI => ?_) n 1 w2 (by omega) (by omega) (by rw [hw2, List.length_set]; exact hl) (by rw [hw2]; exact hE.stp hr rfl (Or.inr (by omega))) (by rw [hw2]; exact lk_ne (by omega) hH) (by rw [hw2]; exact hR.set (by omega)) (by rw [hw2]; exact hI.set (by omega) (by omega) hr))
      refine n_iinc (pc := 218) (c := 1) [(2, .int (nI (n + 1))), (0, .ref o)] 0 dX2_init_218 rfl (by decide) (by decide) rfl ?_
      refine g_goto (pc := 221) 159 dX2_init_221 (by decide) ?_
      exact GP.lsub _ (by simp) (ih (n + 1) w3 (by omega) al aE aH aR aI.nxt)
