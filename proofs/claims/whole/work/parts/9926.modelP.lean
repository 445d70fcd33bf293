/-! the reference: divides -/
def divOm (q F g : Nat → Int) (n T : Nat) : Prop := (∀ j, j ≤ T → -1000000000000 ≤ q j ∧ q j ≤ 1000000000000) ∧ ∀ i, i ≤ T + n → g i = mulT q F n T (T + 1) i
theorem headm {q F g : Nat → Int} {n T c : Nat} (hc : c ≤ T) (h : divOm q F g n T) : g (c + n) - mulT q F n T (T - c) (c + n) = q c * F n := by
  have h1 := h.2 (c + n) (by omega)
  have h2 := mulT_stop (q := q) (F := F) (n := n) (T := T) (k := T - c + 1) (i := c + n) (by omega) c (by omega)
  rw [show T - c + 1 + c = T + 1 by omega] at h2
  rw [h2] at h1
  have h3 : mulT q F n T (T - c + 1) (c + n) = mulT q F n T (T - c) (c + n) + if T - (T - c) ≤ c + n ∧ c + n - (T - (T - c)) ≤ n then q (T - (T - c)) * F (c + n - (T - (T - c))) else 0 := rfl
  rw [show T - (T - c) = c by omega, if_pos (by omega), show c + n - c = n by omega] at h3
  omega
def dmI (F g : Nat → Int) (n T c : Nat) (cur qc : Nat → Int64) : Prop :=
  (∀ i, i ≤ T + n → (cur i).toInt = g i - mulT (toI qc) F n T (T + 1 - c) i) ∧
  (∀ i, T + n < i → i < 60 → cur i = 0) ∧
  (∀ j, c ≤ j → j ≤ T → -1000000000000 ≤ (qc j).toInt ∧ (qc j).toInt ≤ 1000000000000) ∧
  (∀ q, divOm q F g n T → ∀ j, c ≤ j → j ≤ T → q j = (qc j).toInt) ∧
  (∀ j, j < 60 → (j < c ∨ T < j) → qc j = 0) ∧
  (∀ i, i ≤ T + n → -(1000000000000 + (T + 1 - c : Nat) * 9999000000000000 : Int) ≤ (cur i).toInt ∧ (cur i).toInt ≤ 1000000000000 + (T + 1 - c : Nat) * 9999000000000000)
theorem dm_head {F g : Nat → Int} {n T c : Nat} {cur qc : Nat → Int64} (hc : c ≤ T) (h : dmI F g n T (c + 1) cur qc) {q : Nat → Int} (hq : divOm q F g n T) : (cur (c + n)).toInt = q c * F n := by
  rw [h.1 (c + n) (by omega), ← headm hc hq, show T + 1 - (c + 1) = T - c by omega]
  congr 1
  exact mulT_cong _ (by omega) (fun j h1 h2 => (h.2.2.2.1 q hq j (by omega) h2).symm)
theorem dm_step {F g : Nat → Int} {n T c : Nat} {cur cur' qc : Nat → Int64} {x : Int64} (hc : c ≤ T) (hT : T + n < 60) (hF : ∀ t, t ≤ n → -9999 ≤ F t ∧ F t ≤ 9999) (h0 : F n ≠ 0) (h : dmI F g n T (c + 1) cur qc) (hx : -1000000000000 ≤ x.toInt ∧ x.toInt ≤ 1000000000000) (hh : x.toInt * F n = (cur (c + n)).toInt) (hn : ∀ i, i < 60 → (cur' i).toInt = (cur i).toInt - if c ≤ i ∧ i - c < n + 1 then x.toInt * F (i - c) else 0) : dmI F g n T c cur' (vp_updL qc c x) := by
  have hkk : T + 1 - c = T - c + 1 := by omega
  have hk2 : T + 1 - (c + 1) = T - c := by omega
  have hcg : ∀ i, mulT (toI (vp_updL qc c x)) F n T (T - c) i = mulT (toI qc) F n T (T - c) i := fun i => mulT_cong _ (by omega) (fun j h1 h2 => by show (vp_updL qc c x j).toInt = _; rw [upL_n (by omega)]; rfl)
  have hst : ∀ i, mulT (toI (vp_updL qc c x)) F n T (T - c + 1) i = mulT (toI qc) F n T (T - c) i + if c ≤ i ∧ i - c < n + 1 then x.toInt * F (i - c) else 0 := fun i => by
    show mulT (toI (vp_updL qc c x)) F n T (T - c) i + (if T - (T - c) ≤ i ∧ i - (T - (T - c)) ≤ n then toI (vp_updL qc c x) (T - (T - c)) * F (i - (T - (T - c))) else 0) = _
    rw [hcg, show T - (T - c) = c by omega, show toI (vp_updL qc c x) c = x.toInt by show (vp_updL qc c x c).toInt = _; rw [upL_s]]
    by_cases e : c ≤ i ∧ i - c ≤ n
    · rw [if_pos e, if_pos (by omega)]
    · rw [if_neg e, if_neg (by omega)]
  have hh9 := fun (q : Nat → Int) (hq : divOm q F g n T) => dm_head hc h hq
  obtain ⟨a1, a2, a3, a4, a5, a6⟩ := h
  rw [hk2] at a1 a6
  refine ⟨fun i hi => ?_, fun i h1 h2 => ?_, fun j h1 h2 => ?_, fun q hq j h1 h2 => ?_, fun j hj h1 => ?_, fun i hi => ?_⟩
  · rw [hkk, hst, hn i (by omega), a1 i hi]
    omega
  · have := hn i h2
    rw [if_neg (by omega), a2 i h1 h2] at this
    exact L0.mp (by rw [this]; decide)
  · by_cases e : j = c
    · rw [e, upL_s]; exact hx
    · rw [upL_n e]; exact a3 j (by omega) h2
  · by_cases e : j = c
    · rw [e, upL_s]
      have h3 := hh9 q hq
      rw [← hh] at h3
      exact (Int.mul_eq_mul_right_iff h0).mp h3.symm
    · rw [upL_n e]; exact a4 q hq j (by omega) h2
  · rw [upL_n (by omega)]; exact a5 j hj (by omega)
  · have b1 := a6 i hi
    rw [hn i (by omega), hkk]
    by_cases e : c ≤ i ∧ i - c < n + 1
    · rw [if_pos e]
      have b2 := mulB hx (hF (i - c) (by omega))
      omega
    · rw [if_neg e]
      omega
theorem dm_end {F g : Nat → Int} {n T : Nat} {cur qc : Nat → Int64} (hT : T + n < 60) (h : dmI F g n T 0 cur qc) : ((∀ i, i < 60 → cur i = 0) → divOm (toI qc) F g n T) ∧ ((∃ i, i < 60 ∧ cur i ≠ 0) → ∀ q, ¬ divOm q F g n T) := by
  obtain ⟨a1, a2, a3, a4, a5, a6⟩ := h
  constructor
  · intro hz
    refine ⟨fun j hj => a3 j (by omega) hj, fun i hi => ?_⟩
    have h1 := a1 i hi
    rw [hz i (by omega), show T + 1 - 0 = T + 1 from rfl] at h1
    have h2 : (0 : Int64).toInt = 0 := by decide
    omega
  · rintro ⟨i, hi, hne⟩ q hq
    by_cases e : i ≤ T + n
    · have h1 := a1 i e
      have h2 := hq.2 i e
      have h3 : mulT q F n T (T + 1) i = mulT (toI qc) F n T (T + 1) i := mulT_cong _ (by omega) (fun j h1 h2 => a4 q hq j (by omega) h2)
      refine hne (L0.mp ?_)
      rw [h1, h2, h3]
      show _ - mulT (toI qc) F n T (T + 1) i = 0
      omega
    · exact hne (a2 i (by omega) hi)
theorem dm_start {F g : Nat → Int} {n T : Nat} {cur qc : Nat → Int64} (hT : T + n < 60) (hg : ∀ i, i ≤ T + n → -1000000000000 ≤ g i ∧ g i ≤ 1000000000000) (hc : ∀ i, i < 60 → (cur i).toInt = if i ≤ T + n then g i else 0) (hq : ∀ j, j < 60 → qc j = 0) : dmI F g n T (T + 1) cur qc := by
  refine ⟨fun i hi => ?_, fun i h1 h2 => ?_, fun j h1 h2 => absurd h2 (by omega), fun q _ j h1 h2 => absurd h2 (by omega), fun j hj _ => hq j hj, fun i hi => ?_⟩
  · rw [hc i (by omega), if_pos hi, Nat.sub_self]
    show g i = g i - 0
    omega
  · exact L0.mp (by rw [hc i h2, if_neg (by omega)])
  · rw [hc i (by omega), if_pos hi, Nat.sub_self]
    have := hg i hi
    omega
theorem tdiv_le {a b : Int} : (a.tdiv b).natAbs ≤ a.natAbs := by
  rw [Int.natAbs_tdiv]
  exact Nat.div_le_self _ _
theorem tdiv_mul {a b : Int} : (a.tdiv b * b).natAbs ≤ a.natAbs := by
  rw [Int.natAbs_mul, Int.natAbs_tdiv]
  exact Nat.div_mul_le_self _ _
abbrev BX12_divides (w0 : Wd) (Post : Option Value → Wd → Prop) (w : Wd) (pc : Nat) (ls : List (Nat × Value)) (st : List Value) : Prop := GP "divides" RX12 cX12_divides 7 (some .boolean) 1 39 none w0 Post w pc ls st
abbrev EX12_divides (As : List Value) (w : Wd) (Post : Option Value → Wd → Prop) : Prop := EP yX12_divides cX12_divides 7 (some .boolean) 1 As w Post
theorem dv_end0 {w0 w : Wd} {Y n T : Nat} {th st nu ld be ib ta fa re ig : Int32} {h7 d8 q9 r10 : Nat → Int64} (hY : w[Y]? = some (oM Y th st nu (nI (T + n)) (nI n) ld be ib ta fa re ig)) (a7 : w[Y + 7]? = some (aL 60 h7)) (a8 : w[Y + 8]? = some (aL 14 d8)) (a9 : w[Y + 9]? = some (aL 60 q9)) (a10 : w[Y + 10]? = some (aL 60 r10)) (hn : n ≤ 12) (hT : T + n < 60) {F g : Nat → Int} (hF9 : ∀ t, t ≤ n → (d8 t).toInt = F t) (hF : ∀ t, t ≤ n → -9999 ≤ F t ∧ F t ≤ 9999) (h0 : F n ≠ 0) (hh7 : ∀ i, i < 60 → (h7 i).toInt = if i ≤ T + n then g i else 0) (hg : ∀ i, i ≤ T + n → -1000000000000 ≤ g i ∧ g i ≤ 1000000000000) {cur qc : Nat → Int64} (hI : dmI F g n T 0 cur qc) (hne : ∃ i, i < 60 ∧ cur i ≠ 0) : ∀ (z k : Nat), 60 = k + z → BX12_divides w0 (fun r w' => (r = some (.int (nI 1)) ∧ ∃ qc cur : Nat → Int64, divOm (toI qc) F g n T ∧ (∀ j, j < 60 → T < j → qc j = 0) ∧ w' = (w.set (Y + 9) (aL 60 qc)).set (Y + 10) (aL 60 cur)) ∨ (r = some (.int (nI 0)) ∧ (∀ q, ¬ divOm q F g n T) ∧ ∃ qc cur : Nat → Int64, w' = (w.set (Y + 9) (aL 60 qc)).set (Y + 10) (aL 60 cur))) ((w.set (Y + 9) (aL 60 qc)).set (Y + 10) (aL 60 cur)) 163 [(4, .int (nI k)), (3, .int (nI 0)), (0, .ref Y)] [] := by
  intro z
  induction z with
  | zero =>
    intro k hz
    refine g_iload (pc := 163) 0 dX12_divides_163 rfl ?_
    refine g_bipush (pc := 165) (v := nI 60) dX12_divides_165 (by decide) ?_
    refine n_icmp_ge (pc := 167) 198 dX12_divides_167 (by decide) (by omega) (by omega) (fun hb9 => ?_) (fun hb9 => ?_)
    · refine g_iload_n (pc := 198) 1 dX12_divides_198 rfl rfl ?_
      exact g_iret (pc := 199) dX12_divides_199 (Or.inr ⟨rfl, (dm_end hT hI).2 hne, qc, cur, rfl⟩)
    · exact absurd hb9 (by omega)
  | succ z ih =>
    intro k hz
    refine g_iload (pc := 163) 0 dX12_divides_163 rfl ?_
    refine g_bipush (pc := 165) (v := nI 60) dX12_divides_165 (by decide) ?_
    refine n_icmp_ge (pc := 167) 198 dX12_divides_167 (by decide) (by omega) (by omega) (fun hb9 => ?_) (fun hb9 => ?_)
    · exact absurd hb9 (by omega)
    · refine g_iload_n (pc := 170) 1 dX12_divides_170 rfl rfl ?_
      refine n_if_eq (pc := 171) 190 dX12_divides_171 (by decide) (by omega) (fun hs => ?_) (fun hs => ?_)
      · refine g_iconst (pc := 190) (v := nI 0) dX12_divides_190 (by decide) ?_
        refine g_istore_n (pc := 191) [(3, .int (nI 0)), (4, .int (nI k)), (0, .ref Y)] dX12_divides_191 rfl (by decide) rfl ?_
        refine n_iinc (pc := 192) (c := 1) [(4, .int (nI (k + 1))), (3, .int (nI 0)), (0, .ref Y)] 1 dX12_divides_192 rfl (by decide) (by decide) rfl ?_
        refine g_goto (pc := 195) 163 dX12_divides_195 (by decide) ?_
        exact GP.lsub _ (by simp) (ih (k + 1) (by omega))
      · exact absurd rfl hs
theorem dv_end1 {w0 w : Wd} {Y n T : Nat} {th st nu ld be ib ta fa re ig : Int32} {h7 d8 q9 r10 : Nat → Int64} (hY : w[Y]? = some (oM Y th st nu (nI (T + n)) (nI n) ld be ib ta fa re ig)) (a7 : w[Y + 7]? = some (aL 60 h7)) (a8 : w[Y + 8]? = some (aL 14 d8)) (a9 : w[Y + 9]? = some (aL 60 q9)) (a10 : w[Y + 10]? = some (aL 60 r10)) (hn : n ≤ 12) (hT : T + n < 60) {F g : Nat → Int} (hF9 : ∀ t, t ≤ n → (d8 t).toInt = F t) (hF : ∀ t, t ≤ n → -9999 ≤ F t ∧ F t ≤ 9999) (h0 : F n ≠ 0) (hh7 : ∀ i, i < 60 → (h7 i).toInt = if i ≤ T + n then g i else 0) (hg : ∀ i, i ≤ T + n → -1000000000000 ≤ g i ∧ g i ≤ 1000000000000) {cur qc : Nat → Int64} (hI : dmI F g n T 0 cur qc)  : ∀ (z k : Nat), 60 = k + z → (∀ j, j < k → cur j = 0) → BX12_divides w0 (fun r w' => (r = some (.int (nI 1)) ∧ ∃ qc cur : Nat → Int64, divOm (toI qc) F g n T ∧ (∀ j, j < 60 → T < j → qc j = 0) ∧ w' = (w.set (Y + 9) (aL 60 qc)).set (Y + 10) (aL 60 cur)) ∨ (r = some (.int (nI 0)) ∧ (∀ q, ¬ divOm q F g n T) ∧ ∃ qc cur : Nat → Int64, w' = (w.set (Y + 9) (aL 60 qc)).set (Y + 10) (aL 60 cur))) ((w.set (Y + 9) (aL 60 qc)).set (Y + 10) (aL 60 cur)) 163 [(4, .int (nI k)), (3, .int (nI 1)), (0, .ref Y)] [] := by
  intro z
  induction z with
  | zero =>
    intro k hz hj
    refine g_iload (pc := 163) 0 dX12_divides_163 rfl ?_
    refine g_bipush (pc := 165) (v := nI 60) dX12_divides_165 (by decide) ?_
    refine n_icmp_ge (pc := 167) 198 dX12_divides_167 (by decide) (by omega) (by omega) (fun hb9 => ?_) (fun hb9 => ?_)
    · refine g_iload_n (pc := 198) 1 dX12_divides_198 rfl rfl ?_
      exact g_iret (pc := 199) dX12_divides_199 (Or.inl ⟨rfl, qc, cur, (dm_end hT hI).1 (fun i hi => hj i (by omega)), fun j h1 h2 => hI.2.2.2.2.1 j h1 (Or.inr h2), rfl⟩)
    · exact absurd hb9 (by omega)
  | succ z ih =>
    intro k hz hj
    refine g_iload (pc := 163) 0 dX12_divides_163 rfl ?_
    refine g_bipush (pc := 165) (v := nI 60) dX12_divides_165 (by decide) ?_
    refine n_icmp_ge (pc := 167) 198 dX12_divides_167 (by decide) (by omega) (by omega) (fun hb9 => ?_) (fun hb9 => ?_)
    · exact absurd hb9 (by omega)
    · refine g_iload_n (pc := 170) 1 dX12_divides_170 rfl rfl ?_
      refine n_if_eq (pc := 171) 190 dX12_divides_171 (by decide) (by omega) (fun hs => ?_) (fun hs => ?_)
      · exact absurd hs (by decide)
      · refine g_aload_n (pc := 174) 2 dX12_divides_174 rfl rfl ?_
        refine g_get (pc := 175) dX12_divides_175 fk_X12_39 (lk_ne (show (Y + 10) ≠ Y by omega) (lk_ne (show (Y + 9) ≠ Y by omega) hY)) rfl ?_
        refine g_iload (pc := 178) 0 dX12_divides_178 rfl ?_
        refine g_lald (pc := 180) k dX12_divides_180 (lk_eq (lk_ne (show (Y + 9) ≠ (Y + 10) by omega) a10)) (IXn (by omega) (by omega)) ?_
        refine g_lconst (pc := 181) (v := 0) dX12_divides_181 (by decide) ?_
        refine g_lcmp_ne (pc := 182) 190 dX12_divides_182 dX12_divides_183 (by decide) (fun hne => ?_) (fun hne => ?_)
        · refine g_iconst (pc := 190) (v := nI 0) dX12_divides_190 (by decide) ?_
          refine g_istore_n (pc := 191) [(3, .int (nI 0)), (4, .int (nI k)), (0, .ref Y)] dX12_divides_191 rfl (by decide) rfl ?_
          refine n_iinc (pc := 192) (c := 1) [(4, .int (nI (k + 1))), (3, .int (nI 0)), (0, .ref Y)] 1 dX12_divides_192 rfl (by decide) (by decide) rfl ?_
          refine g_goto (pc := 195) 163 dX12_divides_195 (by decide) ?_
          exact GP.lsub _ (by simp) (dv_end0 hY a7 a8 a9 a10 hn hT hF9 hF h0 hh7 hg hI ⟨k, by omega, hne⟩ z (k + 1) (by omega))
        · rw [Classical.not_not] at hne
          refine g_iconst (pc := 186) (v := nI 1) dX12_divides_186 (by decide) ?_
          refine g_goto (pc := 187) 191 dX12_divides_187 (by decide) ?_
          refine g_istore_n (pc := 191) [(3, .int (nI 1)), (4, .int (nI k)), (0, .ref Y)] dX12_divides_191 rfl (by decide) rfl ?_
          refine n_iinc (pc := 192) (c := 1) [(4, .int (nI (k + 1))), (3, .int (nI 1)), (0, .ref Y)] 1 dX12_divides_192 rfl (by decide) (by decide) rfl ?_
          refine g_goto (pc := 195) 163 dX12_divides_195 (by decide) ?_
          refine GP.lsub _ (by simp) (ih (k + 1) (by omega) (fun j hj9 => ?_))
          by_cases e : j = k
          · rw [e]; exact hne
          · exact hj j (by omega)
theorem dv_in {w0 w : Wd} {Y n T : Nat} {th st nu ld be ib ta fa re ig : Int32} {h7 d8 q9 r10 : Nat → Int64} (hY : w[Y]? = some (oM Y th st nu (nI (T + n)) (nI n) ld be ib ta fa re ig)) (a7 : w[Y + 7]? = some (aL 60 h7)) (a8 : w[Y + 8]? = some (aL 14 d8)) (a9 : w[Y + 9]? = some (aL 60 q9)) (a10 : w[Y + 10]? = some (aL 60 r10)) (hn : n ≤ 12) (hT : T + n < 60) {F g : Nat → Int} (hF9 : ∀ t, t ≤ n → (d8 t).toInt = F t) (hF : ∀ t, t ≤ n → -9999 ≤ F t ∧ F t ≤ 9999) (h0 : F n ≠ 0) (hh7 : ∀ i, i < 60 → (h7 i).toInt = if i ≤ T + n then g i else 0) (hg : ∀ i, i ≤ T + n → -1000000000000 ≤ g i ∧ g i ≤ 1000000000000) {cur qx : Nat → Int64} {x : Int64} {c : Nat} (hc : c ≤ T) (hcb : ∀ i, i ≤ T + n → -1000000000000000000 ≤ (cur i).toInt ∧ (cur i).toInt ≤ 1000000000000000000) (hx : -1000000000000 ≤ x.toInt ∧ x.toInt ≤ 1000000000000) {Q : Option Value → Wd → Prop} (K : ∀ c2 : Nat → Int64, (∀ i, i < 60 → (c2 i).toInt = (cur i).toInt - if c ≤ i ∧ i - c < n + 1 then x.toInt * F (i - c) else 0) → BX12_divides w0 Q ((w.set (Y + 9) (aL 60 qx)).set (Y + 10) (aL 60 c2)) 152 [(3, .int (nI (c + n))), (1, .long (d8 n)), (0, .ref Y)] []) : ∀ (z J : Nat) (c2 : Nat → Int64), n + 1 = J + z → (∀ i, i < 60 → (c2 i).toInt = (cur i).toInt - if c ≤ i ∧ i - c < J then x.toInt * F (i - c) else 0) → BX12_divides w0 Q ((w.set (Y + 9) (aL 60 qx)).set (Y + 10) (aL 60 c2)) 110 [(6, .int (nI J)), (4, .long x), (3, .int (nI (c + n))), (1, .long (d8 n)), (0, .ref Y)] [] := by
  intro z
  induction z with
  | zero =>
    intro J c2 hz hj
    refine g_iload (pc := 110) 0 dX12_divides_110 rfl ?_
    refine g_aload_n (pc := 112) 4 dX12_divides_112 rfl rfl ?_
    refine g_get (pc := 113) dX12_divides_113 fk_X12_143 (lk_ne (show (Y + 10) ≠ Y by omega) (lk_ne (show (Y + 9) ≠ Y by omega) hY)) rfl ?_
    refine n_icmp_gt (pc := 116) 152 dX12_divides_116 (by decide) (by omega) (by omega) (fun hb9 => ?_) (fun hb9 => ?_)
    · have e9 : J = n + 1 := by omega
      rw [e9] at hj
      exact GP.lsub _ (by simp) (K c2 hj)
    · exact absurd (show n < J by omega) hb9
  | succ z ih =>
    intro J c2 hz hj
    refine g_iload (pc := 110) 0 dX12_divides_110 rfl ?_
    refine g_aload_n (pc := 112) 4 dX12_divides_112 rfl rfl ?_
    refine g_get (pc := 113) dX12_divides_113 fk_X12_143 (lk_ne (show (Y + 10) ≠ Y by omega) (lk_ne (show (Y + 9) ≠ Y by omega) hY)) rfl ?_
    refine n_icmp_gt (pc := 116) 152 dX12_divides_116 (by decide) (by omega) (by omega) (fun hb9 => ?_) (fun hb9 => ?_)
    · exact absurd hb9 (by omega)
    · have e1 : c + n - n + J = c + J := by omega
      have hm := mulB hx (hF J (by omega))
      have hb := hcb (c + J) (by omega)
      have v1 : (x * d8 J).toInt = x.toInt * F J := by rw [L_mul (by rw [hF9 J (by omega)]; omega) (by rw [hF9 J (by omega)]; omega), hF9 J (by omega)]
      have v2 : (c2 (c + J)).toInt = (cur (c + J)).toInt := by rw [hj (c + J) (by omega), if_neg (by omega)]; omega
      have v3 : (c2 (c + J) - x * d8 J).toInt = (cur (c + J)).toInt - x.toInt * F J := by rw [L_sub (by rw [v1, v2]; omega) (by rw [v1, v2]; omega), v1, v2]
      refine g_aload_n (pc := 119) 4 dX12_divides_119 rfl rfl ?_
      refine g_get (pc := 120) dX12_divides_120 fk_X12_39 (lk_ne (show (Y + 10) ≠ Y by omega) (lk_ne (show (Y + 9) ≠ Y by omega) hY)) rfl ?_
      refine g_iload_n (pc := 123) 2 dX12_divides_123 rfl rfl ?_
      refine g_aload_n (pc := 124) 4 dX12_divides_124 rfl rfl ?_
      refine g_get (pc := 125) dX12_divides_125 fk_X12_143 (lk_ne (show (Y + 10) ≠ Y by omega) (lk_ne (show (Y + 9) ≠ Y by omega) hY)) rfl ?_
      refine n_isub (pc := 128) dX12_divides_128 (by omega) ?_
      refine g_iload (pc := 129) 0 dX12_divides_129 rfl ?_
      refine n_iadd (pc := 131) dX12_divides_131 ?_
      refine g_dup2 (pc := 132) dX12_divides_132 rfl rfl ?_
      refine g_lald (pc := 133) (((c + n) - n) + J) dX12_divides_133 (lk_eq (lk_ne (show (Y + 9) ≠ (Y + 10) by omega) a10)) (IXn (by omega) (by omega)) ?_
      refine g_lload (pc := 134) 1 dX12_divides_134 rfl ?_
      refine g_aload_n (pc := 136) 4 dX12_divides_136 rfl rfl ?_
      refine g_get (pc := 137) dX12_divides_137 fk_X12_33 (lk_ne (show (Y + 10) ≠ Y by omega) (lk_ne (show (Y + 9) ≠ Y by omega) hY)) rfl ?_
      refine g_iload (pc := 140) 0 dX12_divides_140 rfl ?_
      refine g_lald (pc := 142) J dX12_divides_142 (lk_ne (show (Y + 10) ≠ (Y + 8) by omega) (lk_ne (show (Y + 9) ≠ (Y + 8) by omega) a8)) (IXn (by omega) (by omega)) ?_
      refine g_lmul (pc := 143) dX12_divides_143 ?_
      refine g_lsub (pc := 144) dX12_divides_144 ?_
      refine g_last (pc := 145) (((c + n) - n) + J) dX12_divides_145 (lk_eq (lk_ne (show (Y + 9) ≠ (Y + 10) by omega) a10)) (IXn (by omega) (by omega)) ?_
      refine GP.weq ((w.set (Y + 9) (aL 60 qx)).set (Y + 10) (aL 60 (vp_updL c2 (((c + n) - n) + J) ((c2 (((c + n) - n) + J)) - (x * (d8 J)))))) (by rw [List.set_set]) ?_
      refine n_iinc (pc := 146) (c := 1) [(6, .int (nI (J + 1))), (4, .long x), (3, .int (nI (c + n))), (1, .long (d8 n)), (0, .ref Y)] 0 dX12_divides_146 rfl (by decide) (by decide) rfl ?_
      refine g_goto (pc := 149) 110 dX12_divides_149 (by decide) ?_
      rw [e1]
      refine GP.lsub _ (by simp) (ih (J + 1) _ (by omega) (fun i hi => ?_))
      by_cases e : i = c + J
      · rw [e, upL_s, v3, if_pos (by omega), show c + J - c = J by omega]
      · rw [upL_n e, hj i hi]
        by_cases e2 : c ≤ i ∧ i - c < J
        · rw [if_pos e2, if_pos (by omega)]
        · rw [if_neg e2, if_neg (by omega)]
theorem dv_main {w0 w : Wd} {Y n T : Nat} {th st nu ld be ib ta fa re ig : Int32} {h7 d8 q9 r10 : Nat → Int64} (hY : w[Y]? = some (oM Y th st nu (nI (T + n)) (nI n) ld be ib ta fa re ig)) (a7 : w[Y + 7]? = some (aL 60 h7)) (a8 : w[Y + 8]? = some (aL 14 d8)) (a9 : w[Y + 9]? = some (aL 60 q9)) (a10 : w[Y + 10]? = some (aL 60 r10)) (hn : n ≤ 12) (hT : T + n < 60) {F g : Nat → Int} (hF9 : ∀ t, t ≤ n → (d8 t).toInt = F t) (hF : ∀ t, t ≤ n → -9999 ≤ F t ∧ F t ≤ 9999) (h0 : F n ≠ 0) (hh7 : ∀ i, i < 60 → (h7 i).toInt = if i ≤ T + n then g i else 0) (hg : ∀ i, i ≤ T + n → -1000000000000 ≤ g i ∧ g i ≤ 1000000000000) : ∀ (c : Nat) (kk : Int32) (cur qc : Nat → Int64), c ≤ T + 1 → kk.toInt = (c : Int) + n - 1 → dmI F g n T c cur qc → BX12_divides w0 (fun r w' => (r = some (.int (nI 1)) ∧ ∃ qc cur : Nat → Int64, divOm (toI qc) F g n T ∧ (∀ j, j < 60 → T < j → qc j = 0) ∧ w' = (w.set (Y + 9) (aL 60 qc)).set (Y + 10) (aL 60 cur)) ∨ (r = some (.int (nI 0)) ∧ (∀ q, ¬ divOm q F g n T) ∧ ∃ qc cur : Nat → Int64, w' = (w.set (Y + 9) (aL 60 qc)).set (Y + 10) (aL 60 cur))) ((w.set (Y + 9) (aL 60 qc)).set (Y + 10) (aL 60 cur)) 48 [(3, .int kk), (1, .long (d8 n)), (0, .ref Y)] [] := by
  intro c
  induction c with
  | zero =>
    intro kk cur qc hc hk hI
    have en : (nI n).toInt = n := nI_toInt (by omega)
    refine g_iload_n (pc := 48) 0 dX12_divides_48 rfl rfl ?_
    refine g_aload_n (pc := 49) 2 dX12_divides_49 rfl rfl ?_
    refine g_get (pc := 50) dX12_divides_50 fk_X12_143 (lk_ne (show (Y + 10) ≠ Y by omega) (lk_ne (show (Y + 9) ≠ Y by omega) hY)) rfl ?_
    refine g_icmp_lt (pc := 53) 158 dX12_divides_53 (by decide) (fun hb9 => ?_) (fun hb9 => ?_)
    · refine g_iconst (pc := 158) (v := nI 1) dX12_divides_158 (by decide) ?_
      refine g_istore_n (pc := 159) [(3, .int (nI 1)), (1, .long (d8 n)), (0, .ref Y)] dX12_divides_159 rfl (by decide) rfl ?_
      refine g_iconst (pc := 160) (v := nI 0) dX12_divides_160 (by decide) ?_
      refine g_istore (pc := 161) [(4, .int (nI 0)), (3, .int (nI 1)), (1, .long (d8 n)), (0, .ref Y)] dX12_divides_161 (by decide) rfl ?_
      exact GP.lsub _ (by simp) (dv_end1 hY a7 a8 a9 a10 hn hT hF9 hF h0 hh7 hg hI 60 0 (by omega) (fun j hj => absurd hj (by omega)))
    · exact absurd (Int32.lt_iff_toInt_lt.mpr (by rw [hk, en]; omega)) hb9
  | succ c ih =>
    intro kk cur qc hc hk hI
    obtain rfl : kk = nI (c + n) := by
      have h9 := nI_toNat (x := kk) (by omega)
      rw [show kk.toInt.toNat = c + n by omega] at h9
      exact h9
    refine g_iload_n (pc := 48) 0 dX12_divides_48 rfl rfl ?_
    refine g_aload_n (pc := 49) 2 dX12_divides_49 rfl rfl ?_
    refine g_get (pc := 50) dX12_divides_50 fk_X12_143 (lk_ne (show (Y + 10) ≠ Y by omega) (lk_ne (show (Y + 9) ≠ Y by omega) hY)) rfl ?_
    refine n_icmp_lt (pc := 53) 158 dX12_divides_53 (by decide) (by omega) (by omega) (fun hb9 => ?_) (fun hb9 => ?_)
    · exact absurd hb9 (by omega)
    · have hcb := hI.2.2.2.2.2 (c + n) (by omega)
      have hcb2 : -1000000000000000000 ≤ (cur (c + n)).toInt ∧ (cur (c + n)).toInt ≤ 1000000000000000000 := by omega
      have hln : (d8 n).toInt = F n := hF9 n (Nat.le_refl _)
      have hl0 : d8 n ≠ 0 := fun g => h0 (by rw [← hln, g]; decide)
      have hdv : (cur (c + n) / d8 n).toInt = (cur (c + n)).toInt.tdiv (F n) := by rw [L_div (by omega), hln]
      obtain ⟨x, hxe⟩ : ∃ x, x = cur (c + n) / d8 n := ⟨_, rfl⟩
      rw [← hxe] at hdv
      have hb1 := tdiv_le (a := (cur (c + n)).toInt) (b := F n)
      have hb2 := tdiv_mul (a := (cur (c + n)).toInt) (b := F n)
      rw [← hdv] at hb1 hb2
      have hml : (x * d8 n).toInt = x.toInt * F n := by rw [L_mul (by rw [hln]; omega) (by rw [hln]; omega), hln]
      refine g_aload_n (pc := 56) 2 dX12_divides_56 rfl rfl ?_
      refine g_get (pc := 57) dX12_divides_57 fk_X12_39 (lk_ne (show (Y + 10) ≠ Y by omega) (lk_ne (show (Y + 9) ≠ Y by omega) hY)) rfl ?_
      refine g_iload_n (pc := 60) 0 dX12_divides_60 rfl rfl ?_
      refine g_lald (pc := 61) (c + n) dX12_divides_61 (lk_eq (lk_ne (show (Y + 9) ≠ (Y + 10) by omega) a10)) (IXn (by omega) (by omega)) ?_
      refine g_lload_n (pc := 62) 1 dX12_divides_62 rfl rfl ?_
      refine g_ldiv (pc := 63) dX12_divides_63 hl0 ?_
      refine GP.tl x hxe.symm ?_
      refine g_lstore (pc := 64) [(4, .long x), (3, .int (nI (c + n))), (1, .long (d8 n)), (0, .ref Y)] dX12_divides_64 (by decide) rfl ?_
      refine g_lload (pc := 66) 0 dX12_divides_66 rfl ?_
      refine g_lload_n (pc := 68) 2 dX12_divides_68 rfl rfl ?_
      refine g_lmul (pc := 69) dX12_divides_69 ?_
      refine g_aload_n (pc := 70) 3 dX12_divides_70 rfl rfl ?_
      refine g_get (pc := 71) dX12_divides_71 fk_X12_39 (lk_ne (show (Y + 10) ≠ Y by omega) (lk_ne (show (Y + 9) ≠ Y by omega) hY)) rfl ?_
      refine g_iload_n (pc := 74) 1 dX12_divides_74 rfl rfl ?_
      refine g_lald (pc := 75) (c + n) dX12_divides_75 (lk_eq (lk_ne (show (Y + 9) ≠ (Y + 10) by omega) a10)) (IXn (by omega) (by omega)) ?_
      refine g_lcmp_ne (pc := 76) 92 dX12_divides_76 dX12_divides_77 (by decide) (fun hne => ?_) (fun hne => ?_)
      · have hno : ∀ q, ¬ divOm q F g n T := fun q hq => by
          have h1 := dm_head (by omega) hI hq
          have h2 : x.toInt = q c := by rw [hdv, h1]; exact Int.mul_tdiv_cancel _ h0
          have h3 := hq.1 c (by omega)
          exact hne (Int64.toInt_inj.mp (by rw [hml, h2, h1]))
        refine g_iconst (pc := 92) (v := nI 0) dX12_divides_92 (by decide) ?_
        exact g_iret (pc := 93) dX12_divides_93 (Or.inr ⟨rfl, hno, qc, cur, rfl⟩)
      · rw [Classical.not_not] at hne
        have hhd : x.toInt * F n = (cur (c + n)).toInt := by rw [← hml, hne]
        refine g_lload (pc := 80) 0 dX12_divides_80 rfl ?_
        refine g_callS (pc := 82) [.long x] dX12_divides_82 cs_X12_146.1 cs_X12_146.2 rfl rfl (Nat.le_of_ble_eq_true rfl) (by decide) (by decide) (mp_size _) ?_
        rintro _ w9 ⟨x2, rfl, hs1, hs2, e9⟩
        refine GP.weq _ e9 ?_
        have hx2 : x2.toInt = (x.toInt.natAbs : Int) := by
          by_cases g : x.toInt < 0
          · rw [hs1 g, L_neg (by omega)]; omega
          · rw [hs2 g]; omega
        have l12 : (1000000000000 : Int64).toInt = 1000000000000 := by decide
        refine g_ldc2 (pc := 85) kc_X12_150 dX12_divides_85 ?_
        refine g_lcmp_le (pc := 88) 94 dX12_divides_88 dX12_divides_89 (by decide) (fun hsz => ?_) (fun hsz => ?_)
        · rw [Int64.le_iff_toInt_le, l12, hx2] at hsz
          have hxb : -1000000000000 ≤ x.toInt ∧ x.toInt ≤ 1000000000000 := by omega
          refine g_aload_n (pc := 94) 3 dX12_divides_94 rfl rfl ?_
          refine g_get (pc := 95) dX12_divides_95 fk_X12_36 (lk_ne (show (Y + 10) ≠ Y by omega) (lk_ne (show (Y + 9) ≠ Y by omega) hY)) rfl ?_
          refine g_iload_n (pc := 98) 1 dX12_divides_98 rfl rfl ?_
          refine g_aload_n (pc := 99) 3 dX12_divides_99 rfl rfl ?_
          refine g_get (pc := 100) dX12_divides_100 fk_X12_143 (lk_ne (show (Y + 10) ≠ Y by omega) (lk_ne (show (Y + 9) ≠ Y by omega) hY)) rfl ?_
          refine n_isub (pc := 103) dX12_divides_103 (by omega) ?_
          refine g_lload (pc := 104) 0 dX12_divides_104 rfl ?_
          refine g_last (pc := 106) ((c + n) - n) dX12_divides_106 (lk_ne (show (Y + 10) ≠ (Y + 9) by omega) (lk_eq a9)) (IXn (by omega) (by omega)) ?_
          refine GP.weq ((w.set (Y + 9) (aL 60 (vp_updL qc ((c + n) - n) x))).set (Y + 10) (aL 60 cur)) (by rw [List.set_comm _ _ (show (Y + 10) ≠ (Y + 9) by omega), List.set_set]) ?_
          refine g_iconst (pc := 107) (v := nI 0) dX12_divides_107 (by decide) ?_
          refine g_istore (pc := 108) [(6, .int (nI 0)), (4, .long x), (3, .int (nI (c + n))), (1, .long (d8 n)), (0, .ref Y)] dX12_divides_108 (by decide) rfl ?_
          rw [show c + n - n = c by omega]
          refine GP.lsub _ (by simp) (dv_in hY a7 a8 a9 a10 hn hT hF9 hF h0 hh7 hg (cur := cur) (c := c) (x := x) (by omega) (fun i hi => by have := hI.2.2.2.2.2 i hi; omega) hxb (fun c2 hc2 => ?_) (n + 1) 0 cur (by omega) (fun i hi => by rw [if_neg (by omega)]; omega))
          refine g_iinc (pc := 152) [(3, .int ((nI (c + n)) + Int32.ofInt (-1))), (1, .long (d8 n)), (0, .ref Y)] 0 dX12_divides_152 rfl rfl (by decide) rfl ?_
          refine g_goto (pc := 155) 48 dX12_divides_155 (by decide) ?_
          refine GP.lsub _ (by simp) (ih (nI (c + n) + Int32.ofInt (-1)) c2 _ (by omega) ?_ (dm_step (by omega) hT hF h0 hI hxb hhd hc2))
          have e1 : (nI (c + n)).toInt = ((c + n : Nat) : Int) := nI_toInt (by omega)
          have e2 : (Int32.ofInt (-1)).toInt = -1 := by decide
          rw [I_add (by omega) (by omega)]
          omega
        · rw [Int64.le_iff_toInt_le, l12, hx2] at hsz
          have hno : ∀ q, ¬ divOm q F g n T := fun q hq => by
            have h1 := dm_head (by omega) hI hq
            have h2 : x.toInt = q c := by rw [hdv, h1]; exact Int.mul_tdiv_cancel _ h0
            have h3 := hq.1 c (by omega)
            rw [← h2] at h3
            omega
          refine g_iconst (pc := 92) (v := nI 0) dX12_divides_92 (by decide) ?_
          exact g_iret (pc := 93) dX12_divides_93 (Or.inr ⟨rfl, hno, qc, cur, rfl⟩)
def mvF (r h : Nat → Int64) (k : Nat) : Nat → Int64 := fun i => if i < k then h i else r i
theorem mvF_s {r h : Nat → Int64} {k : Nat} : vp_updL (mvF r h k) k (h k) = mvF r h (k + 1) := by
  funext i
  by_cases e : i = k
  · rw [e, upL_s]; exact (if_pos (by omega)).symm
  · rw [upL_n e]
    show (if i < k then h i else r i) = if i < k + 1 then h i else r i
    by_cases e2 : i < k
    · rw [if_pos e2, if_pos (by omega)]
    · rw [if_neg e2, if_neg (by omega)]
theorem mvF_0 {r h : Nat → Int64} : mvF r h 0 = r := by
  funext i
  exact if_neg (by omega)
theorem dv_fst {w0 w : Wd} {Y n T : Nat} {th st nu ld be ib ta fa re ig : Int32} {h7 d8 q9 r10 : Nat → Int64} (hY : w[Y]? = some (oM Y th st nu (nI (T + n)) (nI n) ld be ib ta fa re ig)) (a7 : w[Y + 7]? = some (aL 60 h7)) (a8 : w[Y + 8]? = some (aL 14 d8)) (a9 : w[Y + 9]? = some (aL 60 q9)) (a10 : w[Y + 10]? = some (aL 60 r10)) (hn : n ≤ 12) (hT : T + n < 60) {F g : Nat → Int} (hF9 : ∀ t, t ≤ n → (d8 t).toInt = F t) (hF : ∀ t, t ≤ n → -9999 ≤ F t ∧ F t ≤ 9999) (h0 : F n ≠ 0) (hh7 : ∀ i, i < 60 → (h7 i).toInt = if i ≤ T + n then g i else 0) (hg : ∀ i, i ≤ T + n → -1000000000000 ≤ g i ∧ g i ≤ 1000000000000) : ∀ (z k : Nat), 60 = k + z → BX12_divides w0 (fun r w' => (r = some (.int (nI 1)) ∧ ∃ qc cur : Nat → Int64, divOm (toI qc) F g n T ∧ (∀ j, j < 60 → T < j → qc j = 0) ∧ w' = (w.set (Y + 9) (aL 60 qc)).set (Y + 10) (aL 60 cur)) ∨ (r = some (.int (nI 0)) ∧ (∀ q, ¬ divOm q F g n T) ∧ ∃ qc cur : Nat → Int64, w' = (w.set (Y + 9) (aL 60 qc)).set (Y + 10) (aL 60 cur))) ((w.set (Y + 9) (aL 60 (zrF q9 k))).set (Y + 10) (aL 60 (mvF r10 h7 k))) 2 [(1, .int (nI k)), (0, .ref Y)] [] := by
  intro z
  induction z with
  | zero =>
    intro k hz
    refine g_iload_n (pc := 2) 0 dX12_divides_2 rfl rfl ?_
    refine g_bipush (pc := 3) (v := nI 60) dX12_divides_3 (by decide) ?_
    refine n_icmp_ge (pc := 5) 33 dX12_divides_5 (by decide) (by omega) (by omega) (fun hb9 => ?_) (fun hb9 => ?_)
    · have e9 : k = 60 := by omega
      subst e9
      refine g_aload_n (pc := 33) 1 dX12_divides_33 rfl rfl ?_
      refine g_get (pc := 34) dX12_divides_34 fk_X12_33 (lk_ne (show (Y + 10) ≠ Y by omega) (lk_ne (show (Y + 9) ≠ Y by omega) hY)) rfl ?_
      refine g_aload_n (pc := 37) 1 dX12_divides_37 rfl rfl ?_
      refine g_get (pc := 38) dX12_divides_38 fk_X12_143 (lk_ne (show (Y + 10) ≠ Y by omega) (lk_ne (show (Y + 9) ≠ Y by omega) hY)) rfl ?_
      refine g_lald (pc := 41) n dX12_divides_41 (lk_ne (show (Y + 10) ≠ (Y + 8) by omega) (lk_ne (show (Y + 9) ≠ (Y + 8) by omega) a8)) (IXn (by omega) (by omega)) ?_
      refine g_lstore_n (pc := 42) [(1, .long (d8 n)), (0, .ref Y)] dX12_divides_42 rfl (by decide) rfl ?_
      refine g_aload_n (pc := 43) 1 dX12_divides_43 rfl rfl ?_
      refine g_get (pc := 44) dX12_divides_44 fk_X12_113 (lk_ne (show (Y + 10) ≠ Y by omega) (lk_ne (show (Y + 9) ≠ Y by omega) hY)) rfl ?_
      refine g_istore_n (pc := 47) [(3, .int (nI (T + n))), (1, .long (d8 n)), (0, .ref Y)] dX12_divides_47 rfl (by decide) rfl ?_
      exact GP.lsub _ (by simp) (dv_main hY a7 a8 a9 a10 hn hT hF9 hF h0 hh7 hg (T + 1) (nI (T + n)) _ _ (Nat.le_refl _) (by rw [nI_toInt (by omega)]; omega) (dm_start hT hg (fun i hi => by rw [← hh7 i hi]; show (if i < 60 then h7 i else r10 i).toInt = _; rw [if_pos hi]) (fun j hj => zrF_t hj)))
    · exact absurd hb9 (by omega)
  | succ z ih =>
    intro k hz
    refine g_iload_n (pc := 2) 0 dX12_divides_2 rfl rfl ?_
    refine g_bipush (pc := 3) (v := nI 60) dX12_divides_3 (by decide) ?_
    refine n_icmp_ge (pc := 5) 33 dX12_divides_5 (by decide) (by omega) (by omega) (fun hb9 => ?_) (fun hb9 => ?_)
    · exact absurd hb9 (by omega)
    · refine g_aload_n (pc := 8) 1 dX12_divides_8 rfl rfl ?_
      refine g_get (pc := 9) dX12_divides_9 fk_X12_39 (lk_ne (show (Y + 10) ≠ Y by omega) (lk_ne (show (Y + 9) ≠ Y by omega) hY)) rfl ?_
      refine g_iload_n (pc := 12) 0 dX12_divides_12 rfl rfl ?_
      refine g_aload_n (pc := 13) 1 dX12_divides_13 rfl rfl ?_
      refine g_get (pc := 14) dX12_divides_14 fk_X12_29 (lk_ne (show (Y + 10) ≠ Y by omega) (lk_ne (show (Y + 9) ≠ Y by omega) hY)) rfl ?_
      refine g_iload_n (pc := 17) 0 dX12_divides_17 rfl rfl ?_
      refine g_lald (pc := 18) k dX12_divides_18 (lk_ne (show (Y + 10) ≠ (Y + 7) by omega) (lk_ne (show (Y + 9) ≠ (Y + 7) by omega) a7)) (IXn (by omega) (by omega)) ?_
      refine g_last (pc := 19) k dX12_divides_19 (lk_eq (lk_ne (show (Y + 9) ≠ (Y + 10) by omega) a10)) (IXn (by omega) (by omega)) ?_
      refine GP.weq ((w.set (Y + 9) (aL 60 (zrF q9 k))).set (Y + 10) (aL 60 (vp_updL (mvF r10 h7 k) k (h7 k)))) (by rw [List.set_set]) ?_
      refine g_aload_n (pc := 20) 1 dX12_divides_20 rfl rfl ?_
      refine g_get (pc := 21) dX12_divides_21 fk_X12_36 (lk_ne (show (Y + 10) ≠ Y by omega) (lk_ne (show (Y + 9) ≠ Y by omega) hY)) rfl ?_
      refine g_iload_n (pc := 24) 0 dX12_divides_24 rfl rfl ?_
      refine g_lconst (pc := 25) (v := 0) dX12_divides_25 (by decide) ?_
      refine g_last (pc := 26) k dX12_divides_26 (lk_ne (show (Y + 10) ≠ (Y + 9) by omega) (lk_eq a9)) (IXn (by omega) (by omega)) ?_
      refine GP.weq ((w.set (Y + 9) (aL 60 (vp_updL (zrF q9 k) k 0))).set (Y + 10) (aL 60 (vp_updL (mvF r10 h7 k) k (h7 k)))) (by rw [List.set_comm _ _ (show (Y + 10) ≠ (Y + 9) by omega), List.set_set]) ?_
      refine n_iinc (pc := 27) (c := 1) [(1, .int (nI (k + 1))), (0, .ref Y)] 0 dX12_divides_27 rfl (by decide) (by decide) rfl ?_
      refine g_goto (pc := 30) 2 dX12_divides_30 (by decide) ?_
      rw [mvF_s, zrF_s]
      exact GP.lsub _ (by simp) (ih (k + 1) (by omega))
theorem mp_divides (w : Wd) {Y n T : Nat} {th st nu ld be ib ta fa re ig : Int32} {h7 d8 q9 r10 : Nat → Int64} (hY : w[Y]? = some (oM Y th st nu (nI (T + n)) (nI n) ld be ib ta fa re ig)) (a7 : w[Y + 7]? = some (aL 60 h7)) (a8 : w[Y + 8]? = some (aL 14 d8)) (a9 : w[Y + 9]? = some (aL 60 q9)) (a10 : w[Y + 10]? = some (aL 60 r10)) (hn : n ≤ 12) (hT : T + n < 60) {F g : Nat → Int} (hF9 : ∀ t, t ≤ n → (d8 t).toInt = F t) (hF : ∀ t, t ≤ n → -9999 ≤ F t ∧ F t ≤ 9999) (h0 : F n ≠ 0) (hh7 : ∀ i, i < 60 → (h7 i).toInt = if i ≤ T + n then g i else 0) (hg : ∀ i, i ≤ T + n → -1000000000000 ≤ g i ∧ g i ≤ 1000000000000) : EX12_divides [.ref Y] w (fun r w' => (r = some (.int (nI 1)) ∧ ∃ qc cur : Nat → Int64, divOm (toI qc) F g n T ∧ (∀ j, j < 60 → T < j → qc j = 0) ∧ w' = (w.set (Y + 9) (aL 60 qc)).set (Y + 10) (aL 60 cur)) ∨ (r = some (.int (nI 0)) ∧ (∀ q, ¬ divOm q F g n T) ∧ ∃ qc cur : Nat → Int64, w' = (w.set (Y + 9) (aL 60 qc)).set (Y + 10) (aL 60 cur))) := by
  refine EP.of (plainFor_of_name (by decide)) [(0, .ref Y)] rfl (Nat.le_of_ble_eq_true rfl) (fun r wf h => by rcases h with ⟨rfl, -⟩ | ⟨rfl, -⟩; exact Or.inr rfl; exact Or.inl rfl) ?_
  show BX12_divides w _ w 0 [(0, .ref Y)] []
  refine g_iconst (pc := 0) (v := nI 0) dX12_divides_0 (by decide) ?_
  refine g_istore_n (pc := 1) [(1, .int (nI 0)), (0, .ref Y)] dX12_divides_1 rfl (by decide) rfl ?_
  refine GP.weq ((w.set (Y + 9) (aL 60 (zrF q9 0))).set (Y + 10) (aL 60 (mvF r10 h7 0))) (by rw [zrF_0, mvF_0, set_same a9, set_same a10]) ?_
  exact GP.lsub _ (by simp) (dv_fst hY a7 a8 a9 a10 hn hT hF9 hF h0 hh7 hg 60 0 (by omega))
