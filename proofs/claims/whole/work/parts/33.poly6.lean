/-! Poly: divides -/
theorem mulB {x y a b : Int} (hx : -a ≤ x ∧ x ≤ a) (hy : -b ≤ y ∧ y ≤ b) : -(a * b) ≤ x * y ∧ x * y ≤ a * b := by
  have h1 : 0 ≤ (a - x) * (b - y) := Int.mul_nonneg (by omega) (by omega)
  have h2 : 0 ≤ (a + x) * (b + y) := Int.mul_nonneg (by omega) (by omega)
  have h3 : 0 ≤ (a - x) * (b + y) := Int.mul_nonneg (by omega) (by omega)
  have h4 : 0 ≤ (a + x) * (b - y) := Int.mul_nonneg (by omega) (by omega)
  have f1 : (a - x) * (b - y) = a * b - a * y - x * b + x * y := by grind
  have f2 : (a + x) * (b + y) = a * b + a * y + x * b + x * y := by grind
  have f3 : (a - x) * (b + y) = a * b + a * y - x * b - x * y := by grind
  have f4 : (a + x) * (b - y) = a * b - a * y + x * b - x * y := by grind
  constructor <;> omega
/-- the k highest rows of q times F, at place i -/
def mulT (q F : Nat → Int) (n T : Nat) : Nat → Nat → Int
  | 0, _ => 0
  | k + 1, i => mulT q F n T k i + if T - k ≤ i ∧ i - (T - k) ≤ n then q (T - k) * F (i - (T - k)) else 0
/-- q is the quotient of g by F -/
def divOk (q F g : Nat → Int) (n T : Nat) : Prop := (∀ j, j ≤ T → -1000000000 ≤ q j ∧ q j ≤ 1000000000) ∧ ∀ i, i ≤ T + n → g i = mulT q F n T (T + 1) i
theorem mulT_cong {q q' F : Nat → Int} {n T : Nat} {i : Nat} : ∀ k, k ≤ T + 1 → (∀ j, T < j + k → j ≤ T → q j = q' j) → mulT q F n T k i = mulT q' F n T k i
  | 0, _, _ => rfl
  | k + 1, hk, h => by
    show mulT q F n T k i + _ = mulT q' F n T k i + _
    rw [mulT_cong k (by omega) (fun j h1 h2 => h j (by omega) h2), h (T - k) (by omega) (by omega)]
theorem mulT_stop {q F : Nat → Int} {n T k i : Nat} (h : T + n < i + k) : ∀ z, k + z ≤ T + 1 → mulT q F n T (k + z) i = mulT q F n T k i
  | 0, _ => rfl
  | z + 1, hz => by
    show mulT q F n T (k + z) i + (if T - (k + z) ≤ i ∧ i - (T - (k + z)) ≤ n then q (T - (k + z)) * F (i - (T - (k + z))) else 0) = _
    rw [mulT_stop h z (by omega), if_neg (by omega), Int.add_zero]
/-- the next head is the next number of the quotient times the divisor's last -/
theorem head_eq {q F g : Nat → Int} {n T c : Nat} (hc : c ≤ T) (h : divOk q F g n T) : g (c + n) - mulT q F n T (T - c) (c + n) = q c * F n := by
  have h1 := h.2 (c + n) (by omega)
  have h2 := mulT_stop (q := q) (F := F) (n := n) (T := T) (k := T - c + 1) (i := c + n) (by omega) c (by omega)
  rw [show T - c + 1 + c = T + 1 by omega] at h2
  rw [h2] at h1
  have h3 : mulT q F n T (T - c + 1) (c + n) = mulT q F n T (T - c) (c + n) + if T - (T - c) ≤ c + n ∧ c + n - (T - (T - c)) ≤ n then q (T - (T - c)) * F (c + n - (T - (T - c))) else 0 := rfl
  rw [show T - (T - c) = c by omega, if_pos (by omega), show c + n - c = n by omega] at h3
  omega
def dqI (F g : Nat → Int) (n T Q c : Nat) (cur qc : Nat → Int64) : Prop :=
  (∀ i, i < c + n → (cur i).toInt = g i - mulT (toI qc) F n T (T + 1 - c) i) ∧
  (∀ j, c ≤ j → j ≤ T → -1000000000 ≤ (qc j).toInt ∧ (qc j).toInt ≤ 1000000000) ∧
  (∀ i, c + n ≤ i → i ≤ T + n → g i = mulT (toI qc) F n T (T + 1 - c) i) ∧
  (∀ q, divOk q F g n T → ∀ j, c ≤ j → j ≤ T → q j = (qc j).toInt) ∧
  (∀ j, j < Q → (j < c ∨ T < j) → qc j = 0) ∧
  (∀ i, i < c + n → -(1000000000 + (T + 1 - c : Nat) * 9999000000000 : Int) ≤ (cur i).toInt ∧ (cur i).toInt ≤ 1000000000 + (T + 1 - c : Nat) * 9999000000000)
theorem dq_head {F g : Nat → Int} {n T Q c : Nat} {cur qc : Nat → Int64} (hc : c ≤ T) (h : dqI F g n T Q (c + 1) cur qc) {q : Nat → Int} (hq : divOk q F g n T) : (cur (c + n)).toInt = q c * F n := by
  rw [h.1 (c + n) (by omega), ← head_eq hc hq, show T + 1 - (c + 1) = T - c by omega]
  congr 1
  exact mulT_cong _ (by omega) (fun j h1 h2 => (h.2.2.2.1 q hq j (by omega) h2).symm)
theorem dq_step {F g : Nat → Int} {n T Q c : Nat} {cur cur' qc : Nat → Int64} {x : Int64} (hc : c ≤ T) (hF : ∀ t, t ≤ n → -9999 ≤ F t ∧ F t ≤ 9999) (h0 : F n ≠ 0) (h : dqI F g n T Q (c + 1) cur qc) (hx : -1000000000 ≤ x.toInt ∧ x.toInt ≤ 1000000000) (hh : x.toInt * F n = (cur (c + n)).toInt) (hn : ∀ i, i < c + n → (cur' i).toInt = (cur i).toInt - if c ≤ i ∧ i - c < n then x.toInt * F (i - c) else 0) : dqI F g n T Q c cur' (vp_updL qc c x) := by
  have hkk : T + 1 - c = T - c + 1 := by omega
  have hk2 : T + 1 - (c + 1) = T - c := by omega
  have hcg : ∀ i, mulT (toI (vp_updL qc c x)) F n T (T - c) i = mulT (toI qc) F n T (T - c) i := fun i => mulT_cong _ (by omega) (fun j h1 h2 => by show (vp_updL qc c x j).toInt = _; rw [upL_n (by omega)]; rfl)
  have hst : ∀ i, mulT (toI (vp_updL qc c x)) F n T (T - c + 1) i = mulT (toI qc) F n T (T - c) i + if c ≤ i ∧ i - c ≤ n then x.toInt * F (i - c) else 0 := fun i => by
    show mulT (toI (vp_updL qc c x)) F n T (T - c) i + (if T - (T - c) ≤ i ∧ i - (T - (T - c)) ≤ n then toI (vp_updL qc c x) (T - (T - c)) * F (i - (T - (T - c))) else 0) = _
    rw [hcg, show T - (T - c) = c by omega, show toI (vp_updL qc c x) c = x.toInt by show (vp_updL qc c x c).toInt = _; rw [upL_s]]
  obtain ⟨a1, a2, a3, a4, a5, a6⟩ := h
  rw [hk2] at a1 a3 a6
  refine ⟨fun i hi => ?_, fun j h1 h2 => ?_, fun i h1 h2 => ?_, fun q hq j h1 h2 => ?_, fun j hj h1 => ?_, fun i hi => ?_⟩
  · rw [hkk, hst, hn i hi, a1 i (by omega)]
    by_cases hb : c ≤ i
    · rw [if_pos (by omega), if_pos (by omega)]; omega
    · rw [if_neg (by omega), if_neg (by omega)]; omega
  · by_cases hj : j = c
    · subst hj; rw [upL_s]; exact hx
    · rw [upL_n hj]; exact a2 j (by omega) h2
  · rw [hkk, hst]
    by_cases hb : i = c + n
    · subst hb
      have := a1 (c + n) (by omega)
      rw [if_pos (by omega), show c + n - c = n by omega]; omega
    · rw [if_neg (by omega), Int.add_zero]; exact a3 i (by omega) h2
  · by_cases hj : j = c
    · subst hj
      rw [upL_s]
      have h9 := dq_head h2 (show dqI F g n T Q (j + 1) cur qc from ⟨by rw [hk2]; exact a1, a2, by rw [hk2]; exact a3, a4, a5, by rw [hk2]; exact a6⟩) hq
      rw [← hh] at h9
      exact (Int.eq_of_mul_eq_mul_right h0 h9).symm
    · rw [upL_n hj]; exact a4 q hq j (by omega) h2
  · rw [upL_n (by omega)]; exact a5 j hj (by omega)
  · rw [hn i hi, hkk]
    have h9 := a6 i (by omega)
    by_cases hb : c ≤ i
    · have := mulB hx (hF (i - c) (by omega))
      rw [if_pos (by omega)]; omega
    · rw [if_neg (by omega)]; omega
theorem dq_end {F g : Nat → Int} {n T Q : Nat} {cur qc : Nat → Int64} (h : dqI F g n T Q 0 cur qc) (h0 : ∀ i, i < n → cur i = 0) : divOk (toI qc) F g n T := by
  refine ⟨fun j hj => h.2.1 j (by omega) hj, fun i hi => ?_⟩
  by_cases hin : i < n
  · have h1 := h.1 i (by omega)
    rw [h0 i hin] at h1
    have : (0 : Int64).toInt = 0 := by decide
    rw [show T + 1 - 0 = T + 1 from rfl] at h1
    omega
  · exact h.2.2.1 i (by omega) hi
theorem dq_no {F g : Nat → Int} {n T Q i : Nat} {cur qc : Nat → Int64} (h : dqI F g n T Q 0 cur qc) (hi : i < n) (h0 : cur i ≠ 0) (q : Nat → Int) : ¬ divOk q F g n T := fun hq => by
  have h1 := h.1 i (by omega)
  have h2 := hq.2 i (by omega)
  rw [mulT_cong (q' := toI qc) (T + 1) (by omega) (fun j _ hj => h.2.2.2.1 q hq j (by omega) hj)] at h2
  rw [show T + 1 - 0 = T + 1 from rfl, ← h2] at h1
  exact h0 (L0.mp (by omega))
theorem tdiv_bd {x y : Int} : (x.tdiv y).natAbs ≤ x.natAbs := by
  rw [Int.natAbs_tdiv]
  exact Nat.div_le_self _ _
theorem tdiv_mul_bd {x y : Int} : (x.tdiv y * y).natAbs ≤ x.natAbs := by
  rw [Int.natAbs_mul, Int.natAbs_tdiv]
  exact Nat.div_mul_le_self _ _
abbrev BX6_divides (w0 : Wd) (Post : Option Value → Wd → Prop) (w : Wd) (pc : Nat) (ls : List (Nat × Value)) (st : List Value) : Prop := GP "divides" RX6 cX6_divides 11 (some .boolean) 1 39 none w0 Post w pc ls st
abbrev EX6_divides (As : List Value) (w : Wd) (Post : Option Value → Wd → Prop) : Prop := EP yX6_divides cX6_divides 11 (some .boolean) 1 As w Post
theorem dq_inner {w0 w : Wd} {Post : Option Value → Wd → Prop} {o b n e z R Q T : Nat} {f : Nat → Int32} {g s : Nat → Int64} (ho : w[o]? = some (oP n b)) (hb : w[b]? = some (aI 0 (n + 1) f)) (he : w[e]? = some (aL R g)) (hz : w[z]? = some (aL Q s)) (hze : z ≠ e) (heo : e ≠ o) (heb : e ≠ b) (hzo : z ≠ o) (hzb : z ≠ b) (hR : R < 2147483648) (hQ : Q < 2147483648) (hn : n ≤ 12) (hT : T ≤ 12) (hTR : T + n < R) (hTQ : T < Q) (hf : ∀ t, t ≤ n → -9999 ≤ (f t).toInt ∧ (f t).toInt ≤ 9999) (hl : f n ≠ 0) {c : Nat} {x : Int64} {c0 qc : Nat → Int64} (hc : c ≤ T) (hx : -1000000000 ≤ x.toInt ∧ x.toInt ≤ 1000000000) (h0 : ∀ i, i < c + n → -1000000000000000 ≤ (c0 i).toInt ∧ (c0 i).toInt ≤ 1000000000000000) (hk : ∀ cur : Nat → Int64, (∀ i, i < c + n → (cur i).toInt = (c0 i).toInt - if c ≤ i ∧ i - c < n then x.toInt * toJ f (i - c) else 0) → BX6_divides w0 Post ((w.set z (aL Q qc)).set e (aL R cur)) 164 [(5, .int (nI c)), (4, .int (f n)), (0, .ref o), (1, .ref e), (2, .int (nI (T + n))), (3, .ref z)] []) : ∀ (k J : Nat) (cur : Nat → Int64), n = J + k → (∀ i, i < c + n → (cur i).toInt = (c0 i).toInt - if c ≤ i ∧ i - c < J then x.toInt * toJ f (i - c) else 0) → BX6_divides w0 Post ((w.set z (aL Q qc)).set e (aL R cur)) 121 [(10, .int (nI J)), (8, .long x), (5, .int (nI c)), (4, .int (f n)), (0, .ref o), (1, .ref e), (2, .int (nI (T + n))), (3, .ref z)] [] := by
  intro k
  induction k with
  | zero =>
    intro J cur hJ h
    refine g_lload (pc := 121) 1 dX6_divides_121 rfl ?_
    refine g_lconst (pc := 123) (v := 0) dX6_divides_123 (by decide) ?_
    refine g_lcmp_eq (pc := 124) 164 dX6_divides_124 dX6_divides_125 (by decide) (fun hx0 => ?_) (fun hx0 => ?_)
    · exact GP.lsub [(5, .int (nI c)), (4, .int (f n)), (0, .ref o), (1, .ref e), (2, .int (nI (T + n))), (3, .ref z)] (by simp) (hk cur (fun i hi => by rw [h i hi, show x.toInt = 0 from L0.mpr hx0, Int.zero_mul]; simp))
    · refine g_iload (pc := 128) 0 dX6_divides_128 rfl ?_
      refine g_aload_n (pc := 130) 4 dX6_divides_130 rfl rfl ?_
      refine g_get (pc := 131) dX6_divides_131 fk_X6_18 (lk_ne heo (lk_ne hzo ho)) rfl ?_
      refine n_icmp_ge (pc := 134) 164 dX6_divides_134 (by decide) (by omega) (by omega) (fun hj => ?_) (fun hj => ?_)
      · exact GP.lsub [(5, .int (nI c)), (4, .int (f n)), (0, .ref o), (1, .ref e), (2, .int (nI (T + n))), (3, .ref z)] (by simp) (hk cur (fun i hi => by rw [h i hi, show n = J by omega]))
      · exact absurd hj (by omega)
  | succ k ih =>
    intro J cur hJ h
    refine g_lload (pc := 121) 1 dX6_divides_121 rfl ?_
    refine g_lconst (pc := 123) (v := 0) dX6_divides_123 (by decide) ?_
    refine g_lcmp_eq (pc := 124) 164 dX6_divides_124 dX6_divides_125 (by decide) (fun hx0 => ?_) (fun hx0 => ?_)
    · exact GP.lsub [(5, .int (nI c)), (4, .int (f n)), (0, .ref o), (1, .ref e), (2, .int (nI (T + n))), (3, .ref z)] (by simp) (hk cur (fun i hi => by rw [h i hi, show x.toInt = 0 from L0.mpr hx0, Int.zero_mul]; simp))
    · refine g_iload (pc := 128) 0 dX6_divides_128 rfl ?_
      refine g_aload_n (pc := 130) 4 dX6_divides_130 rfl rfl ?_
      refine g_get (pc := 131) dX6_divides_131 fk_X6_18 (lk_ne heo (lk_ne hzo ho)) rfl ?_
      refine n_icmp_ge (pc := 134) 164 dX6_divides_134 (by decide) (by omega) (by omega) (fun hj => ?_) (fun hj => ?_)
      · exact absurd hj (by omega)
      · have hfj := hf J (by omega)
        have hb0 := h0 (c + J) (by omega)
        have hcj := h (c + J) (by omega)
        rw [if_neg (by omega), Int.sub_zero] at hcj
        have hmb := mulB hx hfj
        have em : (x * (f J).toInt64).toInt = x.toInt * (f J).toInt := by rw [L_mul (by rw [IL]; omega) (by rw [IL]; omega), IL]
        have es : (cur (c + J) - x * (f J).toInt64).toInt = (c0 (c + J)).toInt - x.toInt * (f J).toInt := by rw [L_sub (by rw [em]; omega) (by rw [em]; omega), em, hcj]
        refine g_aload_n (pc := 137) 5 dX6_divides_137 rfl rfl ?_
        refine g_iload (pc := 138) 2 dX6_divides_138 rfl ?_
        refine g_iload (pc := 140) 0 dX6_divides_140 rfl ?_
        refine n_iadd (pc := 142) dX6_divides_142 ?_
        refine g_dup2 (pc := 143) dX6_divides_143 rfl rfl ?_
        refine g_lald (pc := 144) (c + J) dX6_divides_144 (lk_eq (lk_ne hze he)) (IXn (by omega) (by omega)) ?_
        refine g_lload (pc := 145) 1 dX6_divides_145 rfl ?_
        refine g_aload_n (pc := 147) 4 dX6_divides_147 rfl rfl ?_
        refine g_get (pc := 148) dX6_divides_148 fk_X6_24 (lk_ne heo (lk_ne hzo ho)) rfl ?_
        refine g_iload (pc := 151) 0 dX6_divides_151 rfl ?_
        refine g_iald (pc := 153) J dX6_divides_153 (lk_ne heb (lk_ne hzb hb)) (IXn (by omega) (by omega)) ?_
        refine g_i2l (pc := 154) dX6_divides_154 ?_
        refine g_lmul (pc := 155) dX6_divides_155 ?_
        refine g_lsub (pc := 156) dX6_divides_156 ?_
        refine g_last (pc := 157) (c + J) dX6_divides_157 (lk_eq (lk_ne hze he)) (IXn (by omega) (by omega)) ?_
        refine GP.weq ((w.set z (aL Q qc)).set e (aL R (vp_updL cur (c + J) ((cur (c + J)) - (x * ((f J).toInt64)))))) (by rw [List.set_set]) ?_
        refine n_iinc (pc := 158) (c := 1) [(10, .int (nI (J + 1))), (8, .long x), (5, .int (nI c)), (4, .int (f n)), (0, .ref o), (1, .ref e), (2, .int (nI (T + n))), (3, .ref z)] 0 dX6_divides_158 rfl (by decide) (by decide) rfl ?_
        refine g_goto (pc := 161) 121 dX6_divides_161 (by decide) ?_
        refine GP.lsub _ (by simp) (ih (J + 1) _ (by omega) (fun i hi => ?_))
        by_cases hij : i = c + J
        · subst hij; rw [upL_s, es, if_pos (by omega), show c + J - c = J by omega]; rfl
        · rw [upL_n hij, h i hi]
          by_cases hcc : c ≤ i ∧ i - c < J
          · rw [if_pos hcc, if_pos (by omega)]
          · rw [if_neg hcc, if_neg (by omega)]
theorem dq_last {w0 w : Wd} {o b n e z R Q T : Nat} {f : Nat → Int32} {g s : Nat → Int64} (ho : w[o]? = some (oP n b)) (hb : w[b]? = some (aI 0 (n + 1) f)) (he : w[e]? = some (aL R g)) (hz : w[z]? = some (aL Q s)) (hze : z ≠ e) (heo : e ≠ o) (heb : e ≠ b) (hzo : z ≠ o) (hzb : z ≠ b) (hR : R < 2147483648) (hQ : Q < 2147483648) (hn : n ≤ 12) (hT : T ≤ 12) (hTR : T + n < R) (hTQ : T < Q) (hf : ∀ t, t ≤ n → -9999 ≤ (f t).toInt ∧ (f t).toInt ≤ 9999) (hl : f n ≠ 0) {cur qc : Nat → Int64} (hI : dqI (toJ f) (toI g) n T Q 0 cur qc) : ∀ (k i : Nat), n = i + k → (∀ j, j < i → cur j = 0) → BX6_divides w0 (fun r w' => (r = some (.int (nI 1)) ∧ ∃ cur qc : Nat → Int64, divOk (toI qc) (toJ f) (toI g) n T ∧ (∀ j, j < Q → T < j → qc j = 0) ∧ w' = ((w.set z (aL Q qc)).set e (aL R cur))) ∨ (r = some (.int (nI 0)) ∧ (∀ q, ¬ divOk q (toJ f) (toI g) n T) ∧ ∃ cur qc : Nat → Int64, w' = ((w.set z (aL Q qc)).set e (aL R cur)))) ((w.set z (aL Q qc)).set e (aL R cur)) 173 [(5, .int (nI i)), (4, .int (f n)), (0, .ref o), (1, .ref e), (2, .int (nI (T + n))), (3, .ref z)] [] := by
  intro k
  induction k with
  | zero =>
    intro i hi h
    refine g_iload (pc := 173) 0 dX6_divides_173 rfl ?_
    refine g_aload_n (pc := 175) 2 dX6_divides_175 rfl rfl ?_
    refine g_get (pc := 176) dX6_divides_176 fk_X6_18 (lk_ne heo (lk_ne hzo ho)) rfl ?_
    refine n_icmp_ge (pc := 179) 199 dX6_divides_179 (by decide) (by omega) (by omega) (fun hj => ?_) (fun hj => ?_)
    · refine g_iconst (pc := 199) (v := nI 1) dX6_divides_199 (by decide) ?_
      exact g_iret (pc := 200) dX6_divides_200 (Or.inl ⟨rfl, cur, qc, dq_end hI (fun j hj => h j (by omega)), fun j h1 h2 => hI.2.2.2.2.1 j h1 (Or.inr h2), rfl⟩)
    · exact absurd hj (by omega)
  | succ k ih =>
    intro i hi h
    refine g_iload (pc := 173) 0 dX6_divides_173 rfl ?_
    refine g_aload_n (pc := 175) 2 dX6_divides_175 rfl rfl ?_
    refine g_get (pc := 176) dX6_divides_176 fk_X6_18 (lk_ne heo (lk_ne hzo ho)) rfl ?_
    refine n_icmp_ge (pc := 179) 199 dX6_divides_179 (by decide) (by omega) (by omega) (fun hj => ?_) (fun hj => ?_)
    · exact absurd hj (by omega)
    · refine g_aload_n (pc := 182) 3 dX6_divides_182 rfl rfl ?_
      refine g_iload (pc := 183) 0 dX6_divides_183 rfl ?_
      refine g_lald (pc := 185) i dX6_divides_185 (lk_eq (lk_ne hze he)) (IXn (by omega) (by omega)) ?_
      refine g_lconst (pc := 186) (v := 0) dX6_divides_186 (by decide) ?_
      refine g_lcmp_eq (pc := 187) 193 dX6_divides_187 dX6_divides_188 (by decide) (fun h0 => ?_) (fun h0 => ?_)
      · refine n_iinc (pc := 193) (c := 1) [(5, .int (nI (i + 1))), (4, .int (f n)), (0, .ref o), (1, .ref e), (2, .int (nI (T + n))), (3, .ref z)] 0 dX6_divides_193 rfl (by decide) (by decide) rfl ?_
        refine g_goto (pc := 196) 173 dX6_divides_196 (by decide) ?_
        refine GP.lsub _ (by intro y hy; exact hy) (ih (i + 1) (by omega) (fun j hj => ?_))
        by_cases hji : j = i
        · subst hji; exact h0
        · exact h j (by omega)
      · refine g_iconst (pc := 191) (v := nI 0) dX6_divides_191 (by decide) ?_
        exact g_iret (pc := 192) dX6_divides_192 (Or.inr ⟨rfl, dq_no hI (i := i) (by omega) h0, cur, qc, rfl⟩)
theorem dq_outer {w0 w : Wd} {o b n e z R Q T : Nat} {f : Nat → Int32} {g s : Nat → Int64} (ho : w[o]? = some (oP n b)) (hb : w[b]? = some (aI 0 (n + 1) f)) (he : w[e]? = some (aL R g)) (hz : w[z]? = some (aL Q s)) (hze : z ≠ e) (heo : e ≠ o) (heb : e ≠ b) (hzo : z ≠ o) (hzb : z ≠ b) (hR : R < 2147483648) (hQ : Q < 2147483648) (hn : n ≤ 12) (hT : T ≤ 12) (hTR : T + n < R) (hTQ : T < Q) (hf : ∀ t, t ≤ n → -9999 ≤ (f t).toInt ∧ (f t).toInt ≤ 9999) (hl : f n ≠ 0) : ∀ (c : Nat) (cur qc : Nat → Int64), c ≤ T + 1 → dqI (toJ f) (toI g) n T Q c cur qc → BX6_divides w0 (fun r w' => (r = some (.int (nI 1)) ∧ ∃ cur qc : Nat → Int64, divOk (toI qc) (toJ f) (toI g) n T ∧ (∀ j, j < Q → T < j → qc j = 0) ∧ w' = ((w.set z (aL Q qc)).set e (aL R cur))) ∨ (r = some (.int (nI 0)) ∧ (∀ q, ¬ divOk q (toJ f) (toI g) n T) ∧ ∃ cur qc : Nat → Int64, w' = ((w.set z (aL Q qc)).set e (aL R cur)))) ((w.set z (aL Q qc)).set e (aL R cur)) 56 [(5, .int (nI c - 1)), (4, .int (f n)), (0, .ref o), (1, .ref e), (2, .int (nI (T + n))), (3, .ref z)] [] := by
  intro c
  induction c with
  | zero =>
    intro cur qc hc h
    rw [nI_dec0]
    refine g_iload (pc := 56) 0 dX6_divides_56 rfl ?_
    refine g_if_lt (pc := 58) 170 dX6_divides_58 (by decide) (fun hj => ?_) (fun hj => ?_)
    · refine g_iconst (pc := 170) (v := nI 0) dX6_divides_170 (by decide) ?_
      refine g_istore (pc := 171) [(5, .int (nI 0)), (4, .int (f n)), (0, .ref o), (1, .ref e), (2, .int (nI (T + n))), (3, .ref z)] dX6_divides_171 (by decide) rfl ?_
      exact GP.lsub _ (by simp) (dq_last ho hb he hz hze heo heb hzo hzb hR hQ hn hT hTR hTQ hf hl h n 0 (by omega) (fun j hj => absurd hj (by omega)))
    · exact absurd (by decide) hj
  | succ c ih =>
    intro cur qc hc h
    rw [nI_pred]
    have hl2 : (f n).toInt ≠ 0 := fun g9 => hl (I0.mp g9)
    have hlL : (f n).toInt64.toInt = (f n).toInt := IL _
    have hl3 : (f n).toInt64 ≠ 0 := fun g9 => hl2 (by rw [← hlL]; exact L0.mpr g9)
    have hhd := h.2.2.2.2.2 (c + n) (by omega)
    have hTc : ((T + 1 - (c + 1) : Nat) : Int) ≤ 12 := by omega
    have ed : (cur (c + n) / (f n).toInt64).toInt = (cur (c + n)).toInt.tdiv (f n).toInt := by rw [L_div (by omega), hlL]
    have b1 := tdiv_bd (x := (cur (c + n)).toInt) (y := (f n).toInt)
    have b2 := tdiv_mul_bd (x := (cur (c + n)).toInt) (y := (f n).toInt)
    have em : (cur (c + n) / (f n).toInt64 * (f n).toInt64).toInt = (cur (c + n)).toInt.tdiv (f n).toInt * (f n).toInt := by rw [L_mul (by rw [ed, hlL]; omega) (by rw [ed, hlL]; omega), ed, hlL]
    have hno : ∀ q, divOk q (toJ f) (toI g) n T → (cur (c + n)).toInt = q c * (f n).toInt ∧ (cur (c + n) / (f n).toInt64).toInt = q c ∧ -1000000000 ≤ q c ∧ q c ≤ 1000000000 := fun q hq => by
      have h9 : (cur (c + n)).toInt = q c * (f n).toInt := dq_head (by omega) h hq
      exact ⟨h9, by rw [ed, h9, Int.mul_tdiv_cancel _ hl2], hq.1 c (by omega)⟩
    have k1 : (1000000000 : Int64).toInt = 1000000000 := by decide
    have k2 : (-1000000000 : Int64).toInt = -1000000000 := by decide
    refine g_iload (pc := 56) 0 dX6_divides_56 rfl ?_
    refine n_if_lt (pc := 58) 170 dX6_divides_58 (by decide) (by omega) ?_
    refine g_aload_n (pc := 61) 3 dX6_divides_61 rfl rfl ?_
    refine g_iload (pc := 62) 0 dX6_divides_62 rfl ?_
    refine g_aload_n (pc := 64) 2 dX6_divides_64 rfl rfl ?_
    refine g_get (pc := 65) dX6_divides_65 fk_X6_18 (lk_ne heo (lk_ne hzo ho)) rfl ?_
    refine n_iadd (pc := 68) dX6_divides_68 ?_
    refine g_lald (pc := 69) (c + n) dX6_divides_69 (lk_eq (lk_ne hze he)) (IXn (by omega) (by omega)) ?_
    refine g_lstore (pc := 70) [(6, .long (cur (c + n))), (5, .int (nI c)), (4, .int (f n)), (0, .ref o), (1, .ref e), (2, .int (nI (T + n))), (3, .ref z)] dX6_divides_70 (by decide) rfl ?_
    refine g_lload (pc := 72) 0 dX6_divides_72 rfl ?_
    refine g_iload (pc := 74) 2 dX6_divides_74 rfl ?_
    refine g_i2l (pc := 76) dX6_divides_76 ?_
    refine g_ldiv (pc := 77) dX6_divides_77 hl3 ?_
    refine g_lstore (pc := 78) [(8, .long ((cur (c + n)) / ((f n).toInt64))), (6, .long (cur (c + n))), (5, .int (nI c)), (4, .int (f n)), (0, .ref o), (1, .ref e), (2, .int (nI (T + n))), (3, .ref z)] dX6_divides_78 (by decide) rfl ?_
    refine g_lload (pc := 80) 0 dX6_divides_80 rfl ?_
    refine g_iload (pc := 82) 3 dX6_divides_82 rfl ?_
    refine g_i2l (pc := 84) dX6_divides_84 ?_
    refine g_lmul (pc := 85) dX6_divides_85 ?_
    refine g_lload (pc := 86) 1 dX6_divides_86 rfl ?_
    refine g_lcmp_ne (pc := 88) 110 dX6_divides_88 dX6_divides_89 (by decide) (fun h1 => ?_) (fun h1 => ?_)
    · refine g_iconst (pc := 110) (v := nI 0) dX6_divides_110 (by decide) ?_
      exact g_iret (pc := 111) dX6_divides_111 (Or.inr ⟨rfl, fun q hq => by have h9 := hno q hq; exact h1 (Int64.toInt_inj.mp (by rw [em, ← ed, h9.2.1, ← h9.1])), cur, qc, rfl⟩)
    · refine g_lload (pc := 92) 0 dX6_divides_92 rfl ?_
      refine g_ldc2 (pc := 94) kc_X6_38 dX6_divides_94 ?_
      refine g_lcmp_gt (pc := 97) 110 dX6_divides_97 dX6_divides_98 (by decide) (fun h2 => ?_) (fun h2 => ?_)
      · rw [Int64.lt_iff_toInt_lt, k1] at h2
        refine g_iconst (pc := 110) (v := nI 0) dX6_divides_110 (by decide) ?_
        exact g_iret (pc := 111) dX6_divides_111 (Or.inr ⟨rfl, fun q hq => by have h9 := hno q hq; omega, cur, qc, rfl⟩)
      · rw [Int64.lt_iff_toInt_lt, k1] at h2
        refine g_lload (pc := 101) 0 dX6_divides_101 rfl ?_
        refine g_ldc2 (pc := 103) kc_X6_40 dX6_divides_103 ?_
        refine g_lcmp_ge (pc := 106) 112 dX6_divides_106 dX6_divides_107 (by decide) (fun h3 => ?_) (fun h3 => ?_)
        · rw [Int64.le_iff_toInt_le, k2] at h3
          have hpl : (cur (c + n) / (f n).toInt64).toInt * (f n).toInt = (cur (c + n)).toInt := by rw [ed, ← em, Classical.not_not.mp h1]
          refine g_aload_n (pc := 112) 7 dX6_divides_112 rfl rfl ?_
          refine g_iload (pc := 113) 2 dX6_divides_113 rfl ?_
          refine g_lload (pc := 115) 0 dX6_divides_115 rfl ?_
          refine g_last (pc := 117) c dX6_divides_117 (lk_ne (Ne.symm hze) (lk_eq hz)) (IXn (by omega) (by omega)) ?_
          refine GP.weq ((w.set z (aL Q (vp_updL qc c ((cur (c + n)) / ((f n).toInt64))))).set e (aL R cur)) (by rw [List.set_comm _ _ (Ne.symm hze), List.set_set]) ?_
          refine g_iconst (pc := 118) (v := nI 0) dX6_divides_118 (by decide) ?_
          refine g_istore (pc := 119) [(10, .int (nI 0)), (8, .long ((cur (c + n)) / ((f n).toInt64))), (6, .long (cur (c + n))), (5, .int (nI c)), (4, .int (f n)), (0, .ref o), (1, .ref e), (2, .int (nI (T + n))), (3, .ref z)] dX6_divides_119 (by decide) rfl ?_
          refine GP.lsub [(10, .int (nI 0)), (8, .long (cur (c + n) / (f n).toInt64)), (5, .int (nI c)), (4, .int (f n)), (0, .ref o), (1, .ref e), (2, .int (nI (T + n))), (3, .ref z)] (by simp) ?_
          refine dq_inner ho hb he hz hze heo heb hzo hzb hR hQ hn hT hTR hTQ hf hl (c0 := cur) (by omega) ⟨h3, by omega⟩ (fun i hi => ?_) (fun cur2 h2 => ?_) n 0 cur (by omega) (fun i hi => ?_)
          · have h9 := h.2.2.2.2.2 i (by omega)
            omega
          · refine g_iinc (pc := 164) [(5, .int (nI c - 1)), (4, .int (f n)), (0, .ref o), (1, .ref e), (2, .int (nI (T + n))), (3, .ref z)] 0 dX6_divides_164 rfl (dec1 _) (by decide) rfl ?_
            refine g_goto (pc := 167) 56 dX6_divides_167 (by decide) ?_
            exact ih cur2 _ (by omega) (dq_step (by omega) hf hl2 h ⟨h3, by omega⟩ hpl h2)
          · rw [if_neg (by omega), Int.sub_zero]
        · rw [Int64.le_iff_toInt_le, k2] at h3
          refine g_iconst (pc := 110) (v := nI 0) dX6_divides_110 (by decide) ?_
          exact g_iret (pc := 111) dX6_divides_111 (Or.inr ⟨rfl, fun q hq => by have h9 := hno q hq; omega, cur, qc, rfl⟩)
theorem sp_divides (w : Wd) {o b n e z R Q T : Nat} {f : Nat → Int32} {g s : Nat → Int64} (ho : w[o]? = some (oP n b)) (hb : w[b]? = some (aI 0 (n + 1) f)) (he : w[e]? = some (aL R g)) (hz : w[z]? = some (aL Q s)) (hze : z ≠ e) (heo : e ≠ o) (heb : e ≠ b) (hzo : z ≠ o) (hzb : z ≠ b) (hR : R < 2147483648) (hQ : Q < 2147483648) (hn : n ≤ 12) (hT : T ≤ 12) (hTR : T + n < R) (hTQ : T < Q) (hf : ∀ t, t ≤ n → -9999 ≤ (f t).toInt ∧ (f t).toInt ≤ 9999) (hl : f n ≠ 0) (hg : ∀ i, i ≤ T + n → -1000000000 ≤ (g i).toInt ∧ (g i).toInt ≤ 1000000000) : EX6_divides [.ref o, .ref e, .int (nI (T + n)), .ref z] w (fun r w' => (r = some (.int (nI 1)) ∧ ∃ cur qc : Nat → Int64, divOk (toI qc) (toJ f) (toI g) n T ∧ (∀ j, j < Q → T < j → qc j = 0) ∧ w' = ((w.set z (aL Q qc)).set e (aL R cur))) ∨ (r = some (.int (nI 0)) ∧ (∀ q, ¬ divOk q (toJ f) (toI g) n T) ∧ ∃ cur qc : Nat → Int64, w' = ((w.set z (aL Q qc)).set e (aL R cur)))) := by
  refine EP.of (plainFor_of_name (by decide)) [(0, .ref o), (1, .ref e), (2, .int (nI (T + n))), (3, .ref z)] rfl (Nat.le_of_ble_eq_true rfl) (fun r wf h => by rcases h with ⟨rfl, -⟩ | ⟨rfl, -⟩; exact Or.inr rfl; exact Or.inl rfl) ?_
  show BX6_divides w _ w 0 [(0, .ref o), (1, .ref e), (2, .int (nI (T + n))), (3, .ref z)] []
  refine g_aload_n (pc := 0) 0 dX6_divides_0 rfl rfl ?_
  refine g_get (pc := 1) dX6_divides_1 fk_X6_24 ho rfl ?_
  refine g_aload_n (pc := 4) 0 dX6_divides_4 rfl rfl ?_
  refine g_get (pc := 5) dX6_divides_5 fk_X6_18 ho rfl ?_
  refine g_iald (pc := 8) n dX6_divides_8 hb (IXn (by omega) (by omega)) ?_
  refine g_istore (pc := 9) [(4, .int (f n)), (0, .ref o), (1, .ref e), (2, .int (nI (T + n))), (3, .ref z)] dX6_divides_9 (by decide) rfl ?_
  refine g_iload (pc := 11) 0 dX6_divides_11 rfl ?_
  refine g_if_eq (pc := 13) 41 dX6_divides_13 (by decide) (fun h1 => ?_) (fun h1 => ?_)
  · exact absurd h1 hl
  · refine g_iload_n (pc := 16) 3 dX6_divides_16 rfl rfl ?_
    refine g_aload_n (pc := 17) 1 dX6_divides_17 rfl rfl ?_
    refine g_get (pc := 18) dX6_divides_18 fk_X6_18 ho rfl ?_
    refine n_icmp_lt (pc := 21) 41 dX6_divides_21 (by decide) (by omega) (by omega) (fun h1 => ?_) (fun h1 => ?_)
    · exact absurd h1 (by omega)
    · refine g_iload_n (pc := 24) 3 dX6_divides_24 rfl rfl ?_
      refine g_aload_n (pc := 25) 2 dX6_divides_25 rfl rfl ?_
      refine g_alen (pc := 26) dX6_divides_26 he (by decide) ?_
      refine n_icmp_ge (pc := 27) 41 dX6_divides_27 (by decide) (by omega) (by omega) (fun h1 => ?_) (fun h1 => ?_)
      · exact absurd h1 (by omega)
      · refine g_iload_n (pc := 30) 3 dX6_divides_30 rfl rfl ?_
        refine g_aload_n (pc := 31) 1 dX6_divides_31 rfl rfl ?_
        refine g_get (pc := 32) dX6_divides_32 fk_X6_18 ho rfl ?_
        refine n_isub (pc := 35) dX6_divides_35 (by omega) ?_
        refine g_aload_n (pc := 36) 4 dX6_divides_36 rfl rfl ?_
        refine g_alen (pc := 37) dX6_divides_37 hz (by decide) ?_
        refine n_icmp_lt (pc := 38) 43 dX6_divides_38 (by decide) (by omega) (by omega) (fun h1 => ?_) (fun h1 => ?_)
        · refine g_aload_n (pc := 43) 4 dX6_divides_43 rfl rfl ?_
          refine g_lconst (pc := 44) (v := 0) dX6_divides_44 (by decide) ?_
          refine g_callS (pc := 45) [.ref z, .long 0] dX6_divides_45 cs_X6_32.1 cs_X6_32.2 rfl rfl (Nat.le_of_ble_eq_true rfl) (by decide) (by decide) (sp_fill1 _ z Q s 0 hz hQ) ?_
          rintro _ w9 ⟨rfl, e9⟩
          refine GP.weq _ e9 ?_
          refine g_iload_n (pc := 48) 3 dX6_divides_48 rfl rfl ?_
          refine g_aload_n (pc := 49) 1 dX6_divides_49 rfl rfl ?_
          refine g_get (pc := 50) dX6_divides_50 fk_X6_18 (lk_ne hzo ho) rfl ?_
          refine n_isub (pc := 53) dX6_divides_53 (by omega) ?_
          refine GP.ti (nI T) (by rw [Nat.add_sub_cancel]) ?_
          refine g_istore (pc := 54) [(5, .int (nI T)), (4, .int (f n)), (0, .ref o), (1, .ref e), (2, .int (nI (T + n))), (3, .ref z)] dX6_divides_54 (by decide) rfl ?_
          refine GP.weq ((w.set z (aL Q (fillF s 0 Q 0))).set e (aL R g)) (by rw [set_same (lk_ne hze he)]) ?_
          have h9 := dq_outer (w0 := w) ho hb he hz hze heo heb hzo hzb hR hQ hn hT hTR hTQ hf hl (T + 1) g (fillF s 0 Q 0) (by omega) ?_
          · rw [nI_pred] at h9
            exact GP.lsub _ (by simp) h9
          · refine ⟨fun i hi => ?_, fun j h1 h2 => absurd h1 (by omega), fun i h1 h2 => absurd h1 (by omega), fun q hq j h1 h2 => absurd h1 (by omega), fun j hj h1 => L0.mp (fill0 hj), fun i hi => ?_⟩
            · rw [show T + 1 - (T + 1) = 0 by omega]
              show _ = (g i).toInt - 0
              omega
            · have := hg i (by omega)
              omega
        · exact absurd (by omega) h1
theorem sp_dividesShort (w : Wd) {o b n e z R t : Nat} {f : Nat → Int32} {g : Nat → Int64} (ho : w[o]? = some (oP n b)) (hb : w[b]? = some (aI 0 (n + 1) f)) (he : w[e]? = some (aL R g)) (hn : n ≤ 12) (hl : f n ≠ 0) (hs : t < n) : EX6_divides [.ref o, .ref e, .int (nI t), .ref z] w (fun r w' => r = some (.int (nI 0)) ∧ w' = w) := by
  refine EP.of (plainFor_of_name (by decide)) [(0, .ref o), (1, .ref e), (2, .int (nI t)), (3, .ref z)] rfl (Nat.le_of_ble_eq_true rfl) (fun r wf h => by obtain ⟨rfl, -⟩ := h; exact Or.inl rfl) ?_
  show BX6_divides w _ w 0 [(0, .ref o), (1, .ref e), (2, .int (nI t)), (3, .ref z)] []
  refine g_aload_n (pc := 0) 0 dX6_divides_0 rfl rfl ?_
  refine g_get (pc := 1) dX6_divides_1 fk_X6_24 ho rfl ?_
  refine g_aload_n (pc := 4) 0 dX6_divides_4 rfl rfl ?_
  refine g_get (pc := 5) dX6_divides_5 fk_X6_18 ho rfl ?_
  refine g_iald (pc := 8) n dX6_divides_8 hb (IXn (by omega) (by omega)) ?_
  refine g_istore (pc := 9) [(4, .int (f n)), (0, .ref o), (1, .ref e), (2, .int (nI t)), (3, .ref z)] dX6_divides_9 (by decide) rfl ?_
  refine g_iload (pc := 11) 0 dX6_divides_11 rfl ?_
  refine g_if_eq (pc := 13) 41 dX6_divides_13 (by decide) (fun h1 => ?_) (fun h1 => ?_)
  · exact absurd h1 hl
  · refine g_iload_n (pc := 16) 3 dX6_divides_16 rfl rfl ?_
    refine g_aload_n (pc := 17) 1 dX6_divides_17 rfl rfl ?_
    refine g_get (pc := 18) dX6_divides_18 fk_X6_18 ho rfl ?_
    refine n_icmp_lt (pc := 21) 41 dX6_divides_21 (by decide) (by omega) (by omega) (fun h1 => ?_) (fun h1 => ?_)
    · refine g_iconst (pc := 41) (v := nI 0) dX6_divides_41 (by decide) ?_
      exact g_iret (pc := 42) dX6_divides_42 ⟨rfl, rfl⟩
    · exact absurd hs h1
