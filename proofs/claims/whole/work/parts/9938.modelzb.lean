/-! the reference: layCyclotomic -/
/-- a list divided by one that ends in 1 -/
def pdv (F : List Int) : Nat → List Int → List Int → List Int
  | 0, _, q => q
  | k + 1, g, q => let c := g.getD (k + (F.length - 1)) 0; pdv F k ((List.range g.length).map (fun i => g.getD i 0 - (if k ≤ i ∧ i - k < F.length then c * F.getD (i - k) 0 else 0))) (c :: q)
/-- x to the n less 1, divided by the cyclotomic ones below d that divide n -/
def stP (n : Nat) : Nat → List Int
  | 0 => (List.range (n + 1)).map (fun i => if i = 0 then -1 else if i = n then 1 else 0)
  | d + 1 => if 1 ≤ d ∧ n % d = 0 then pdv (cyL.getD d []) ((stP n d).length - cyDg d) (stP n d) [] else stP n d
def stT (n d : Nat) : Nat := (stP n d).length - 1
def stG (n d j : Nat) : Int := (stP n d).getD j 0
def stC (n d : Nat) : Bool := decide (cyL.getD d [] ≠ []) && decide (cyDg d ≤ stT n d) && decide (stT n (d + 1) + cyDg d = stT n d) && (List.range (stT n d + 1)).all (fun i => decide (stG n d i = mulT (stG n (d + 1)) (cyG d) (cyDg d) (stT n (d + 1)) (stT n (d + 1) + 1) i))
def stB (n d : Nat) : Bool := decide (stT n d ≤ 42) && decide (stG n d (stT n d) ≠ 0) && (List.range (stT n d + 1)).all (fun i => decide (-100 ≤ stG n d i) && decide (stG n d i ≤ 100))
theorem st_c : ∀ n : Fin 43, cyL.getD n.1 [] ≠ [] → ∀ d : Fin 43, 1 ≤ d.1 → d.1 < n.1 → n.1 % d.1 = 0 → stC n.1 d.1 = true := by decide +kernel
theorem st_b : ∀ n : Fin 43, 1 ≤ n.1 → cyL.getD n.1 [] ≠ [] → ∀ d : Fin 43, 1 ≤ d.1 → d.1 ≤ n.1 → stB n.1 d.1 = true := by decide +kernel
theorem st_e : ∀ n : Fin 43, 1 ≤ n.1 → cyL.getD n.1 [] ≠ [] → stP n.1 n.1 = cyL.getD n.1 [] := by decide +kernel
theorem st_1 : ∀ n : Fin 43, 1 ≤ n.1 → stT n.1 1 = n.1 ∧ ∀ j : Fin 43, j.1 ≤ n.1 → stG n.1 1 j.1 = if j.1 = 0 then -1 else if j.1 = n.1 then 1 else 0 := by decide +kernel
/-- how many of 1 .. k have nothing in common with n -/
def phC (n : Nat) : Nat → Nat
  | 0 => 0
  | k + 1 => phC n k + if Nat.gcd (k + 1) n = 1 then 1 else 0
theorem ph_all : ∀ n : Fin 43, 1 ≤ n.1 → (cyL.getD n.1 [] ≠ [] → phC n.1 n.1 = cyDg n.1 ∧ phC n.1 n.1 ≤ 12) ∧ (cyL.getD n.1 [] = [] → 12 < phC n.1 n.1) := by decide +kernel
theorem phC_le (n : Nat) : ∀ k, phC n k ≤ k
  | 0 => Nat.le_refl _
  | k + 1 => by have := phC_le n k; show phC n k + _ ≤ k + 1; split <;> omega
theorem st_om {n d : Nat} (hn : n < 43) (hc : cyIs n) (hd : 1 ≤ d) (hdn : d < n) (hm : n % d = 0) : cyIs d ∧ cyDg d ≤ stT n d ∧ stT n (d + 1) = stT n d - cyDg d ∧ divOm (stG n (d + 1)) (cyG d) (stG n d) (cyDg d) (stT n d - cyDg d) := by
  have h := st_c ⟨n, hn⟩ hc ⟨d, by omega⟩ hd hdn hm
  have hb := st_b ⟨n, hn⟩ (by show 1 ≤ n; omega) hc ⟨d + 1, by omega⟩ (by show 1 ≤ d + 1; omega) hdn
  simp only [stC, Bool.and_eq_true, decide_eq_true_eq, List.all_eq_true] at h
  simp only [stB, Bool.and_eq_true, decide_eq_true_eq, List.all_eq_true] at hb
  obtain ⟨⟨⟨h1, h2⟩, h3⟩, h4⟩ := h
  obtain ⟨⟨b1, b2⟩, b3⟩ := hb
  have e : stT n (d + 1) = stT n d - cyDg d := by omega
  refine ⟨h1, h2, e, ?_, fun i hi => ?_⟩
  · intro j hj
    have := b3 j (List.mem_range.mpr (by omega))
    omega
  · rw [← e]
    exact h4 i (List.mem_range.mpr (by omega))
theorem st_hg {n d : Nat} (hn : n < 43) (hn1 : 1 ≤ n) (hc : cyIs n) (hd : 1 ≤ d) (hdn : d ≤ n) : hgO (stG n d) (stT n d) ∧ stT n d ≤ 42 := by
  have hb := st_b ⟨n, hn⟩ hn1 hc ⟨d, by omega⟩ hd hdn
  simp only [stB, Bool.and_eq_true, decide_eq_true_eq, List.all_eq_true] at hb
  obtain ⟨⟨b1, b2⟩, b3⟩ := hb
  refine ⟨⟨by omega, b2, fun i hi => ?_⟩, b1⟩
  have := b3 i (List.mem_range.mpr (by omega))
  omega
theorem om_uq {q q' F g : Nat → Int} {n T : Nat} (h : divOm q F g n T) (h' : divOm q' F g n T) (h0 : F n ≠ 0) : ∀ k, k ≤ T + 1 → ∀ j, T < j + k → j ≤ T → q j = q' j
  | 0, _, j, h1, h2 => absurd h1 (by omega)
  | k + 1, hk, j, h1, h2 => by
    by_cases e : T < j + k
    · exact om_uq h h' h0 k (by omega) j e h2
    · have hj : j = T - k := by omega
      have a := headm (c := j) h2 h
      have b := headm (c := j) h2 h'
      have cg : mulT q F n T (T - j) (j + n) = mulT q' F n T (T - j) (j + n) := mulT_cong _ (by omega) (fun i h3 h4 => om_uq h h' h0 k (by omega) i (by omega) h4)
      rw [cg] at a
      exact (Int.mul_eq_mul_right_iff h0).mp (a.symm.trans b)
def ciN (g : Nat → Int32) (m : Nat) : Prop := ∀ n, 1 ≤ n → n < m → (cyIs n → g (14 * n) = nI (cyDg n) ∧ ∀ p, p < 13 → (g (14 * n + 1 + p)).toInt = cyG n p) ∧ (¬ cyIs n → g (14 * n) = -1)
/-- the cells that are worked in; what is at hand -/
def lcO (w : Wd) (Y : Nat) (th st nu ld be ib ta fa re ig : Int32) (G : Nat → Int) (T : Nat) (g : Nat → Int32) : Prop := ∃ dd h d q r, w[Y]? = some (oM Y th st nu (nI T) dd ld be ib ta fa re ig) ∧ w[Y + 7]? = some (aL 60 h) ∧ haF h G T ∧ w[Y + 8]? = some (aL 14 d) ∧ w[Y + 9]? = some (aL 60 q) ∧ w[Y + 10]? = some (aL 60 r) ∧ w[Y + 11]? = some (aI 0 602 g)
def lcP (w : Wd) (Y : Nat) (th st nu ld be ib ta fa re ig : Int32) (g : Nat → Int32) : Prop := ∃ dg dd h d q r, w[Y]? = some (oM Y th st nu dg dd ld be ib ta fa re ig) ∧ w[Y + 7]? = some (aL 60 h) ∧ w[Y + 8]? = some (aL 14 d) ∧ w[Y + 9]? = some (aL 60 q) ∧ w[Y + 10]? = some (aL 60 r) ∧ w[Y + 11]? = some (aI 0 602 g)
def lcS (Y i : Nat) : Prop := i = Y ∨ (Y + 7 ≤ i ∧ i ≤ Y + 11)
abbrev BX12_layCyclotomic (w0 : Wd) (Post : Option Value → Wd → Prop) (w : Wd) (pc : Nat) (ls : List (Nat × Value)) (st : List Value) : Prop := GP "layCyclotomic" RX12 cX12_layCyclotomic 4 none 2 78 none w0 Post w pc ls st
abbrev EX12_layCyclotomic (As : List Value) (w : Wd) (Post : Option Value → Wd → Prop) : Prop := EP yX12_layCyclotomic cX12_layCyclotomic 4 none 2 As w Post
theorem lcy_in {w0 w : Wd} {Y n mn : Nat} {th st nu ld be ib ta fa re ig : Int32} {g : Nat → Int32} (hn : n < 43) (hn1 : 1 ≤ n) (hc : cyIs n) (hci : ciN g n) {Q : Option Value → Wd → Prop} (K : ∀ w2, lcO w2 Y th st nu ld be ib ta fa re ig (stG n n) (stT n n) g → FR (lcS Y) w w2 → BX12_layCyclotomic w0 Q w2 124 [(2, .int (nI mn)), (1, .int (nI n)), (0, .ref Y)] []) : ∀ (z d : Nat) (w1 : Wd), n = d + z → 1 ≤ d → lcO w1 Y th st nu ld be ib ta fa re ig (stG n d) (stT n d) g → FR (lcS Y) w w1 → BX12_layCyclotomic w0 Q w1 93 [(3, .int (nI d)), (2, .int (nI mn)), (1, .int (nI n)), (0, .ref Y)] [] := by
  intro z
  induction z with
  | zero =>
    intro d w1 hz hd1 hL hF1
    refine g_iload_n (pc := 93) 0 dX12_layCyclotomic_93 rfl rfl ?_
    refine g_iload_n (pc := 94) 2 dX12_layCyclotomic_94 rfl rfl ?_
    refine n_icmp_ge (pc := 95) 124 dX12_layCyclotomic_95 (by decide) (by omega) (by omega) (fun hb9 => ?_) (fun hb9 => ?_)
    · have e9 : d = n := by omega
      subst e9
      exact GP.lsub _ (by simp) (K w1 hL hF1)
    · exact absurd hb9 (by omega)
  | succ z ih =>
    intro d w1 hz hd1 hL hF1
    refine g_iload_n (pc := 93) 0 dX12_layCyclotomic_93 rfl rfl ?_
    refine g_iload_n (pc := 94) 2 dX12_layCyclotomic_94 rfl rfl ?_
    refine n_icmp_ge (pc := 95) 124 dX12_layCyclotomic_95 (by decide) (by omega) (by omega) (fun hb9 => ?_) (fun hb9 => ?_)
    · exact absurd hb9 (by omega)
    · have hml := Nat.mod_lt n (show 0 < d by omega)
      refine g_iload_n (pc := 98) 2 dX12_layCyclotomic_98 rfl rfl ?_
      refine g_iload_n (pc := 99) 0 dX12_layCyclotomic_99 rfl rfl ?_
      refine n_irem (pc := 100) dX12_layCyclotomic_100 (by omega) (by omega) (by omega) ?_
      refine n_if_ne (pc := 101) 118 dX12_layCyclotomic_101 (by decide) (by omega) (fun hm => ?_) (fun hm => ?_)
      · refine n_iinc (pc := 118) (c := 1) [(3, .int (nI (d + 1))), (2, .int (nI mn)), (1, .int (nI n)), (0, .ref Y)] 0 dX12_layCyclotomic_118 rfl (by decide) (by decide) rfl ?_
        refine g_goto (pc := 121) 93 dX12_layCyclotomic_121 (by decide) ?_
        have eS : stP n (d + 1) = stP n d := by show (if 1 ≤ d ∧ n % d = 0 then _ else stP n d) = _; rw [if_neg (by omega)]
        have eT : stT n (d + 1) = stT n d := by unfold stT; rw [eS]
        have eG : stG n (d + 1) = stG n d := by funext j; unfold stG; rw [eS]
        exact GP.lsub _ (by simp) (ih (d + 1) w1 (by omega) (by omega) (by rw [eT, eG]; exact hL) hF1)
      · obtain ⟨o1, o2, o3, o4⟩ := st_om hn hc hd1 (by omega) (by omega)
        obtain ⟨hG, hG42⟩ := st_hg hn hn1 hc hd1 (by omega)
        obtain ⟨hG', hG42'⟩ := st_hg hn hn1 hc (show 1 ≤ d + 1 by omega) (by omega)
        have hfd := cy_fd (n := d) (by omega) o1
        have hfd1 := hfd.1
        obtain ⟨ddA, hA, dA, qA, rA, cYA, c7A, hhA, c8A, c9A, c10A, c11A⟩ := id hL
        refine g_aload_n (pc := 104) 3 dX12_layCyclotomic_104 rfl rfl ?_
        refine g_iload_n (pc := 105) 0 dX12_layCyclotomic_105 rfl rfl ?_
        refine g_callV (pc := 106) [.int (nI d)] dX12_layCyclotomic_106 cv_X12_157.1 cv_X12_157.2.1 cv_X12_157.2.2.1 cv_X12_157.2.2.2 cYA rfl rfl (Nat.le_of_ble_eq_true rfl) (by decide) (by decide) (mp_takeCircle _ cYA c8A c11A (n := d) (by omega) (fun h1 => (hci d h1 (by omega)).1 o1)) ?_
        rintro _ w9 ⟨rfl, d9, hd9, e9⟩
        refine GP.weq _ e9 ?_
        refine g_aload_n (pc := 109) 3 dX12_layCyclotomic_109 rfl rfl ?_
        obtain ⟨T9, hT9⟩ : ∃ T9, T9 = stT n d - cyDg d := ⟨_, rfl⟩
        have eT9 : stT n d = T9 + cyDg d := by omega
        have cYA2 : w1[Y]? = some (oM Y th st nu (nI (T9 + cyDg d)) ddA ld be ib ta fa re ig) := by rw [← eT9]; exact cYA
        rw [← hT9] at o4
        rw [eT9] at hhA hG hG42 ⊢
        refine g_callV (pc := 110) [] dX12_layCyclotomic_110 cv_X12_160.1 cv_X12_160.2.1 cv_X12_160.2.2.1 cv_X12_160.2.2.2 (lk_ne (show (Y + 8) ≠ Y by omega) (lk_eq cYA2)) rfl rfl (Nat.le_of_ble_eq_true rfl) (by decide) (by decide) (mp_divides _ (T := T9) (n := cyDg d) (F := cyG d) (g := stG n d) (lk_ne (show (Y + 8) ≠ Y by omega) (lk_eq cYA2)) (lk_ne (show (Y + 8) ≠ (Y + 7) by omega) (lk_ne (show Y ≠ (Y + 7) by omega) c7A)) (lk_eq (lk_ne (show Y ≠ (Y + 8) by omega) c8A)) (lk_ne (show (Y + 8) ≠ (Y + 9) by omega) (lk_ne (show Y ≠ (Y + 9) by omega) c9A)) (lk_ne (show (Y + 8) ≠ (Y + 10) by omega) (lk_ne (show Y ≠ (Y + 10) by omega) c10A)) hfd1 (by omega) (fun t ht => hd9 t (by omega)) hfd.2.2 hfd.2.1 (fun i hi => hhA i hi) (fun i hi => hG.2.2 i hi)) ?_
        rintro _ w9 (⟨rfl, qc, cu, hq, hz9, e9⟩ | ⟨rfl, hno, -⟩)
        case inr => exact absurd o4 (hno _)
        refine GP.weq _ e9 ?_
        refine g_pop (pc := 113) dX12_layCyclotomic_113 rfl ?_
        refine g_aload_n (pc := 114) 3 dX12_layCyclotomic_114 rfl rfl ?_
        refine g_callV (pc := 115) [] dX12_layCyclotomic_115 cv_X12_163.1 cv_X12_163.2.1 cv_X12_163.2.2.1 cv_X12_163.2.2.2 (lk_ne (show (Y + 10) ≠ Y by omega) (lk_ne (show (Y + 9) ≠ Y by omega) (lk_ne (show (Y + 8) ≠ Y by omega) (lk_eq cYA2)))) rfl rfl (Nat.le_of_ble_eq_true rfl) (by decide) (by decide) (mp_takeQuotient _ (lk_ne (show (Y + 10) ≠ Y by omega) (lk_ne (show (Y + 9) ≠ Y by omega) (lk_ne (show (Y + 8) ≠ Y by omega) (lk_eq cYA2)))) (lk_ne (show (Y + 10) ≠ (Y + 7) by omega) (lk_ne (show (Y + 9) ≠ (Y + 7) by omega) (lk_ne (show (Y + 8) ≠ (Y + 7) by omega) (lk_ne (show Y ≠ (Y + 7) by omega) c7A)))) (lk_ne (show (Y + 10) ≠ (Y + 9) by omega) (lk_eq (lk_ne (show (Y + 8) ≠ (Y + 9) by omega) (lk_ne (show Y ≠ (Y + 9) by omega) c9A))))) ?_
        rintro _ w9 ⟨rfl, c, hcc, e9⟩
        have em : ∀ i, i < 60 → mvF hA qc 60 i = qc i := fun i hi => if_pos hi
        have huq : ∀ j, j ≤ T9 → (qc j).toInt = stG n (d + 1) j := fun j hj => om_uq hq o4 hfd.2.1 (T9 + 1) (Nat.le_refl _) j (by omega) hj
        rw [o3, ← hT9] at hG'
        have ec : c = T9 + 1 := top_uq hcc (by omega) (by show (mvF hA qc 60 T9).toInt ≠ 0; rw [em T9 (by omega), huq T9 (Nat.le_refl _)]; exact hG'.2.1) (fun j h1 h2 => by show (mvF hA qc 60 j).toInt = 0; rw [em j h2, hz9 j h2 h1]; rfl)
        subst ec
        rw [dgN_s] at e9
        refine GP.weq _ e9 ?_
        refine GP.weq (((((w1.set Y (.inr (11, .int th :: .int st :: .ref (Y + 1) :: .ref (Y + 2) :: .ref (Y + 3) :: .ref (Y + 4) :: .int nu :: .ref (Y + 5) :: .ref (Y + 6) :: .ref (Y + 7) :: .int (nI T9) :: .ref (Y + 8) :: .int (nI (cyDg d)) :: .ref (Y + 9) :: .ref (Y + 10) :: .ref (Y + 11) :: .ref (Y + 12) :: .int ld :: .int be :: .int ib :: .ref (Y + 13) :: .ref (Y + 14) :: .ref (Y + 15) :: .ref (Y + 16) :: .ref (Y + 17) :: .int ta :: .int fa :: .int re :: .int ig :: .ref (Y + 18) :: .ref (Y + 19) :: .ref (Y + 20) :: .ref (Y + 21) :: []))).set (Y + 8) (aL 14 d9)).set (Y + 9) (aL 60 qc)).set (Y + 10) (aL 60 cu)).set (Y + 7) (aL 60 (mvF hA qc 60))) (by rw [show ((((((w1.set Y (.inr (11, .int th :: .int st :: .ref (Y + 1) :: .ref (Y + 2) :: .ref (Y + 3) :: .ref (Y + 4) :: .int nu :: .ref (Y + 5) :: .ref (Y + 6) :: .ref (Y + 7) :: .int (nI (T9 + cyDg d)) :: .ref (Y + 8) :: .int (nI (cyDg d)) :: .ref (Y + 9) :: .ref (Y + 10) :: .ref (Y + 11) :: .ref (Y + 12) :: .int ld :: .int be :: .int ib :: .ref (Y + 13) :: .ref (Y + 14) :: .ref (Y + 15) :: .ref (Y + 16) :: .ref (Y + 17) :: .int ta :: .int fa :: .int re :: .int ig :: .ref (Y + 18) :: .ref (Y + 19) :: .ref (Y + 20) :: .ref (Y + 21) :: []))).set (Y + 8) (aL 14 d9)).set (Y + 9) (aL 60 qc)).set (Y + 10) (aL 60 cu)).set (Y + 7) (aL 60 (mvF hA qc 60))).set Y (.inr (11, .int th :: .int st :: .ref (Y + 1) :: .ref (Y + 2) :: .ref (Y + 3) :: .ref (Y + 4) :: .int nu :: .ref (Y + 5) :: .ref (Y + 6) :: .ref (Y + 7) :: .int (nI T9) :: .ref (Y + 8) :: .int (nI (cyDg d)) :: .ref (Y + 9) :: .ref (Y + 10) :: .ref (Y + 11) :: .ref (Y + 12) :: .int ld :: .int be :: .int ib :: .ref (Y + 13) :: .ref (Y + 14) :: .ref (Y + 15) :: .ref (Y + 16) :: .ref (Y + 17) :: .int ta :: .int fa :: .int re :: .int ig :: .ref (Y + 18) :: .ref (Y + 19) :: .ref (Y + 20) :: .ref (Y + 21) :: []))) = (((((w1.set Y (.inr (11, .int th :: .int st :: .ref (Y + 1) :: .ref (Y + 2) :: .ref (Y + 3) :: .ref (Y + 4) :: .int nu :: .ref (Y + 5) :: .ref (Y + 6) :: .ref (Y + 7) :: .int (nI T9) :: .ref (Y + 8) :: .int (nI (cyDg d)) :: .ref (Y + 9) :: .ref (Y + 10) :: .ref (Y + 11) :: .ref (Y + 12) :: .int ld :: .int be :: .int ib :: .ref (Y + 13) :: .ref (Y + 14) :: .ref (Y + 15) :: .ref (Y + 16) :: .ref (Y + 17) :: .int ta :: .int fa :: .int re :: .int ig :: .ref (Y + 18) :: .ref (Y + 19) :: .ref (Y + 20) :: .ref (Y + 21) :: []))).set (Y + 8) (aL 14 d9)).set (Y + 9) (aL 60 qc)).set (Y + 10) (aL 60 cu)).set (Y + 7) (aL 60 (mvF hA qc 60))) from by rw [List.set_comm _ _ (show (Y + 7) ≠ Y by omega), List.set_comm _ _ (show (Y + 10) ≠ Y by omega), List.set_comm _ _ (show (Y + 9) ≠ Y by omega), List.set_comm _ _ (show (Y + 8) ≠ Y by omega), List.set_set]]) ?_
        refine n_iinc (pc := 118) (c := 1) [(3, .int (nI (d + 1))), (2, .int (nI mn)), (1, .int (nI n)), (0, .ref Y)] 0 dX12_layCyclotomic_118 rfl (by decide) (by decide) rfl ?_
        refine g_goto (pc := 121) 93 dX12_layCyclotomic_121 (by decide) ?_
        refine GP.lsub _ (by simp) (ih (d + 1) _ (by omega) (by omega) ?_ (hF1.tr (FR.st (c' := aL 60 (mvF hA qc 60)) (FR.st (c' := aL 60 cu) (FR.st (c' := aL 60 qc) (FR.st (c' := aL 14 d9) (FR.st (c' := .inr (11, .int th :: .int st :: .ref (Y + 1) :: .ref (Y + 2) :: .ref (Y + 3) :: .ref (Y + 4) :: .int nu :: .ref (Y + 5) :: .ref (Y + 6) :: .ref (Y + 7) :: .int (nI T9) :: .ref (Y + 8) :: .int (nI (cyDg d)) :: .ref (Y + 9) :: .ref (Y + 10) :: .ref (Y + 11) :: .ref (Y + 12) :: .int ld :: .int be :: .int ib :: .ref (Y + 13) :: .ref (Y + 14) :: .ref (Y + 15) :: .ref (Y + 16) :: .ref (Y + 17) :: .int ta :: .int fa :: .int re :: .int ig :: .ref (Y + 18) :: .ref (Y + 19) :: .ref (Y + 20) :: .ref (Y + 21) :: [])) FR.rf cYA2 rfl (by unfold lcS; omega)) (lk_ne (show Y ≠ (Y + 8) by omega) c8A) rfl (by unfold lcS; omega)) (lk_ne (show (Y + 8) ≠ (Y + 9) by omega) (lk_ne (show Y ≠ (Y + 9) by omega) c9A)) rfl (by unfold lcS; omega)) (lk_ne (show (Y + 9) ≠ (Y + 10) by omega) (lk_ne (show (Y + 8) ≠ (Y + 10) by omega) (lk_ne (show Y ≠ (Y + 10) by omega) c10A))) rfl (by unfold lcS; omega)) (lk_ne (show (Y + 10) ≠ (Y + 7) by omega) (lk_ne (show (Y + 9) ≠ (Y + 7) by omega) (lk_ne (show (Y + 8) ≠ (Y + 7) by omega) (lk_ne (show Y ≠ (Y + 7) by omega) c7A)))) rfl (by unfold lcS; omega))))
        rw [o3, ← hT9]
        refine ⟨_, _, _, _, _, (lk_ne (show (Y + 7) ≠ Y by omega) (lk_ne (show (Y + 10) ≠ Y by omega) (lk_ne (show (Y + 9) ≠ Y by omega) (lk_ne (show (Y + 8) ≠ Y by omega) (lk_eq cYA2))))), (lk_eq (lk_ne (show (Y + 10) ≠ (Y + 7) by omega) (lk_ne (show (Y + 9) ≠ (Y + 7) by omega) (lk_ne (show (Y + 8) ≠ (Y + 7) by omega) (lk_ne (show Y ≠ (Y + 7) by omega) c7A))))), fun i hi => ?_, (lk_ne (show (Y + 7) ≠ (Y + 8) by omega) (lk_ne (show (Y + 10) ≠ (Y + 8) by omega) (lk_ne (show (Y + 9) ≠ (Y + 8) by omega) (lk_eq (lk_ne (show Y ≠ (Y + 8) by omega) c8A))))), (lk_ne (show (Y + 7) ≠ (Y + 9) by omega) (lk_ne (show (Y + 10) ≠ (Y + 9) by omega) (lk_eq (lk_ne (show (Y + 8) ≠ (Y + 9) by omega) (lk_ne (show Y ≠ (Y + 9) by omega) c9A))))), (lk_ne (show (Y + 7) ≠ (Y + 10) by omega) (lk_eq (lk_ne (show (Y + 9) ≠ (Y + 10) by omega) (lk_ne (show (Y + 8) ≠ (Y + 10) by omega) (lk_ne (show Y ≠ (Y + 10) by omega) c10A))))), (lk_ne (show (Y + 7) ≠ (Y + 11) by omega) (lk_ne (show (Y + 10) ≠ (Y + 11) by omega) (lk_ne (show (Y + 9) ≠ (Y + 11) by omega) (lk_ne (show (Y + 8) ≠ (Y + 11) by omega) (lk_ne (show Y ≠ (Y + 11) by omega) c11A)))))⟩
        rw [em i hi]
        by_cases e : i ≤ T9
        · rw [if_pos e]; exact huq i e
        · rw [if_neg e, hz9 i hi (by omega)]; rfl
theorem lcy_out {w0 w1 : Wd} {Y n mn : Nat} {th st nu dg dd ld be ib ta fa re ig : Int32} {h : Nat → Int64} {g : Nat → Int32} (hY : w1[Y]? = some (oM Y th st nu dg dd ld be ib ta fa re ig)) (h7 : w1[Y + 7]? = some (aL 60 h)) (h11 : w1[Y + 11]? = some (aI 0 602 g)) (hn : n < 43) (hh : ∀ k, k < 13 → -2147483648 ≤ (h k).toInt ∧ (h k).toInt < 2147483648) {Q : Option Value → Wd → Prop} (K : ∀ cur : Nat → Int32, (∀ i, ¬ (14 * n + 1 ≤ i ∧ i < 14 * n + 14) → cur i = g i) → (∀ k, k < 13 → (cur (14 * n + 1 + k)).toInt = (h k).toInt) → BX12_layCyclotomic w0 Q (w1.set (Y + 11) (aI 0 602 cur)) 158 [(2, .int (nI mn)), (1, .int (nI n)), (0, .ref Y)] []) : ∀ (z k : Nat) (cur : Nat → Int32), 13 = k + z → (∀ i, ¬ (14 * n + 1 ≤ i ∧ i < 14 * n + 1 + k) → cur i = g i) → (∀ j, j < k → (cur (14 * n + 1 + j)).toInt = (h j).toInt) → BX12_layCyclotomic w0 Q (w1.set (Y + 11) (aI 0 602 cur)) 126 [(3, .int (nI k)), (2, .int (nI mn)), (1, .int (nI n)), (0, .ref Y)] [] := by
  intro z
  induction z with
  | zero =>
    intro k cur hz h1 h2
    refine g_iload_n (pc := 126) 0 dX12_layCyclotomic_126 rfl rfl ?_
    refine g_bipush (pc := 127) (v := nI 12) dX12_layCyclotomic_127 (by decide) ?_
    refine n_icmp_gt (pc := 129) 158 dX12_layCyclotomic_129 (by decide) (by omega) (by omega) (fun hb9 => ?_) (fun hb9 => ?_)
    · exact GP.lsub _ (by simp) (K cur (fun i hi => h1 i (by omega)) (fun j hj => h2 j (by omega)))
    · exact absurd (show 12 < k by omega) hb9
  | succ z ih =>
    intro k cur hz h1 h2
    refine g_iload_n (pc := 126) 0 dX12_layCyclotomic_126 rfl rfl ?_
    refine g_bipush (pc := 127) (v := nI 12) dX12_layCyclotomic_127 (by decide) ?_
    refine n_icmp_gt (pc := 129) 158 dX12_layCyclotomic_129 (by decide) (by omega) (by omega) (fun hb9 => ?_) (fun hb9 => ?_)
    · exact absurd hb9 (by omega)
    · refine g_aload_n (pc := 132) 3 dX12_layCyclotomic_132 rfl rfl ?_
      refine g_get (pc := 133) dX12_layCyclotomic_133 fk_X12_42 (lk_ne (show (Y + 11) ≠ Y by omega) hY) rfl ?_
      refine g_bipush (pc := 136) (v := nI 14) dX12_layCyclotomic_136 (by decide) ?_
      refine g_iload_n (pc := 138) 2 dX12_layCyclotomic_138 rfl rfl ?_
      refine n_imul (pc := 139) dX12_layCyclotomic_139 ?_
      refine g_iconst (pc := 140) (v := nI 1) dX12_layCyclotomic_140 (by decide) ?_
      refine n_iadd (pc := 141) dX12_layCyclotomic_141 ?_
      refine g_iload_n (pc := 142) 0 dX12_layCyclotomic_142 rfl rfl ?_
      refine n_iadd (pc := 143) dX12_layCyclotomic_143 ?_
      refine g_aload_n (pc := 144) 3 dX12_layCyclotomic_144 rfl rfl ?_
      refine g_get (pc := 145) dX12_layCyclotomic_145 fk_X12_29 (lk_ne (show (Y + 11) ≠ Y by omega) hY) rfl ?_
      refine g_iload_n (pc := 148) 0 dX12_layCyclotomic_148 rfl rfl ?_
      refine g_lald (pc := 149) k dX12_layCyclotomic_149 (lk_ne (show (Y + 11) ≠ (Y + 7) by omega) h7) (IXn (by omega) (by omega)) ?_
      refine g_l2i (pc := 150) dX12_layCyclotomic_150 ?_
      refine g_iast (pc := 151) (((14 * n) + 1) + k) dX12_layCyclotomic_151 (lk_eq h11) (IXn (by omega) (by omega)) ?_
      refine GP.weq (w1.set (Y + 11) (aI 0 602 (upd cur (((14 * n) + 1) + k) ((h k).toInt32)))) (by rw [List.set_set]) ?_
      refine n_iinc (pc := 152) (c := 1) [(3, .int (nI (k + 1))), (2, .int (nI mn)), (1, .int (nI n)), (0, .ref Y)] 0 dX12_layCyclotomic_152 rfl (by decide) (by decide) rfl ?_
      refine g_goto (pc := 155) 126 dX12_layCyclotomic_155 (by decide) ?_
      refine GP.lsub _ (by simp) (ih (k + 1) _ (by omega) (fun i hi => ?_) (fun j hj => ?_))
      · rw [upd_n (by omega)]; exact h1 i (by omega)
      · by_cases e : j = k
        · rw [e, upd_s]
          have := hh k (by omega)
          exact LI this.1 this.2
        · rw [upd_n (by omega)]; exact h2 j (by omega)
theorem lcy_ph {w0 w1 : Wd} {Y n : Nat} (hn : n < 43) {Q : Option Value → Wd → Prop} (K : BX12_layCyclotomic w0 Q w1 40 [(2, .int (nI (phC n n))), (1, .int (nI n)), (0, .ref Y)] []) : ∀ (z k : Nat), n = k + z → BX12_layCyclotomic w0 Q w1 12 [(3, .int (nI (k + 1))), (2, .int (nI (phC n k))), (1, .int (nI n)), (0, .ref Y)] [] := by
  intro z
  induction z with
  | zero =>
    intro k hz
    refine g_iload_n (pc := 12) 0 dX12_layCyclotomic_12 rfl rfl ?_
    refine g_iload_n (pc := 13) 2 dX12_layCyclotomic_13 rfl rfl ?_
    refine n_icmp_gt (pc := 14) 40 dX12_layCyclotomic_14 (by decide) (by omega) (by omega) (fun hb9 => ?_) (fun hb9 => ?_)
    · have e9 : k = n := by omega
      rw [e9]
      exact GP.lsub _ (by simp) K
    · exact absurd (show n < k + 1 by omega) hb9
  | succ z ih =>
    intro k hz
    have hpl := phC_le n k
    have hg1 : Nat.gcd (k + 1) n ≤ k + 1 := Nat.gcd_le_left _ (by omega)
    refine g_iload_n (pc := 12) 0 dX12_layCyclotomic_12 rfl rfl ?_
    refine g_iload_n (pc := 13) 2 dX12_layCyclotomic_13 rfl rfl ?_
    refine n_icmp_gt (pc := 14) 40 dX12_layCyclotomic_14 (by decide) (by omega) (by omega) (fun hb9 => ?_) (fun hb9 => ?_)
    · exact absurd hb9 (by omega)
    · refine g_iload_n (pc := 17) 1 dX12_layCyclotomic_17 rfl rfl ?_
      refine g_iload_n (pc := 18) 0 dX12_layCyclotomic_18 rfl rfl ?_
      refine g_iload_n (pc := 19) 2 dX12_layCyclotomic_19 rfl rfl ?_
      refine g_callS (pc := 20) [.int (nI (k + 1)), .int (nI n)] dX12_layCyclotomic_20 cs_X12_152.1 cs_X12_152.2 rfl rfl (Nat.le_of_ble_eq_true rfl) (by decide) (by decide) (mp_common _ (va := ((k + 1 : Nat) : Int)) (vb := ((n : Nat) : Int)) (nI_toInt (by omega)) (nI_toInt (by omega)) (by omega) (by omega) (by omega) (by omega)) ?_
      rintro _ w9 ⟨rfl, e9⟩
      refine GP.weq _ e9 ?_
      refine GP.ti (nI (Nat.gcd (k + 1) n)) (by rw [Int.natAbs_natCast, Int.natAbs_natCast]) ?_
      refine g_iconst (pc := 23) (v := nI 1) dX12_layCyclotomic_23 (by decide) ?_
      refine n_icmp_ne (pc := 24) 31 dX12_layCyclotomic_24 (by decide) (by omega) (by omega) (fun hg => ?_) (fun hg => ?_)
      · refine g_iconst (pc := 31) (v := nI 0) dX12_layCyclotomic_31 (by decide) ?_
        refine n_iadd (pc := 32) dX12_layCyclotomic_32 ?_
        refine GP.ti (nI (phC n (k + 1))) (by congr 1; show _ = phC n k + (if Nat.gcd (k + 1) n = 1 then 1 else 0); rw [if_neg hg]) ?_
        refine g_istore_n (pc := 33) [(2, .int (nI (phC n (k + 1)))), (3, .int (nI (k + 1))), (1, .int (nI n)), (0, .ref Y)] dX12_layCyclotomic_33 rfl (by decide) rfl ?_
        refine n_iinc (pc := 34) (c := 1) [(3, .int (nI ((k + 1) + 1))), (2, .int (nI (phC n (k + 1)))), (1, .int (nI n)), (0, .ref Y)] 1 dX12_layCyclotomic_34 rfl (by decide) (by decide) rfl ?_
        refine g_goto (pc := 37) 12 dX12_layCyclotomic_37 (by decide) ?_
        exact GP.lsub _ (by simp) (ih (k + 1) (by omega))
      · refine g_iconst (pc := 27) (v := nI 1) dX12_layCyclotomic_27 (by decide) ?_
        refine g_goto (pc := 28) 32 dX12_layCyclotomic_28 (by decide) ?_
        refine n_iadd (pc := 32) dX12_layCyclotomic_32 ?_
        refine GP.ti (nI (phC n (k + 1))) (by congr 1; show _ = phC n k + (if Nat.gcd (k + 1) n = 1 then 1 else 0); rw [if_pos hg]) ?_
        refine g_istore_n (pc := 33) [(2, .int (nI (phC n (k + 1)))), (3, .int (nI (k + 1))), (1, .int (nI n)), (0, .ref Y)] dX12_layCyclotomic_33 rfl (by decide) rfl ?_
        refine n_iinc (pc := 34) (c := 1) [(3, .int (nI ((k + 1) + 1))), (2, .int (nI (phC n (k + 1)))), (1, .int (nI n)), (0, .ref Y)] 1 dX12_layCyclotomic_34 rfl (by decide) (by decide) rfl ?_
        refine g_goto (pc := 37) 12 dX12_layCyclotomic_37 (by decide) ?_
        exact GP.lsub _ (by simp) (ih (k + 1) (by omega))
theorem lcy_main {w0 w : Wd} {Y : Nat} {th st nu ld be ib ta fa re ig : Int32} : ∀ (z n : Nat) (w1 : Wd) (g : Nat → Int32), 43 = n + z → 1 ≤ n → lcP w1 Y th st nu ld be ib ta fa re ig g → ciN g n → FR (lcS Y) w w1 → BX12_layCyclotomic w0 (fun r w' => r = none ∧ ∃ g', lcP w' Y th st nu ld be ib ta fa re ig g' ∧ ciN g' 43 ∧ FR (lcS Y) w w') w1 2 [(1, .int (nI n)), (0, .ref Y)] [] := by
  intro z
  induction z with
  | zero =>
    intro n w1 g hz hn1 hL hci hF1
    refine g_iload_n (pc := 2) 0 dX12_layCyclotomic_2 rfl rfl ?_
    refine g_bipush (pc := 3) (v := nI 42) dX12_layCyclotomic_3 (by decide) ?_
    refine n_icmp_gt (pc := 5) 164 dX12_layCyclotomic_5 (by decide) (by omega) (by omega) (fun hb9 => ?_) (fun hb9 => ?_)
    · exact g_vret (pc := 164) dX12_layCyclotomic_164 ⟨rfl, g, hL, (show n = 43 by omega) ▸ hci, hF1⟩
    · exact absurd (show 42 < n by omega) hb9
  | succ z ih =>
    intro n w1 g hz hn1 hL hci hF1
    have hph : (cyIs n → phC n n = cyDg n ∧ phC n n ≤ 12) ∧ (cyL.getD n [] = [] → 12 < phC n n) := ph_all ⟨n, by omega⟩ hn1
    have hpl := phC_le n n
    obtain ⟨dgA, ddA, hA, dA, qA, rA, cYA, c7A, c8A, c9A, c10A, c11A⟩ := id hL
    refine g_iload_n (pc := 2) 0 dX12_layCyclotomic_2 rfl rfl ?_
    refine g_bipush (pc := 3) (v := nI 42) dX12_layCyclotomic_3 (by decide) ?_
    refine n_icmp_gt (pc := 5) 164 dX12_layCyclotomic_5 (by decide) (by omega) (by omega) (fun hb9 => ?_) (fun hb9 => ?_)
    · exact absurd hb9 (by omega)
    · refine g_iconst (pc := 8) (v := nI 0) dX12_layCyclotomic_8 (by decide) ?_
      refine g_istore_n (pc := 9) [(2, .int (nI 0)), (1, .int (nI n)), (0, .ref Y)] dX12_layCyclotomic_9 rfl (by decide) rfl ?_
      refine g_iconst (pc := 10) (v := nI 1) dX12_layCyclotomic_10 (by decide) ?_
      refine g_istore_n (pc := 11) [(3, .int (nI 1)), (2, .int (nI 0)), (1, .int (nI n)), (0, .ref Y)] dX12_layCyclotomic_11 rfl (by decide) rfl ?_
      refine GP.lsub _ (by simp; rfl) (lcy_ph (Y := Y) (n := n) (by omega) ?_ n 0 (by omega))
      obtain ⟨mn, hmn⟩ : ∃ mn, mn = phC n n := ⟨_, rfl⟩
      rw [← hmn] at hpl ⊢
      refine g_aload_n (pc := 40) 2 dX12_layCyclotomic_40 rfl rfl ?_
      refine g_get (pc := 41) dX12_layCyclotomic_41 fk_X12_42 cYA rfl ?_
      refine g_bipush (pc := 44) (v := nI 14) dX12_layCyclotomic_44 (by decide) ?_
      refine g_iload_n (pc := 46) 1 dX12_layCyclotomic_46 rfl rfl ?_
      refine n_imul (pc := 47) dX12_layCyclotomic_47 ?_
      refine g_iload_n (pc := 48) 0 dX12_layCyclotomic_48 rfl rfl ?_
      refine g_bipush (pc := 49) (v := nI 12) dX12_layCyclotomic_49 (by decide) ?_
      refine n_icmp_le (pc := 51) 58 dX12_layCyclotomic_51 (by decide) (by omega) (by omega) (fun h12 => ?_) (fun h12 => ?_)
      · have hc : cyIs n := Classical.byContradiction (fun g9 => by have := hph.2 (Classical.not_not.mp g9); have e1 : phC n n = mn := hmn.symm; omega)
        have hmd : mn = cyDg n := by rw [hmn]; exact (hph.1 hc).1
        have hci2 : ∀ cur : Nat → Int32, (∀ i, ¬ (14 * n ≤ i ∧ i < 14 * n + 14) → cur i = g i) → ((cyIs n → cur (14 * n) = nI (cyDg n) ∧ ∀ p, p < 13 → (cur (14 * n + 1 + p)).toInt = cyG n p) ∧ (¬ cyIs n → cur (14 * n) = -1)) → ciN cur (n + 1) := fun cur h1 h2 k hk1 hk2 => by
          by_cases e : k = n
          · rw [e]; exact h2
          · have h3 := hci k hk1 (by omega)
            exact ⟨fun g9 => ⟨by rw [h1 _ (by omega)]; exact (h3.1 g9).1, fun p hp => by rw [h1 _ (by omega)]; exact (h3.1 g9).2 p hp⟩, fun g9 => by rw [h1 _ (by omega)]; exact h3.2 g9⟩
        refine g_iload_n (pc := 58) 0 dX12_layCyclotomic_58 rfl rfl ?_
        refine g_iast (pc := 59) (14 * n) dX12_layCyclotomic_59 c11A (IXn (by omega) (by omega)) ?_
        refine g_iload_n (pc := 60) 0 dX12_layCyclotomic_60 rfl rfl ?_
        refine g_bipush (pc := 61) (v := nI 12) dX12_layCyclotomic_61 (by decide) ?_
        refine n_icmp_gt (pc := 63) 158 dX12_layCyclotomic_63 (by decide) (by omega) (by omega) (fun h13 => ?_) (fun h13 => ?_)
        · exact absurd h13 (by omega)
        · refine g_aload_n (pc := 66) 2 dX12_layCyclotomic_66 rfl rfl ?_
          refine g_callV (pc := 67) [] dX12_layCyclotomic_67 cv_X12_116.1 cv_X12_116.2.1 cv_X12_116.2.2.1 cv_X12_116.2.2.2 (lk_ne (show (Y + 11) ≠ Y by omega) cYA) rfl rfl (Nat.le_of_ble_eq_true rfl) (by decide) (by decide) (mp_empty _ (lk_ne (show (Y + 11) ≠ Y by omega) cYA) (lk_ne (show (Y + 11) ≠ (Y + 7) by omega) c7A)) ?_
          rintro _ w9 ⟨rfl, e9⟩
          refine GP.weq _ e9 ?_
          refine g_aload_n (pc := 70) 2 dX12_layCyclotomic_70 rfl rfl ?_
          refine g_get (pc := 71) dX12_layCyclotomic_71 fk_X12_29 (lk_eq (lk_ne (show (Y + 7) ≠ Y by omega) (lk_ne (show (Y + 11) ≠ Y by omega) cYA))) rfl ?_
          refine g_iconst (pc := 74) (v := nI 0) dX12_layCyclotomic_74 (by decide) ?_
          refine g_ldc2 (pc := 75) kc_X12_155 dX12_layCyclotomic_75 ?_
          refine g_last (pc := 78) 0 dX12_layCyclotomic_78 (lk_ne (show Y ≠ (Y + 7) by omega) (lk_eq (lk_ne (show (Y + 11) ≠ (Y + 7) by omega) c7A))) (IXn (by omega) (by omega)) ?_
          refine GP.weq (((w1.set (Y + 11) (aI 0 602 (upd g (14 * n) (nI mn)))).set (Y + 7) (aL 60 (vp_updL (zrF hA 60) 0 (-1)))).set Y (.inr (11, .int th :: .int st :: .ref (Y + 1) :: .ref (Y + 2) :: .ref (Y + 3) :: .ref (Y + 4) :: .int nu :: .ref (Y + 5) :: .ref (Y + 6) :: .ref (Y + 7) :: .int (-1) :: .ref (Y + 8) :: .int ddA :: .ref (Y + 9) :: .ref (Y + 10) :: .ref (Y + 11) :: .ref (Y + 12) :: .int ld :: .int be :: .int ib :: .ref (Y + 13) :: .ref (Y + 14) :: .ref (Y + 15) :: .ref (Y + 16) :: .ref (Y + 17) :: .int ta :: .int fa :: .int re :: .int ig :: .ref (Y + 18) :: .ref (Y + 19) :: .ref (Y + 20) :: .ref (Y + 21) :: []))) (by rw [List.set_comm _ _ (show Y ≠ (Y + 7) by omega), List.set_set]) ?_
          refine g_aload_n (pc := 79) 2 dX12_layCyclotomic_79 rfl rfl ?_
          refine g_get (pc := 80) dX12_layCyclotomic_80 fk_X12_29 (lk_eq (lk_ne (show (Y + 7) ≠ Y by omega) (lk_ne (show (Y + 11) ≠ Y by omega) cYA))) rfl ?_
          refine g_iload_n (pc := 83) 1 dX12_layCyclotomic_83 rfl rfl ?_
          refine g_lconst (pc := 84) (v := 1) dX12_layCyclotomic_84 (by decide) ?_
          refine g_last (pc := 85) n dX12_layCyclotomic_85 (lk_ne (show Y ≠ (Y + 7) by omega) (lk_eq (lk_ne (show (Y + 11) ≠ (Y + 7) by omega) c7A))) (IXn (by omega) (by omega)) ?_
          refine GP.weq (((w1.set (Y + 11) (aI 0 602 (upd g (14 * n) (nI mn)))).set (Y + 7) (aL 60 (vp_updL (vp_updL (zrF hA 60) 0 (-1)) n 1))).set Y (.inr (11, .int th :: .int st :: .ref (Y + 1) :: .ref (Y + 2) :: .ref (Y + 3) :: .ref (Y + 4) :: .int nu :: .ref (Y + 5) :: .ref (Y + 6) :: .ref (Y + 7) :: .int (-1) :: .ref (Y + 8) :: .int ddA :: .ref (Y + 9) :: .ref (Y + 10) :: .ref (Y + 11) :: .ref (Y + 12) :: .int ld :: .int be :: .int ib :: .ref (Y + 13) :: .ref (Y + 14) :: .ref (Y + 15) :: .ref (Y + 16) :: .ref (Y + 17) :: .int ta :: .int fa :: .int re :: .int ig :: .ref (Y + 18) :: .ref (Y + 19) :: .ref (Y + 20) :: .ref (Y + 21) :: []))) (by rw [List.set_comm _ _ (show Y ≠ (Y + 7) by omega), List.set_set]) ?_
          refine g_aload_n (pc := 86) 2 dX12_layCyclotomic_86 rfl rfl ?_
          refine g_iload_n (pc := 87) 1 dX12_layCyclotomic_87 rfl rfl ?_
          refine g_put (pc := 88) (.int th :: .int st :: .ref (Y + 1) :: .ref (Y + 2) :: .ref (Y + 3) :: .ref (Y + 4) :: .int nu :: .ref (Y + 5) :: .ref (Y + 6) :: .ref (Y + 7) :: .int (nI n) :: .ref (Y + 8) :: .int ddA :: .ref (Y + 9) :: .ref (Y + 10) :: .ref (Y + 11) :: .ref (Y + 12) :: .int ld :: .int be :: .int ib :: .ref (Y + 13) :: .ref (Y + 14) :: .ref (Y + 15) :: .ref (Y + 16) :: .ref (Y + 17) :: .int ta :: .int fa :: .int re :: .int ig :: .ref (Y + 18) :: .ref (Y + 19) :: .ref (Y + 20) :: .ref (Y + 21) :: []) dX12_layCyclotomic_88 fk_X12_113 (lk_eq (lk_ne (show (Y + 7) ≠ Y by omega) (lk_ne (show (Y + 11) ≠ Y by omega) cYA))) (Nat.le_of_ble_eq_true rfl) rfl rfl ?_
          refine GP.weq (((w1.set (Y + 11) (aI 0 602 (upd g (14 * n) (nI mn)))).set (Y + 7) (aL 60 (vp_updL (vp_updL (zrF hA 60) 0 (-1)) n 1))).set Y (.inr (11, .int th :: .int st :: .ref (Y + 1) :: .ref (Y + 2) :: .ref (Y + 3) :: .ref (Y + 4) :: .int nu :: .ref (Y + 5) :: .ref (Y + 6) :: .ref (Y + 7) :: .int (nI n) :: .ref (Y + 8) :: .int ddA :: .ref (Y + 9) :: .ref (Y + 10) :: .ref (Y + 11) :: .ref (Y + 12) :: .int ld :: .int be :: .int ib :: .ref (Y + 13) :: .ref (Y + 14) :: .ref (Y + 15) :: .ref (Y + 16) :: .ref (Y + 17) :: .int ta :: .int fa :: .int re :: .int ig :: .ref (Y + 18) :: .ref (Y + 19) :: .ref (Y + 20) :: .ref (Y + 21) :: []))) (by rw [List.set_set]) ?_
          refine g_iconst (pc := 91) (v := nI 1) dX12_layCyclotomic_91 (by decide) ?_
          refine g_istore_n (pc := 92) [(3, .int (nI 1)), (2, .int (nI mn)), (1, .int (nI n)), (0, .ref Y)] dX12_layCyclotomic_92 rfl (by decide) rfl ?_
          obtain ⟨st1, st2⟩ := st_1 ⟨n, by omega⟩ hn1
          have st1 : stT n 1 = n := st1
          obtain ⟨w2, e2⟩ : ∃ wy : Wd, wy = (((w1.set (Y + 11) (aI 0 602 (upd g (14 * n) (nI mn)))).set (Y + 7) (aL 60 (vp_updL (vp_updL (zrF hA 60) 0 (-1)) n 1))).set Y (.inr (11, .int th :: .int st :: .ref (Y + 1) :: .ref (Y + 2) :: .ref (Y + 3) :: .ref (Y + 4) :: .int nu :: .ref (Y + 5) :: .ref (Y + 6) :: .ref (Y + 7) :: .int (nI n) :: .ref (Y + 8) :: .int ddA :: .ref (Y + 9) :: .ref (Y + 10) :: .ref (Y + 11) :: .ref (Y + 12) :: .int ld :: .int be :: .int ib :: .ref (Y + 13) :: .ref (Y + 14) :: .ref (Y + 15) :: .ref (Y + 16) :: .ref (Y + 17) :: .int ta :: .int fa :: .int re :: .int ig :: .ref (Y + 18) :: .ref (Y + 19) :: .ref (Y + 20) :: .ref (Y + 21) :: []))) := ⟨_, rfl⟩
          refine GP.weq w2 e2.symm ?_
          have hL2 : lcO w2 Y th st nu ld be ib ta fa re ig (stG n 1) (stT n 1) (upd g (14 * n) (nI mn)) := by
            rw [e2, st1]
            refine ⟨_, _, _, _, _, (lk_eq (lk_ne (show (Y + 7) ≠ Y by omega) (lk_ne (show (Y + 11) ≠ Y by omega) cYA))), (lk_ne (show Y ≠ (Y + 7) by omega) (lk_eq (lk_ne (show (Y + 11) ≠ (Y + 7) by omega) c7A))), fun i hi => ?_, (lk_ne (show Y ≠ (Y + 8) by omega) (lk_ne (show (Y + 7) ≠ (Y + 8) by omega) (lk_ne (show (Y + 11) ≠ (Y + 8) by omega) c8A))), (lk_ne (show Y ≠ (Y + 9) by omega) (lk_ne (show (Y + 7) ≠ (Y + 9) by omega) (lk_ne (show (Y + 11) ≠ (Y + 9) by omega) c9A))), (lk_ne (show Y ≠ (Y + 10) by omega) (lk_ne (show (Y + 7) ≠ (Y + 10) by omega) (lk_ne (show (Y + 11) ≠ (Y + 10) by omega) c10A))), (lk_ne (show Y ≠ (Y + 11) by omega) (lk_ne (show (Y + 7) ≠ (Y + 11) by omega) (lk_eq c11A)))⟩
            by_cases g1 : i ≤ n
            · have h9 : stG n 1 i = if i = 0 then -1 else if i = n then 1 else 0 := st2 ⟨i, by omega⟩ g1
              rw [if_pos g1, h9]
              by_cases g2 : i = n
              · rw [g2, upL_s, if_neg (by omega), if_pos rfl]; rfl
              · rw [upL_n g2]
                by_cases g3 : i = 0
                · rw [g3, upL_s, if_pos rfl]; rfl
                · rw [upL_n g3, zrF_t hi, if_neg g3, if_neg g2]; rfl
            · rw [if_neg g1, upL_n (by omega), upL_n (by omega), zrF_t hi]; rfl
          have hF2 : FR (lcS Y) w1 w2 := by rw [e2]; exact (FR.st (c' := .inr (11, .int th :: .int st :: .ref (Y + 1) :: .ref (Y + 2) :: .ref (Y + 3) :: .ref (Y + 4) :: .int nu :: .ref (Y + 5) :: .ref (Y + 6) :: .ref (Y + 7) :: .int (nI n) :: .ref (Y + 8) :: .int ddA :: .ref (Y + 9) :: .ref (Y + 10) :: .ref (Y + 11) :: .ref (Y + 12) :: .int ld :: .int be :: .int ib :: .ref (Y + 13) :: .ref (Y + 14) :: .ref (Y + 15) :: .ref (Y + 16) :: .ref (Y + 17) :: .int ta :: .int fa :: .int re :: .int ig :: .ref (Y + 18) :: .ref (Y + 19) :: .ref (Y + 20) :: .ref (Y + 21) :: [])) (FR.st (c' := aL 60 (vp_updL (vp_updL (zrF hA 60) 0 (-1)) n 1)) (FR.st (c' := aI 0 602 (upd g (14 * n) (nI mn))) FR.rf c11A rfl (by unfold lcS; omega)) (lk_ne (show (Y + 11) ≠ (Y + 7) by omega) c7A) rfl (by unfold lcS; omega)) (lk_ne (show (Y + 7) ≠ Y by omega) (lk_ne (show (Y + 11) ≠ Y by omega) cYA)) rfl (by unfold lcS; omega))
          have hci1 : ciN (upd g (14 * n) (nI mn)) n := fun k hk1 hk2 => by
            have h3 := hci k hk1 hk2
            exact ⟨fun g9 => ⟨by rw [upd_n (by omega)]; exact (h3.1 g9).1, fun p hp => by rw [upd_n (by omega)]; exact (h3.1 g9).2 p hp⟩, fun g9 => by rw [upd_n (by omega)]; exact h3.2 g9⟩
          refine GP.lsub _ (by simp) (lcy_in (mn := mn) (by omega) hn1 hc hci1 (fun w3 hL3 hF3 => ?_) (n - 1) 1 w2 (by omega) (by omega) hL2 hF2)
          have hse := st_e ⟨n, by omega⟩ hn1 hc
          have hse2 : ∀ k, stG n n k = cyG n k := fun k => by show (stP n n).getD k 0 = (cyL.getD n []).getD k 0; rw [show stP n n = cyL.getD n [] from hse]
          have hseT : stT n n = cyDg n := by show (stP n n).length - 1 = (cyL.getD n []).length - 1; rw [show stP n n = cyL.getD n [] from hse]
          rw [hseT] at hL3
          have hcd : 1 ≤ cyDg n ∧ cyDg n ≤ 12 := ⟨(cy_dg ⟨n, by omega⟩ hc).1, (cy_dg ⟨n, by omega⟩ hc).2.1⟩
          obtain ⟨ddB, hB, dB, qB, rB, cYB, c7B, hhB, c8B, c9B, c10B, c11B⟩ := id hL3
          refine g_iconst (pc := 124) (v := nI 0) dX12_layCyclotomic_124 (by decide) ?_
          refine g_istore_n (pc := 125) [(3, .int (nI 0)), (2, .int (nI mn)), (1, .int (nI n)), (0, .ref Y)] dX12_layCyclotomic_125 rfl (by decide) rfl ?_
          have hval : ∀ k, k < 13 → (hB k).toInt = cyG n k := fun k hk => by
            rw [hhB k (by omega)]
            by_cases g1 : k ≤ cyDg n
            · rw [if_pos g1, hse2]
            · rw [if_neg g1]
              have h9 := cy_cut (n := n) (j := k) (by omega) hc
              rw [if_pos hk, if_neg g1] at h9
              exact h9.symm
          refine GP.weq (w3.set (Y + 11) (aI 0 602 (upd g (14 * n) (nI mn)))) (set_same c11B).symm ?_
          refine GP.lsub _ (by simp) (lcy_out (n := n) (mn := mn) cYB c7B c11B (by omega) (fun k hk => by rw [hval k hk]; have := cy_sm ⟨n, by omega⟩ ⟨k, hk⟩; exact ⟨by have h1 : -9999 ≤ cyG n k := this.1; omega, by have h1 : cyG n k ≤ 9999 := this.2; omega⟩) (fun cur hc1 hc2 => ?_) 13 0 _ (by omega) (fun i hi => rfl) (fun j hj => absurd hj (by omega)))
          refine n_iinc (pc := 158) (c := 1) [(1, .int (nI (n + 1))), (2, .int (nI mn)), (0, .ref Y)] 1 dX12_layCyclotomic_158 rfl (by decide) (by decide) rfl ?_
          refine g_goto (pc := 161) 2 dX12_layCyclotomic_161 (by decide) ?_
          exact GP.lsub _ (by simp) (ih (n + 1) _ cur (by omega) (by omega) ⟨_, _, _, _, _, _, lk_ne (by omega) cYB, lk_ne (by omega) c7B, lk_ne (by omega) c8B, lk_ne (by omega) c9B, lk_ne (by omega) c10B, lk_eq c11B⟩ (hci2 cur (fun i hi => by rw [hc1 i (by omega), upd_n (by omega)]) ⟨fun _ => ⟨by rw [hc1 _ (by omega), upd_s, hmd], fun p hp => by rw [hc2 p hp]; exact hval p hp⟩, fun g9 => absurd hc g9⟩) (hF1.tr (hF3.tr (FR.set c11B rfl (by unfold lcS; omega)))))
      · have hc : ¬ cyIs n := fun g9 => by have := (hph.1 g9).2; have e1 : phC n n = mn := hmn.symm; omega
        have hci2 : ∀ cur : Nat → Int32, (∀ i, ¬ (14 * n ≤ i ∧ i < 14 * n + 14) → cur i = g i) → ((cyIs n → cur (14 * n) = nI (cyDg n) ∧ ∀ p, p < 13 → (cur (14 * n + 1 + p)).toInt = cyG n p) ∧ (¬ cyIs n → cur (14 * n) = -1)) → ciN cur (n + 1) := fun cur h1 h2 k hk1 hk2 => by
          by_cases e : k = n
          · rw [e]; exact h2
          · have h3 := hci k hk1 (by omega)
            exact ⟨fun g9 => ⟨by rw [h1 _ (by omega)]; exact (h3.1 g9).1, fun p hp => by rw [h1 _ (by omega)]; exact (h3.1 g9).2 p hp⟩, fun g9 => by rw [h1 _ (by omega)]; exact h3.2 g9⟩
        refine g_iconst (pc := 54) (v := -1) dX12_layCyclotomic_54 (by decide) ?_
        refine g_goto (pc := 55) 59 dX12_layCyclotomic_55 (by decide) ?_
        refine g_iast (pc := 59) (14 * n) dX12_layCyclotomic_59 c11A (IXn (by omega) (by omega)) ?_
        refine g_iload_n (pc := 60) 0 dX12_layCyclotomic_60 rfl rfl ?_
        refine g_bipush (pc := 61) (v := nI 12) dX12_layCyclotomic_61 (by decide) ?_
        refine n_icmp_gt (pc := 63) 158 dX12_layCyclotomic_63 (by decide) (by omega) (by omega) (fun h13 => ?_) (fun h13 => ?_)
        · refine n_iinc (pc := 158) (c := 1) [(1, .int (nI (n + 1))), (2, .int (nI mn)), (0, .ref Y)] 1 dX12_layCyclotomic_158 rfl (by decide) (by decide) rfl ?_
          refine g_goto (pc := 161) 2 dX12_layCyclotomic_161 (by decide) ?_
          exact GP.lsub _ (by simp) (ih (n + 1) _ _ (by omega) (by omega) ⟨_, _, _, _, _, _, (lk_ne (show (Y + 11) ≠ Y by omega) cYA), (lk_ne (show (Y + 11) ≠ (Y + 7) by omega) c7A), (lk_ne (show (Y + 11) ≠ (Y + 8) by omega) c8A), (lk_ne (show (Y + 11) ≠ (Y + 9) by omega) c9A), (lk_ne (show (Y + 11) ≠ (Y + 10) by omega) c10A), (lk_eq c11A)⟩ (hci2 _ (fun i hi => upd_n (by omega)) ⟨fun g9 => absurd g9 hc, fun _ => upd_s⟩) (hF1.tr (FR.st (c' := aI 0 602 (upd g (14 * n) (-1))) FR.rf c11A rfl (by unfold lcS; omega))))
        · exact absurd (show 12 < mn by omega) h13
theorem mp_layCyclotomic (w : Wd) {Y : Nat} {th st nu ld be ib ta fa re ig : Int32} {g : Nat → Int32} (hL : lcP w Y th st nu ld be ib ta fa re ig g) : EX12_layCyclotomic [.ref Y] w (fun r w' => r = none ∧ ∃ g', lcP w' Y th st nu ld be ib ta fa re ig g' ∧ ciN g' 43 ∧ FR (lcS Y) w w') := by
  refine EP.of (plainFor_of_name (by decide)) [(0, .ref Y)] rfl (Nat.le_of_ble_eq_true rfl) (fun r wf h => by obtain ⟨rfl, -⟩ := h; trivial) ?_
  show BX12_layCyclotomic w _ w 0 [(0, .ref Y)] []
  refine g_iconst (pc := 0) (v := nI 1) dX12_layCyclotomic_0 (by decide) ?_
  refine g_istore_n (pc := 1) [(1, .int (nI 1)), (0, .ref Y)] dX12_layCyclotomic_1 rfl (by decide) rfl ?_
  exact GP.lsub _ (by simp) (lcy_main 42 1 w g (by omega) (by omega) hL (fun n h1 h2 => absurd h2 (by omega)) FR.rf)
