/-! the reference: add, raise, choose, layLong, takeThousand -/
def nuG (P : Nat → Prop) (dg : Nat → Int64) (m : Nat → Int32) (dg' : Nat → Int64) (m' : Nat → Int32) : Prop := (∀ i, ¬ P (i / 90) → dg' i = dg i) ∧ ∀ j, ¬ P j → m' j = m j
theorem nuG.of {dg dg' : Nat → Int64} {m m' : Nat → Int32} {s : Nat} {P : Nat → Prop} (h : nuF dg dg' s) (h2 : nuM m m' s) (hs : P s) : nuG P dg m dg' m' := ⟨fun i hi => h i (fun g => hi (by rw [show i / 90 = s by omega]; exact hs)), fun j hj => h2 j (fun g => hj (by rw [g]; exact hs))⟩
theorem nuG.rf {P : Nat → Prop} {dg : Nat → Int64} {m : Nat → Int32} : nuG P dg m dg m := ⟨fun _ _ => rfl, fun _ _ => rfl⟩
theorem nuG.tr {P : Nat → Prop} {a b c : Nat → Int64} {x y z : Nat → Int32} (h1 : nuG P a x b y) (h2 : nuG P b y c z) : nuG P a x c z := ⟨fun i hi => (h2.1 i hi).trans (h1.1 i hi), fun j hj => (h2.2 j hj).trans (h1.2 j hj)⟩
theorem nuG.mono {P Q : Nat → Prop} {a b : Nat → Int64} {x y : Nat → Int32} (h : nuG P a x b y) (hPQ : ∀ i, P i → Q i) : nuG Q a x b y := ⟨fun i hi => h.1 i (fun g => hi (hPQ _ g)), fun j hj => h.2 j (fun g => hj (hPQ _ g))⟩
theorem nuV.kg {P : Nat → Prop} {dg dg' : Nat → Int64} {m m' : Nat → Int32} {t n v : Nat} (h : nuV dg m t n v) (hG : nuG P dg m dg' m') (ht : ¬ P t) : nuV dg' m' t n v := by
  obtain ⟨h1, h2, h3, h4⟩ := h
  have e : ∀ j, j < n → sl dg' t j = sl dg t j := fun j hj => hG.1 _ (by rw [show (90 * t + j) / 90 = t by omega]; exact ht)
  exact ⟨(hG.2 t ht).trans h1, h2, wf_cg h3 e, by rw [← h4]; exact vl_congr e⟩
def dgt0 (f : Nat → Int64) (k c : Nat) : Int := if c < k then (f c).toInt else 0
theorem vl_min (f : Nat → Int64) (k c : Nat) : vl f (min (c + 1) k) = vl f (min c k) + dgt0 f k c * 268435456 ^ c := by
  unfold dgt0
  by_cases h : c < k
  · rw [if_pos h, show min (c + 1) k = c + 1 by omega, show min c k = c by omega]
    rfl
  · rw [if_neg h, show min (c + 1) k = k by omega, show min c k = k by omega]
    omega
def adI (fa ft : Nat → Int64) (n k c : Nat) (cur : Nat → Int64) (cy : Int64) : Prop := dgs cur c ∧ (∀ j, c ≤ j → cur j = ft j) ∧ (0 ≤ cy.toInt ∧ cy.toInt ≤ 1) ∧ vl cur c + cy.toInt * 268435456 ^ c = vl ft (min c k) + vl fa (min c n)
theorem adI_s {fa ft cur : Nat → Int64} {n k c : Nat} {cy x y v : Int64} (h : adI fa ft n k c cur cy) (hx : x.toInt = dgt0 ft k c) (hy : y.toInt = dgt0 fa n c) (h1 : 0 ≤ dgt0 ft k c ∧ dgt0 ft k c < 268435456) (h2 : 0 ≤ dgt0 fa n c ∧ dgt0 fa n c < 268435456) (hv : v = x + y + cy) : adI fa ft n k (c + 1) (vp_updL cur c (v &&& 268435455)) (v.toUInt64 >>> ((nI 28).toInt64.toUInt64 &&& Int64.toUInt64 63)).toInt64 := by
  obtain ⟨g1, g2, g3, g4⟩ := h
  have ha : (x + y).toInt = dgt0 ft k c + dgt0 fa n c := by rw [L_add (by omega) (by omega), hx, hy]
  have hvI : v.toInt = dgt0 ft k c + dgt0 fa n c + cy.toInt := by rw [hv, L_add (by omega) (by omega), ha]
  have hv0 : 0 ≤ v.toInt := by omega
  have em := L_mask hv0
  have eq := L_ushr (x := v) (k := 28) (s := nI 28) (by decide) (by decide) hv0
  rw [show (2 : Int) ^ 28 = 268435456 by decide] at eq
  generalize v &&& 268435455 = M at em ⊢
  generalize (v.toUInt64 >>> ((nI 28).toInt64.toUInt64 &&& Int64.toUInt64 63)).toInt64 = O at eq ⊢
  refine ⟨fun i hi => ?_, fun j hj => ?_, by omega, ?_⟩
  · by_cases e : i = c
    · rw [e, upL_s]; omega
    · rw [upL_n e]; exact g1 i (by omega)
  · rw [upL_n (by omega)]; exact g2 j (by omega)
  · rw [vl_min, vl_min]
    show vl (vp_updL cur c M) c + (vp_updL cur c M c).toInt * 268435456 ^ c + O.toInt * 268435456 ^ (c + 1) = _
    rw [upL_s, vl_congr (f := vp_updL cur c M) (g := cur) (fun j hj => upL_n (by omega)), Int.pow_succ]
    generalize (268435456 : Int) ^ c = Q at *
    generalize dgt0 ft k c = d1 at *
    generalize dgt0 fa n c = d2 at *
    have h9 : M.toInt + O.toInt * 268435456 = d1 + d2 + cy.toInt := by omega
    have h10 : (M.toInt + O.toInt * 268435456) * Q = (d1 + d2 + cy.toInt) * Q := by rw [h9]
    rw [Int.add_mul, Int.add_mul, Int.add_mul] at h10
    have h11 : O.toInt * 268435456 * Q = O.toInt * (Q * 268435456) := by rw [Int.mul_assoc, Int.mul_comm 268435456 Q]
    omega
theorem dgt0_b {f : Nat → Int64} {k c : Nat} (h : dgs f k) : 0 ≤ dgt0 f k c ∧ dgt0 f k c < 268435456 := by
  unfold dgt0
  by_cases e : c < k
  · rw [if_pos e]; exact h c e
  · rw [if_neg e]; decide
theorem adI_end {fa ft cur : Nat → Int64} {n k mo va vt : Nat} {cy : Int64} (h : adI fa ft n k (mo + 1) cur cy) (hmo : mo = max n k) (hfa : wf fa n) (hft : wf ft k) (ea : vl fa n = (va : Int)) (et : vl ft k = (vt : Int)) : dgs cur (mo + 1) ∧ ((0 < (cur mo).toInt ∧ vl cur (mo + 1) = ((vt + va : Nat) : Int)) ∨ ((cur mo).toInt = 0 ∧ nrm cur mo ∧ vl cur mo = ((vt + va : Nat) : Int))) := by
  obtain ⟨g1, g2, g3, g4⟩ := h
  rw [show min (mo + 1) k = k by omega, show min (mo + 1) n = n by omega, ea, et] at g4
  have b1 : vl fa n < 268435456 ^ mo := by have := vl_lt hfa.1; have := ipow_le (show n ≤ mo by omega); omega
  have b2 : vl ft k < 268435456 ^ mo := by have := vl_lt hft.1; have := ipow_le (show k ≤ mo by omega); omega
  have hv0 : 0 ≤ vl cur (mo + 1) := vl_nn (fun j hj => (g1 j hj).1)
  have hc0 : cy.toInt = 0 := by
    have : cy.toInt = 0 ∨ cy.toInt = 1 := by omega
    rcases this with e | e
    · exact e
    · rw [e, Int.pow_succ] at g4
      have := bs_pos mo
      omega
  rw [hc0] at g4
  have g5 : vl cur (mo + 1) = ((vt + va : Nat) : Int) := by omega
  refine ⟨g1, ?_⟩
  have hm := g1 mo (by omega)
  by_cases e : (cur mo).toInt = 0
  · right
    have g6 : vl cur (mo + 1) = vl cur mo := by
      show vl cur mo + (cur mo).toInt * _ = _
      rw [e]
      omega
    refine ⟨e, ?_, by omega⟩
    by_cases h0 : mo = 0
    · exact Or.inl h0
    · refine Or.inr (fun g => ?_)
      have g7 : vl cur mo = vl cur (mo - 1) := by
        obtain ⟨q, rfl⟩ : ∃ q, mo = q + 1 := ⟨mo - 1, by omega⟩
        show vl cur q + (cur q).toInt * _ = vl cur q
        rw [show (cur q).toInt = 0 from g]
        omega
      have g8 : vl cur (mo - 1) < 268435456 ^ (mo - 1) := vl_lt (fun j hj => g1 j (by omega))
      have a0 : 0 ≤ vl fa n := vl_nn (fun j hj => (hfa.1 j hj).1)
      have a1 : 0 ≤ vl ft k := vl_nn (fun j hj => (hft.1 j hj).1)
      by_cases hh : n = mo
      · have := vl_ge hfa (by omega)
        rw [hh] at this
        rw [hh] at ea
        omega
      · have hk : k = mo := by omega
        have := vl_ge hft (by omega)
        rw [hk] at this
        rw [hk] at et
        omega
  · left
    exact ⟨by omega, g5⟩
abbrev BX12_add (w0 : Wd) (Post : Option Value → Wd → Prop) (w : Wd) (pc : Nat) (ls : List (Nat × Value)) (st : List Value) : Prop := GP "add" RX12 cX12_add 11 none 0 0 none w0 Post w pc ls st
abbrev EX12_add (As : List Value) (w : Wd) (Post : Option Value → Wd → Prop) : Prop := EP yX12_add cX12_add 11 none 0 As w Post
theorem ad_loop {w0 w : Wd} {Y : Nat} {th st nu dg dd ld be ib ta fa re ig : Int32} {dg9 : Nat → Int64} {m9 : Nat → Int32} (hY : w[Y]? = some (oM Y th st nu dg dd ld be ib ta fa re ig)) (hN : nuC w Y dg9 m9) {a t n k va vt : Nat} (ha : a < 5) (ht : t < 5) (hat : a ≠ t) (hva : nuV dg9 m9 a n va) (hvt : nuV dg9 m9 t k vt) (hn9 : n < 90) (hk9 : k < 90) {mo : Nat} (hmo : mo = max n k) : ∀ (z c : Nat) (cur : Nat → Int64) (cy : Int64), mo + 1 = c + z → nuF dg9 cur t → adI (sl dg9 a) (sl dg9 t) n k c (sl cur t) cy → BX12_add w0 (fun r w' => r = none ∧ ∃ dg' m', nuC w' Y dg' m' ∧ (∃ n', n' ≤ max n k + 1 ∧ nuV dg' m' t n' (vt + va)) ∧ nuF dg9 dg' t ∧ nuM m9 m' t ∧ FR (nuS Y) w w') (w.set (Y + 13) (aL 450 cur)) 41 [(8, .int (nI c)), (6, .long cy), (5, .int (nI mo)), (4, .int (nI k)), (3, .int (nI n)), (2, .int (nI (90 * t))), (1, .int (nI (90 * a))), (0, .ref Y)] [] := by
  intro z
  induction z with
  | zero =>
    intro c cur cy hz hF h
    refine g_iload (pc := 41) 0 dX12_add_41 rfl ?_
    refine g_iload (pc := 43) 2 dX12_add_43 rfl ?_
    refine n_icmp_gt (pc := 45) 121 dX12_add_45 (by decide) (by omega) (by omega) (fun hb9 => ?_) (fun hb9 => ?_)
    · have e9 : c = mo + 1 := by omega
      rw [e9] at h
      obtain ⟨hd9, hE⟩ := adI_end h hmo hva.2.2.1 hvt.2.2.1 hva.2.2.2 hvt.2.2.2
      refine g_aload_n (pc := 121) 7 dX12_add_121 rfl rfl ?_
      refine g_get (pc := 122) dX12_add_122 fk_X12_51 (lk_ne (show (Y + 13) ≠ Y by omega) hY) rfl ?_
      refine g_iload_n (pc := 125) 5 dX12_add_125 rfl rfl ?_
      refine g_bipush (pc := 126) (v := nI 90) dX12_add_126 (by decide) ?_
      refine n_idiv (pc := 128) dX12_add_128 (by omega) (by omega) (by omega) ?_
      refine GP.ti (nI t) (by rw [show 90 * t / 90 = t by omega]) ?_
      refine g_aload_n (pc := 129) 7 dX12_add_129 rfl rfl ?_
      refine g_get (pc := 130) dX12_add_130 fk_X12_48 (lk_ne (show (Y + 13) ≠ Y by omega) hY) rfl ?_
      refine g_iload_n (pc := 133) 5 dX12_add_133 rfl rfl ?_
      refine g_iload (pc := 134) 2 dX12_add_134 rfl ?_
      refine n_iadd (pc := 136) dX12_add_136 ?_
      refine g_lald (pc := 137) ((90 * t) + mo) dX12_add_137 (lk_eq hN.1) (IXn (by omega) (by omega)) ?_
      refine g_lconst (pc := 138) (v := 0) dX12_add_138 (by decide) ?_
      refine g_lcmp_le (pc := 139) 150 dX12_add_139 dX12_add_140 (by decide) (fun hl9 => ?_) (fun hl9 => ?_)
      · obtain ⟨h1, h2, h3⟩ := hE.resolve_left (fun g => by have := Int64.le_iff_toInt_le.mp hl9; rw [L00] at this; exact absurd g.1 (Int.not_lt.mpr this))
        refine g_iload (pc := 150) 2 dX12_add_150 rfl ?_
        refine g_iast (pc := 152) t dX12_add_152 (lk_ne (show (Y + 13) ≠ (Y + 14) by omega) hN.2) (IXn (by omega) (by omega)) ?_
        exact g_vret (pc := 153) dX12_add_153 ⟨rfl, cur, _, ⟨(lk_ne (show (Y + 14) ≠ (Y + 13) by omega) (lk_eq hN.1)), (lk_eq (lk_ne (show (Y + 13) ≠ (Y + 14) by omega) hN.2))⟩, ⟨mo, by omega, upd_s, by omega, ⟨fun i hi => hd9 i (by omega), h2⟩, h3⟩, hF, fun j hj => upd_n hj, (FR.st (c' := aI 0 5 (upd m9 t (nI mo))) (FR.st (c' := aL 450 cur) FR.rf hN.1 rfl (by unfold nuS; omega)) (lk_ne (show (Y + 13) ≠ (Y + 14) by omega) hN.2) rfl (by unfold nuS; omega))⟩
      · obtain ⟨h1, h3⟩ := hE.resolve_right (fun g => hl9 (Int64.le_iff_toInt_le.mpr (by rw [L00, show (cur (90 * t + mo)).toInt = 0 from g.1]; decide)))
        refine g_iload (pc := 143) 2 dX12_add_143 rfl ?_
        refine g_iconst (pc := 145) (v := nI 1) dX12_add_145 (by decide) ?_
        refine n_iadd (pc := 146) dX12_add_146 ?_
        refine g_goto (pc := 147) 152 dX12_add_147 (by decide) ?_
        refine g_iast (pc := 152) t dX12_add_152 (lk_ne (show (Y + 13) ≠ (Y + 14) by omega) hN.2) (IXn (by omega) (by omega)) ?_
        exact g_vret (pc := 153) dX12_add_153 ⟨rfl, cur, _, ⟨(lk_ne (show (Y + 14) ≠ (Y + 13) by omega) (lk_eq hN.1)), (lk_eq (lk_ne (show (Y + 13) ≠ (Y + 14) by omega) hN.2))⟩, ⟨mo + 1, by omega, upd_s, by omega, ⟨hd9, Or.inr (by show (sl cur t mo).toInt ≠ 0; omega)⟩, h3⟩, hF, fun j hj => upd_n hj, (FR.st (c' := aI 0 5 (upd m9 t (nI (mo + 1)))) (FR.st (c' := aL 450 cur) FR.rf hN.1 rfl (by unfold nuS; omega)) (lk_ne (show (Y + 13) ≠ (Y + 14) by omega) hN.2) rfl (by unfold nuS; omega))⟩
    · exact absurd (show mo < c by omega) hb9
  | succ z ih =>
    intro c cur cy hz hF h
    refine g_iload (pc := 41) 0 dX12_add_41 rfl ?_
    refine g_iload (pc := 43) 2 dX12_add_43 rfl ?_
    refine n_icmp_gt (pc := 45) 121 dX12_add_45 (by decide) (by omega) (by omega) (fun hb9 => ?_) (fun hb9 => ?_)
    · exact absurd hb9 (by omega)
    · refine g_iload (pc := 48) 0 dX12_add_48 rfl ?_
      refine g_iload (pc := 50) 3 dX12_add_50 rfl ?_
      refine n_icmp_ge (pc := 52) 67 dX12_add_52 (by decide) (by omega) (by omega) (fun h1 => ?_) (fun h1 => ?_)
      · refine g_lconst (pc := 67) (v := 0) dX12_add_67 (by decide) ?_
        refine g_iload (pc := 68) 0 dX12_add_68 rfl ?_
        refine g_iload_n (pc := 70) 4 dX12_add_70 rfl rfl ?_
        refine n_icmp_ge (pc := 71) 86 dX12_add_71 (by decide) (by omega) (by omega) (fun h2 => ?_) (fun h2 => ?_)
        · refine g_lconst (pc := 86) (v := 0) dX12_add_86 (by decide) ?_
          refine g_ladd (pc := 87) dX12_add_87 ?_
          refine g_lload (pc := 88) 1 dX12_add_88 rfl ?_
          refine g_ladd (pc := 90) dX12_add_90 ?_
          refine g_lstore (pc := 91) [(9, .long ((0 + 0) + cy)), (8, .int (nI c)), (6, .long cy), (5, .int (nI mo)), (4, .int (nI k)), (3, .int (nI n)), (2, .int (nI (90 * t))), (1, .int (nI (90 * a))), (0, .ref Y)] dX12_add_91 (by decide) rfl ?_
          refine g_aload_n (pc := 93) 8 dX12_add_93 rfl rfl ?_
          refine g_get (pc := 94) dX12_add_94 fk_X12_48 (lk_ne (show (Y + 13) ≠ Y by omega) hY) rfl ?_
          refine g_iload_n (pc := 97) 6 dX12_add_97 rfl rfl ?_
          refine g_iload (pc := 98) 1 dX12_add_98 rfl ?_
          refine n_iadd (pc := 100) dX12_add_100 ?_
          refine g_lload (pc := 101) 0 dX12_add_101 rfl ?_
          refine g_ldc2 (pc := 103) kc_X12_202 dX12_add_103 ?_
          refine g_land (pc := 106) dX12_add_106 ?_
          refine g_last (pc := 107) ((90 * t) + c) dX12_add_107 (lk_eq hN.1) (IXn (by omega) (by omega)) ?_
          refine GP.weq (w.set (Y + 13) (aL 450 (vp_updL cur ((90 * t) + c) (((0 + 0) + cy) &&& (268435455))))) (by rw [List.set_set]) ?_
          refine g_lload (pc := 108) 0 dX12_add_108 rfl ?_
          refine g_bipush (pc := 110) (v := nI 28) dX12_add_110 (by decide) ?_
          refine g_lushr (pc := 112) dX12_add_112 ?_
          refine g_lstore (pc := 113) [(6, .long ((((0 + 0) + cy).toUInt64 >>> ((nI 28).toInt64.toUInt64 &&& Int64.toUInt64 63)).toInt64)), (9, .long ((0 + 0) + cy)), (8, .int (nI c)), (5, .int (nI mo)), (4, .int (nI k)), (3, .int (nI n)), (2, .int (nI (90 * t))), (1, .int (nI (90 * a))), (0, .ref Y)] dX12_add_113 (by decide) rfl ?_
          refine n_iinc (pc := 115) (c := 1) [(8, .int (nI (c + 1))), (6, .long ((((0 + 0) + cy).toUInt64 >>> ((nI 28).toInt64.toUInt64 &&& Int64.toUInt64 63)).toInt64)), (9, .long ((0 + 0) + cy)), (5, .int (nI mo)), (4, .int (nI k)), (3, .int (nI n)), (2, .int (nI (90 * t))), (1, .int (nI (90 * a))), (0, .ref Y)] 2 dX12_add_115 rfl (by decide) (by decide) rfl ?_
          refine g_goto (pc := 118) 41 dX12_add_118 (by decide) ?_
          generalize hv9 : (0 : Int64) + (0 : Int64) + cy = v9
          refine GP.lsub _ (by simp) (ih (c + 1) _ (v9.toUInt64 >>> ((nI 28).toInt64.toUInt64 &&& Int64.toUInt64 63)).toInt64 (by omega) (hF.st (by omega)) ?_)
          rw [sl_up]
          exact adI_s h (show (0 : Int64).toInt = dgt0 (sl dg9 t) k c by unfold dgt0; rw [if_neg (by omega)]; rfl) (show (0 : Int64).toInt = dgt0 (sl dg9 a) n c by unfold dgt0; rw [if_neg (by omega)]; rfl) (dgt0_b hvt.2.2.1.1) (dgt0_b hva.2.2.1.1) hv9.symm
        · refine g_aload_n (pc := 74) 7 dX12_add_74 rfl rfl ?_
          refine g_get (pc := 75) dX12_add_75 fk_X12_48 (lk_ne (show (Y + 13) ≠ Y by omega) hY) rfl ?_
          refine g_iload_n (pc := 78) 6 dX12_add_78 rfl rfl ?_
          refine g_iload (pc := 79) 0 dX12_add_79 rfl ?_
          refine n_iadd (pc := 81) dX12_add_81 ?_
          refine g_lald (pc := 82) ((90 * a) + c) dX12_add_82 (lk_eq hN.1) (IXn (by omega) (by omega)) ?_
          refine g_goto (pc := 83) 87 dX12_add_83 (by decide) ?_
          refine g_ladd (pc := 87) dX12_add_87 ?_
          refine g_lload (pc := 88) 1 dX12_add_88 rfl ?_
          refine g_ladd (pc := 90) dX12_add_90 ?_
          refine g_lstore (pc := 91) [(9, .long ((0 + (cur ((90 * a) + c))) + cy)), (8, .int (nI c)), (6, .long cy), (5, .int (nI mo)), (4, .int (nI k)), (3, .int (nI n)), (2, .int (nI (90 * t))), (1, .int (nI (90 * a))), (0, .ref Y)] dX12_add_91 (by decide) rfl ?_
          refine g_aload_n (pc := 93) 8 dX12_add_93 rfl rfl ?_
          refine g_get (pc := 94) dX12_add_94 fk_X12_48 (lk_ne (show (Y + 13) ≠ Y by omega) hY) rfl ?_
          refine g_iload_n (pc := 97) 6 dX12_add_97 rfl rfl ?_
          refine g_iload (pc := 98) 1 dX12_add_98 rfl ?_
          refine n_iadd (pc := 100) dX12_add_100 ?_
          refine g_lload (pc := 101) 0 dX12_add_101 rfl ?_
          refine g_ldc2 (pc := 103) kc_X12_202 dX12_add_103 ?_
          refine g_land (pc := 106) dX12_add_106 ?_
          refine g_last (pc := 107) ((90 * t) + c) dX12_add_107 (lk_eq hN.1) (IXn (by omega) (by omega)) ?_
          refine GP.weq (w.set (Y + 13) (aL 450 (vp_updL cur ((90 * t) + c) (((0 + (cur ((90 * a) + c))) + cy) &&& (268435455))))) (by rw [List.set_set]) ?_
          refine g_lload (pc := 108) 0 dX12_add_108 rfl ?_
          refine g_bipush (pc := 110) (v := nI 28) dX12_add_110 (by decide) ?_
          refine g_lushr (pc := 112) dX12_add_112 ?_
          refine g_lstore (pc := 113) [(6, .long ((((0 + (cur ((90 * a) + c))) + cy).toUInt64 >>> ((nI 28).toInt64.toUInt64 &&& Int64.toUInt64 63)).toInt64)), (9, .long ((0 + (cur ((90 * a) + c))) + cy)), (8, .int (nI c)), (5, .int (nI mo)), (4, .int (nI k)), (3, .int (nI n)), (2, .int (nI (90 * t))), (1, .int (nI (90 * a))), (0, .ref Y)] dX12_add_113 (by decide) rfl ?_
          refine n_iinc (pc := 115) (c := 1) [(8, .int (nI (c + 1))), (6, .long ((((0 + (cur ((90 * a) + c))) + cy).toUInt64 >>> ((nI 28).toInt64.toUInt64 &&& Int64.toUInt64 63)).toInt64)), (9, .long ((0 + (cur ((90 * a) + c))) + cy)), (5, .int (nI mo)), (4, .int (nI k)), (3, .int (nI n)), (2, .int (nI (90 * t))), (1, .int (nI (90 * a))), (0, .ref Y)] 2 dX12_add_115 rfl (by decide) (by decide) rfl ?_
          refine g_goto (pc := 118) 41 dX12_add_118 (by decide) ?_
          generalize hv9 : (0 : Int64) + cur (90 * a + c) + cy = v9
          refine GP.lsub _ (by simp) (ih (c + 1) _ (v9.toUInt64 >>> ((nI 28).toInt64.toUInt64 &&& Int64.toUInt64 63)).toInt64 (by omega) (hF.st (by omega)) ?_)
          rw [sl_up]
          exact adI_s h (show (0 : Int64).toInt = dgt0 (sl dg9 t) k c by unfold dgt0; rw [if_neg (by omega)]; rfl) (show (cur (90 * a + c)).toInt = dgt0 (sl dg9 a) n c by unfold dgt0; rw [if_pos (by omega), show cur (90 * a + c) = sl dg9 a c from hF _ (by omega)]) (dgt0_b hvt.2.2.1.1) (dgt0_b hva.2.2.1.1) hv9.symm
      · refine g_aload_n (pc := 55) 7 dX12_add_55 rfl rfl ?_
        refine g_get (pc := 56) dX12_add_56 fk_X12_48 (lk_ne (show (Y + 13) ≠ Y by omega) hY) rfl ?_
        refine g_iload_n (pc := 59) 5 dX12_add_59 rfl rfl ?_
        refine g_iload (pc := 60) 0 dX12_add_60 rfl ?_
        refine n_iadd (pc := 62) dX12_add_62 ?_
        refine g_lald (pc := 63) ((90 * t) + c) dX12_add_63 (lk_eq hN.1) (IXn (by omega) (by omega)) ?_
        refine g_goto (pc := 64) 68 dX12_add_64 (by decide) ?_
        refine g_iload (pc := 68) 0 dX12_add_68 rfl ?_
        refine g_iload_n (pc := 70) 4 dX12_add_70 rfl rfl ?_
        refine n_icmp_ge (pc := 71) 86 dX12_add_71 (by decide) (by omega) (by omega) (fun h2 => ?_) (fun h2 => ?_)
        · refine g_lconst (pc := 86) (v := 0) dX12_add_86 (by decide) ?_
          refine g_ladd (pc := 87) dX12_add_87 ?_
          refine g_lload (pc := 88) 1 dX12_add_88 rfl ?_
          refine g_ladd (pc := 90) dX12_add_90 ?_
          refine g_lstore (pc := 91) [(9, .long (((cur ((90 * t) + c)) + 0) + cy)), (8, .int (nI c)), (6, .long cy), (5, .int (nI mo)), (4, .int (nI k)), (3, .int (nI n)), (2, .int (nI (90 * t))), (1, .int (nI (90 * a))), (0, .ref Y)] dX12_add_91 (by decide) rfl ?_
          refine g_aload_n (pc := 93) 8 dX12_add_93 rfl rfl ?_
          refine g_get (pc := 94) dX12_add_94 fk_X12_48 (lk_ne (show (Y + 13) ≠ Y by omega) hY) rfl ?_
          refine g_iload_n (pc := 97) 6 dX12_add_97 rfl rfl ?_
          refine g_iload (pc := 98) 1 dX12_add_98 rfl ?_
          refine n_iadd (pc := 100) dX12_add_100 ?_
          refine g_lload (pc := 101) 0 dX12_add_101 rfl ?_
          refine g_ldc2 (pc := 103) kc_X12_202 dX12_add_103 ?_
          refine g_land (pc := 106) dX12_add_106 ?_
          refine g_last (pc := 107) ((90 * t) + c) dX12_add_107 (lk_eq hN.1) (IXn (by omega) (by omega)) ?_
          refine GP.weq (w.set (Y + 13) (aL 450 (vp_updL cur ((90 * t) + c) ((((cur ((90 * t) + c)) + 0) + cy) &&& (268435455))))) (by rw [List.set_set]) ?_
          refine g_lload (pc := 108) 0 dX12_add_108 rfl ?_
          refine g_bipush (pc := 110) (v := nI 28) dX12_add_110 (by decide) ?_
          refine g_lushr (pc := 112) dX12_add_112 ?_
          refine g_lstore (pc := 113) [(6, .long (((((cur ((90 * t) + c)) + 0) + cy).toUInt64 >>> ((nI 28).toInt64.toUInt64 &&& Int64.toUInt64 63)).toInt64)), (9, .long (((cur ((90 * t) + c)) + 0) + cy)), (8, .int (nI c)), (5, .int (nI mo)), (4, .int (nI k)), (3, .int (nI n)), (2, .int (nI (90 * t))), (1, .int (nI (90 * a))), (0, .ref Y)] dX12_add_113 (by decide) rfl ?_
          refine n_iinc (pc := 115) (c := 1) [(8, .int (nI (c + 1))), (6, .long (((((cur ((90 * t) + c)) + 0) + cy).toUInt64 >>> ((nI 28).toInt64.toUInt64 &&& Int64.toUInt64 63)).toInt64)), (9, .long (((cur ((90 * t) + c)) + 0) + cy)), (5, .int (nI mo)), (4, .int (nI k)), (3, .int (nI n)), (2, .int (nI (90 * t))), (1, .int (nI (90 * a))), (0, .ref Y)] 2 dX12_add_115 rfl (by decide) (by decide) rfl ?_
          refine g_goto (pc := 118) 41 dX12_add_118 (by decide) ?_
          generalize hv9 : cur (90 * t + c) + (0 : Int64) + cy = v9
          refine GP.lsub _ (by simp) (ih (c + 1) _ (v9.toUInt64 >>> ((nI 28).toInt64.toUInt64 &&& Int64.toUInt64 63)).toInt64 (by omega) (hF.st (by omega)) ?_)
          rw [sl_up]
          exact adI_s h (show (cur (90 * t + c)).toInt = dgt0 (sl dg9 t) k c by unfold dgt0; rw [if_pos (by omega), show cur (90 * t + c) = sl dg9 t c from h.2.1 c (Nat.le_refl _)]) (show (0 : Int64).toInt = dgt0 (sl dg9 a) n c by unfold dgt0; rw [if_neg (by omega)]; rfl) (dgt0_b hvt.2.2.1.1) (dgt0_b hva.2.2.1.1) hv9.symm
        · refine g_aload_n (pc := 74) 7 dX12_add_74 rfl rfl ?_
          refine g_get (pc := 75) dX12_add_75 fk_X12_48 (lk_ne (show (Y + 13) ≠ Y by omega) hY) rfl ?_
          refine g_iload_n (pc := 78) 6 dX12_add_78 rfl rfl ?_
          refine g_iload (pc := 79) 0 dX12_add_79 rfl ?_
          refine n_iadd (pc := 81) dX12_add_81 ?_
          refine g_lald (pc := 82) ((90 * a) + c) dX12_add_82 (lk_eq hN.1) (IXn (by omega) (by omega)) ?_
          refine g_goto (pc := 83) 87 dX12_add_83 (by decide) ?_
          refine g_ladd (pc := 87) dX12_add_87 ?_
          refine g_lload (pc := 88) 1 dX12_add_88 rfl ?_
          refine g_ladd (pc := 90) dX12_add_90 ?_
          refine g_lstore (pc := 91) [(9, .long (((cur ((90 * t) + c)) + (cur ((90 * a) + c))) + cy)), (8, .int (nI c)), (6, .long cy), (5, .int (nI mo)), (4, .int (nI k)), (3, .int (nI n)), (2, .int (nI (90 * t))), (1, .int (nI (90 * a))), (0, .ref Y)] dX12_add_91 (by decide) rfl ?_
          refine g_aload_n (pc := 93) 8 dX12_add_93 rfl rfl ?_
          refine g_get (pc := 94) dX12_add_94 fk_X12_48 (lk_ne (show (Y + 13) ≠ Y by omega) hY) rfl ?_
          refine g_iload_n (pc := 97) 6 dX12_add_97 rfl rfl ?_
          refine g_iload (pc := 98) 1 dX12_add_98 rfl ?_
          refine n_iadd (pc := 100) dX12_add_100 ?_
          refine g_lload (pc := 101) 0 dX12_add_101 rfl ?_
          refine g_ldc2 (pc := 103) kc_X12_202 dX12_add_103 ?_
          refine g_land (pc := 106) dX12_add_106 ?_
          refine g_last (pc := 107) ((90 * t) + c) dX12_add_107 (lk_eq hN.1) (IXn (by omega) (by omega)) ?_
          refine GP.weq (w.set (Y + 13) (aL 450 (vp_updL cur ((90 * t) + c) ((((cur ((90 * t) + c)) + (cur ((90 * a) + c))) + cy) &&& (268435455))))) (by rw [List.set_set]) ?_
          refine g_lload (pc := 108) 0 dX12_add_108 rfl ?_
          refine g_bipush (pc := 110) (v := nI 28) dX12_add_110 (by decide) ?_
          refine g_lushr (pc := 112) dX12_add_112 ?_
          refine g_lstore (pc := 113) [(6, .long (((((cur ((90 * t) + c)) + (cur ((90 * a) + c))) + cy).toUInt64 >>> ((nI 28).toInt64.toUInt64 &&& Int64.toUInt64 63)).toInt64)), (9, .long (((cur ((90 * t) + c)) + (cur ((90 * a) + c))) + cy)), (8, .int (nI c)), (5, .int (nI mo)), (4, .int (nI k)), (3, .int (nI n)), (2, .int (nI (90 * t))), (1, .int (nI (90 * a))), (0, .ref Y)] dX12_add_113 (by decide) rfl ?_
          refine n_iinc (pc := 115) (c := 1) [(8, .int (nI (c + 1))), (6, .long (((((cur ((90 * t) + c)) + (cur ((90 * a) + c))) + cy).toUInt64 >>> ((nI 28).toInt64.toUInt64 &&& Int64.toUInt64 63)).toInt64)), (9, .long (((cur ((90 * t) + c)) + (cur ((90 * a) + c))) + cy)), (5, .int (nI mo)), (4, .int (nI k)), (3, .int (nI n)), (2, .int (nI (90 * t))), (1, .int (nI (90 * a))), (0, .ref Y)] 2 dX12_add_115 rfl (by decide) (by decide) rfl ?_
          refine g_goto (pc := 118) 41 dX12_add_118 (by decide) ?_
          generalize hv9 : cur (90 * t + c) + cur (90 * a + c) + cy = v9
          refine GP.lsub _ (by simp) (ih (c + 1) _ (v9.toUInt64 >>> ((nI 28).toInt64.toUInt64 &&& Int64.toUInt64 63)).toInt64 (by omega) (hF.st (by omega)) ?_)
          rw [sl_up]
          exact adI_s h (show (cur (90 * t + c)).toInt = dgt0 (sl dg9 t) k c by unfold dgt0; rw [if_pos (by omega), show cur (90 * t + c) = sl dg9 t c from h.2.1 c (Nat.le_refl _)]) (show (cur (90 * a + c)).toInt = dgt0 (sl dg9 a) n c by unfold dgt0; rw [if_pos (by omega), show cur (90 * a + c) = sl dg9 a c from hF _ (by omega)]) (dgt0_b hvt.2.2.1.1) (dgt0_b hva.2.2.1.1) hv9.symm
theorem mp_add (w : Wd) {Y : Nat} {th st nu dg dd ld be ib ta fa re ig : Int32} {dg9 : Nat → Int64} {m9 : Nat → Int32} (hY : w[Y]? = some (oM Y th st nu dg dd ld be ib ta fa re ig)) (hN : nuC w Y dg9 m9) {a t n k va vt : Nat} (ha : a < 5) (ht : t < 5) (hat : a ≠ t) (hva : nuV dg9 m9 a n va) (hvt : nuV dg9 m9 t k vt) (hn9 : n < 90) (hk9 : k < 90) : EX12_add [.ref Y, .int (nI (90 * a)), .int (nI (90 * t))] w (fun r w' => r = none ∧ ∃ dg' m', nuC w' Y dg' m' ∧ (∃ n', n' ≤ max n k + 1 ∧ nuV dg' m' t n' (vt + va)) ∧ nuF dg9 dg' t ∧ nuM m9 m' t ∧ FR (nuS Y) w w') := by
  refine EP.of (plainFor_of_name (by decide)) [(0, .ref Y), (1, .int (nI (90 * a))), (2, .int (nI (90 * t)))] rfl (Nat.le_of_ble_eq_true rfl) (fun r wf h => by obtain ⟨rfl, -⟩ := h; trivial) ?_
  show BX12_add w _ w 0 [(0, .ref Y), (1, .int (nI (90 * a))), (2, .int (nI (90 * t)))] []
  refine g_aload_n (pc := 0) 0 dX12_add_0 rfl rfl ?_
  refine g_get (pc := 1) dX12_add_1 fk_X12_51 hY rfl ?_
  refine g_iload_n (pc := 4) 1 dX12_add_4 rfl rfl ?_
  refine g_bipush (pc := 5) (v := nI 90) dX12_add_5 (by decide) ?_
  refine n_idiv (pc := 7) dX12_add_7 (by omega) (by omega) (by omega) ?_
  refine GP.ti (nI a) (by rw [show 90 * a / 90 = a by omega]) ?_
  refine g_iald (pc := 8) a dX12_add_8 hN.2 (IXn (by omega) (by omega)) ?_
  refine GP.ti (nI n) hva.1 ?_
  refine g_istore_n (pc := 9) [(3, .int (nI n)), (0, .ref Y), (1, .int (nI (90 * a))), (2, .int (nI (90 * t)))] dX12_add_9 rfl (by decide) rfl ?_
  refine g_aload_n (pc := 10) 1 dX12_add_10 rfl rfl ?_
  refine g_get (pc := 11) dX12_add_11 fk_X12_51 hY rfl ?_
  refine g_iload_n (pc := 14) 3 dX12_add_14 rfl rfl ?_
  refine g_bipush (pc := 15) (v := nI 90) dX12_add_15 (by decide) ?_
  refine n_idiv (pc := 17) dX12_add_17 (by omega) (by omega) (by omega) ?_
  refine GP.ti (nI t) (by rw [show 90 * t / 90 = t by omega]) ?_
  refine g_iald (pc := 18) t dX12_add_18 hN.2 (IXn (by omega) (by omega)) ?_
  refine GP.ti (nI k) hvt.1 ?_
  refine g_istore (pc := 19) [(4, .int (nI k)), (3, .int (nI n)), (0, .ref Y), (1, .int (nI (90 * a))), (2, .int (nI (90 * t)))] dX12_add_19 (by decide) rfl ?_
  refine g_iload_n (pc := 21) 1 dX12_add_21 rfl rfl ?_
  refine g_iload (pc := 22) 0 dX12_add_22 rfl ?_
  refine n_icmp_le (pc := 24) 31 dX12_add_24 (by decide) (by omega) (by omega) (fun h1 => ?_) (fun h1 => ?_)
  · refine g_iload (pc := 31) 0 dX12_add_31 rfl ?_
    refine g_istore (pc := 33) [(5, .int (nI k)), (4, .int (nI k)), (3, .int (nI n)), (0, .ref Y), (1, .int (nI (90 * a))), (2, .int (nI (90 * t)))] dX12_add_33 (by decide) rfl ?_
    refine g_lconst (pc := 35) (v := 0) dX12_add_35 (by decide) ?_
    refine g_lstore (pc := 36) [(6, .long 0), (5, .int (nI k)), (4, .int (nI k)), (3, .int (nI n)), (0, .ref Y), (1, .int (nI (90 * a))), (2, .int (nI (90 * t)))] dX12_add_36 (by decide) rfl ?_
    refine g_iconst (pc := 38) (v := nI 0) dX12_add_38 (by decide) ?_
    refine g_istore (pc := 39) [(8, .int (nI 0)), (6, .long 0), (5, .int (nI k)), (4, .int (nI k)), (3, .int (nI n)), (0, .ref Y), (1, .int (nI (90 * a))), (2, .int (nI (90 * t)))] dX12_add_39 (by decide) rfl ?_
    refine GP.weq (w.set (Y + 13) (aL 450 dg9)) (set_same hN.1).symm ?_
    exact GP.lsub _ (by simp) (ad_loop hY hN ha ht hat hva hvt hn9 hk9 (mo := k) (by omega) (k + 1) 0 dg9 0 (by omega) nuF.rf ⟨fun i hi => absurd hi (by omega), fun _ _ => rfl, by decide, by show (0 : Int) + 0 * _ = vl _ (min 0 k) + vl _ (min 0 n); rw [Nat.zero_min, Nat.zero_min]; show (0 : Int) + 0 * _ = 0 + 0; omega⟩)
  · refine g_iload_n (pc := 27) 1 dX12_add_27 rfl rfl ?_
    refine g_goto (pc := 28) 33 dX12_add_28 (by decide) ?_
    refine g_istore (pc := 33) [(5, .int (nI n)), (4, .int (nI k)), (3, .int (nI n)), (0, .ref Y), (1, .int (nI (90 * a))), (2, .int (nI (90 * t)))] dX12_add_33 (by decide) rfl ?_
    refine g_lconst (pc := 35) (v := 0) dX12_add_35 (by decide) ?_
    refine g_lstore (pc := 36) [(6, .long 0), (5, .int (nI n)), (4, .int (nI k)), (3, .int (nI n)), (0, .ref Y), (1, .int (nI (90 * a))), (2, .int (nI (90 * t)))] dX12_add_36 (by decide) rfl ?_
    refine g_iconst (pc := 38) (v := nI 0) dX12_add_38 (by decide) ?_
    refine g_istore (pc := 39) [(8, .int (nI 0)), (6, .long 0), (5, .int (nI n)), (4, .int (nI k)), (3, .int (nI n)), (0, .ref Y), (1, .int (nI (90 * a))), (2, .int (nI (90 * t)))] dX12_add_39 (by decide) rfl ?_
    refine GP.weq (w.set (Y + 13) (aL 450 dg9)) (set_same hN.1).symm ?_
    exact GP.lsub _ (by simp) (ad_loop hY hN ha ht hat hva hvt hn9 hk9 (mo := n) (by omega) (n + 1) 0 dg9 0 (by omega) nuF.rf ⟨fun i hi => absurd hi (by omega), fun _ _ => rfl, by decide, by show (0 : Int) + 0 * _ = vl _ (min 0 k) + vl _ (min 0 n); rw [Nat.zero_min, Nat.zero_min]; show (0 : Int) + 0 * _ = 0 + 0; omega⟩)
abbrev BX12_raise (w0 : Wd) (Post : Option Value → Wd → Prop) (w : Wd) (pc : Nat) (ls : List (Nat × Value)) (st : List Value) : Prop := GP "raise" RX12 cX12_raise 4 none 1 39 none w0 Post w pc ls st
abbrev EX12_raise (As : List Value) (w : Wd) (Post : Option Value → Wd → Prop) : Prop := EP yX12_raise cX12_raise 4 none 1 As w Post
theorem ra_loop {w0 w : Wd} {Y : Nat} {th st nu dg dd ld be ib ta fa re ig : Int32} {dg9 : Nat → Int64} {m9 : Nat → Int32} (hY : w[Y]? = some (oM Y th st nu dg dd ld be ib ta fa re ig)) (hN : nuC w Y dg9 m9) {s n k v : Nat} (hs : s < 4) (hv : nuV dg9 m9 s n v) (hk : k ≤ 7) (hb : ∀ i, i < k → v ^ (2 ^ i) < 268435456 ^ 45) : ∀ (z i : Nat) (w1 : Wd) (dg1 : Nat → Int64) (m1 : Nat → Int32) (n1 : Nat), k = i + z → nuC w1 Y dg1 m1 → FR (nuS Y) w w1 → nuG (fun j => j = s ∨ j = 4) dg9 m9 dg1 m1 → nuV dg1 m1 s n1 (v ^ (2 ^ i)) → BX12_raise w0 (fun r w' => r = none ∧ ∃ dg' m', nuC w' Y dg' m' ∧ (∃ n', nuV dg' m' s n' (v ^ (2 ^ k))) ∧ nuG (fun j => j = s ∨ j = 4) dg9 m9 dg' m' ∧ FR (nuS Y) w w') w1 2 [(3, .int (nI i)), (2, .int (nI k)), (1, .int (nI (90 * s))), (0, .ref Y)] [] := by
  intro z
  induction z with
  | zero =>
    intro i w1 dg1 m1 n1 hz hN1 hR1 hG1 hV1
    refine g_iload_n (pc := 2) 0 dX12_raise_2 rfl rfl ?_
    refine g_iload_n (pc := 3) 1 dX12_raise_3 rfl rfl ?_
    refine n_icmp_ge (pc := 4) 30 dX12_raise_4 (by decide) (by omega) (by omega) (fun hb9 => ?_) (fun hb9 => ?_)
    · have e9 : k = i := by omega
      subst e9
      exact g_vret (pc := 30) dX12_raise_30 ⟨rfl, dg1, m1, hN1, ⟨n1, hV1⟩, hG1, hR1⟩
    · exact absurd hb9 (by omega)
  | succ z ih =>
    intro i w1 dg1 m1 n1 hz hN1 hR1 hG1 hV1
    refine g_iload_n (pc := 2) 0 dX12_raise_2 rfl rfl ?_
    refine g_iload_n (pc := 3) 1 dX12_raise_3 rfl rfl ?_
    refine n_icmp_ge (pc := 4) 30 dX12_raise_4 (by decide) (by omega) (by omega) (fun hb9 => ?_) (fun hb9 => ?_)
    · exact absurd hb9 (by omega)
    · have hl9 := hV1.len (hb i (by omega))
      refine g_aload_n (pc := 7) 3 dX12_raise_7 rfl rfl ?_
      refine g_iload_n (pc := 8) 2 dX12_raise_8 rfl rfl ?_
      refine g_iload_n (pc := 9) 2 dX12_raise_9 rfl rfl ?_
      refine g_sipush (pc := 10) (v := nI 360) dX12_raise_10 (by decide) ?_
      refine g_callV (pc := 13) [.int (nI (90 * s)), .int (nI (90 * s)), .int (nI 360)] dX12_raise_13 cv_X12_204.1 cv_X12_204.2.1 cv_X12_204.2.2.1 cv_X12_204.2.2.2 (hR1.lk (by unfold nuS; omega) hY) rfl rfl (Nat.le_of_ble_eq_true rfl) (by decide) (by decide) (mp_product _ (hR1.lk (by unfold nuS; omega) hY) hN1 (a := s) (b := s) (t := 4) (by omega) (by omega) (by omega) (by omega) (by omega) hV1 hV1 (by omega)) ?_
      rintro _ w2 ⟨rfl, dg2, m2, hN2, ⟨n2, hl2, hV2⟩, hF2, hM2, hR2⟩
      refine g_aload_n (pc := 16) 3 dX12_raise_16 rfl rfl ?_
      refine g_sipush (pc := 17) (v := nI 360) dX12_raise_17 (by decide) ?_
      refine g_iload_n (pc := 20) 2 dX12_raise_20 rfl rfl ?_
      refine g_callV (pc := 21) [.int (nI 360), .int (nI (90 * s))] dX12_raise_21 cv_X12_208.1 cv_X12_208.2.1 cv_X12_208.2.2.1 cv_X12_208.2.2.2 ((hR1.tr hR2).lk (by unfold nuS; omega) hY) rfl rfl (Nat.le_of_ble_eq_true rfl) (by decide) (by decide) (mp_copyNumber _ ((hR1.tr hR2).lk (by unfold nuS; omega) hY) hN2 (a := 4) (b := s) (by omega) (by omega) (by omega) hV2) ?_
      rintro _ w3 ⟨rfl, dg3, m3, hN3, hV3, hF3, hM3, hR3⟩
      refine n_iinc (pc := 24) (c := 1) [(3, .int (nI (i + 1))), (2, .int (nI k)), (1, .int (nI (90 * s))), (0, .ref Y)] 0 dX12_raise_24 rfl (by decide) (by decide) rfl ?_
      refine g_goto (pc := 27) 2 dX12_raise_27 (by decide) ?_
      refine GP.lsub _ (by simp) (ih (i + 1) w3 dg3 m3 n2 (by omega) hN3 (hR1.tr (hR2.tr hR3)) (hG1.tr ((nuG.of hF2 hM2 (Or.inr rfl)).tr (nuG.of hF3 hM3 (Or.inl rfl)))) ?_)
      rw [Nat.pow_succ 2 i, Nat.pow_mul, Nat.pow_two]
      exact hV3
theorem mp_raise (w : Wd) {Y : Nat} {th st nu dg dd ld be ib ta fa re ig : Int32} {dg9 : Nat → Int64} {m9 : Nat → Int32} (hY : w[Y]? = some (oM Y th st nu dg dd ld be ib ta fa re ig)) (hN : nuC w Y dg9 m9) {s n k v : Nat} (hs : s < 4) (hv : nuV dg9 m9 s n v) (hk : k ≤ 7) (hb : ∀ i, i < k → v ^ (2 ^ i) < 268435456 ^ 45) : EX12_raise [.ref Y, .int (nI (90 * s)), .int (nI k)] w (fun r w' => r = none ∧ ∃ dg' m', nuC w' Y dg' m' ∧ (∃ n', nuV dg' m' s n' (v ^ (2 ^ k))) ∧ nuG (fun j => j = s ∨ j = 4) dg9 m9 dg' m' ∧ FR (nuS Y) w w') := by
  refine EP.of (plainFor_of_name (by decide)) [(0, .ref Y), (1, .int (nI (90 * s))), (2, .int (nI k))] rfl (Nat.le_of_ble_eq_true rfl) (fun r wf h => by obtain ⟨rfl, -⟩ := h; trivial) ?_
  show BX12_raise w _ w 0 [(0, .ref Y), (1, .int (nI (90 * s))), (2, .int (nI k))] []
  refine g_iconst (pc := 0) (v := nI 0) dX12_raise_0 (by decide) ?_
  refine g_istore_n (pc := 1) [(3, .int (nI 0)), (0, .ref Y), (1, .int (nI (90 * s))), (2, .int (nI k))] dX12_raise_1 rfl (by decide) rfl ?_
  exact GP.lsub _ (by simp) (ra_loop hY hN hs hv hk hb k 0 w dg9 m9 n (by omega) hN FR.rf nuG.rf (by rw [Nat.pow_zero, Nat.pow_one]; exact hv))
abbrev BX12_choose (w0 : Wd) (Post : Option Value → Wd → Prop) (w : Wd) (pc : Nat) (ls : List (Nat × Value)) (st : List Value) : Prop := GP "choose" RX12 cX12_choose 5 (some .long) 0 0 none w0 Post w pc ls st
abbrev EX12_choose (As : List Value) (w : Wd) (Post : Option Value → Wd → Prop) : Prop := EP yX12_choose cX12_choose 5 (some .long) 0 As w Post
theorem ch_s : ∀ d, d < 13 → ∀ i, i < 13 → d + i ≤ 11 → binI (d + i) i * (d + (i + 1)) / (i + 1) = binI (d + (i + 1)) (i + 1) ∧ binI (d + i) i * (d + (i + 1)) ≤ 100000 := by decide +kernel
theorem bin_b : ∀ n, n < 13 → ∀ i, i < 13 → i ≤ n → 1 ≤ binI n i ∧ binI n i ≤ 924 := by decide +kernel
theorem ch_loop {w0 w : Wd} {n k : Nat} (hn : n ≤ 12) (hk : k ≤ n) : ∀ (z i : Nat) (v : Int64), k = i + z → v.toInt = (binI (n - k + i) i : Int) → BX12_choose w0 (fun r w' => ∃ v : Int64, r = some (.long v) ∧ v.toInt = (binI n k : Int) ∧ w' = w) w 5 [(4, .int (nI (i + 1))), (2, .long v), (1, .int (nI k)), (0, .int (nI n))] [] := by
  intro z
  induction z with
  | zero =>
    intro i v hz hv
    refine g_iload (pc := 5) 0 dX12_choose_5 rfl ?_
    refine g_iload_n (pc := 7) 2 dX12_choose_7 rfl rfl ?_
    refine n_icmp_gt (pc := 8) 31 dX12_choose_8 (by decide) (by omega) (by omega) (fun hb9 => ?_) (fun hb9 => ?_)
    · have e9 : k = i := by omega
      subst e9
      refine g_lload_n (pc := 31) 1 dX12_choose_31 rfl rfl ?_
      exact g_lret (pc := 32) dX12_choose_32 ⟨v, rfl, by rw [hv, show n - k + k = n by omega], rfl⟩
    · exact absurd (show k < i + 1 by omega) hb9
  | succ z ih =>
    intro i v hz hv
    refine g_iload (pc := 5) 0 dX12_choose_5 rfl ?_
    refine g_iload_n (pc := 7) 2 dX12_choose_7 rfl rfl ?_
    refine n_icmp_gt (pc := 8) 31 dX12_choose_8 (by decide) (by omega) (by omega) (fun hb9 => ?_) (fun hb9 => ?_)
    · exact absurd hb9 (by omega)
    · have e0 : (nI (i + 1)).toInt64 ≠ 0 := fun g => by
        have h9 : ((nI (i + 1)).toInt64).toInt = 0 := by rw [g]; rfl
        rw [IL, nI_toInt (by omega)] at h9
        omega
      obtain ⟨h1, h2⟩ := ch_s (n - k) (by omega) i (by omega) (by omega)
      have e1 : ((nI (n - k + (i + 1))).toInt64).toInt = ((n - k + (i + 1) : Nat) : Int) := by rw [IL, nI_toInt (by omega)]
      have e2 : ((nI (i + 1)).toInt64).toInt = ((i + 1 : Nat) : Int) := by rw [IL, nI_toInt (by omega)]
      have e3 : (v * (nI (n - k + (i + 1))).toInt64).toInt = ((binI (n - k + i) i * (n - k + (i + 1)) : Nat) : Int) := by rw [L_mul (by rw [hv, e1, ← Int.natCast_mul]; omega) (by rw [hv, e1, ← Int.natCast_mul]; omega), hv, e1, ← Int.natCast_mul]
      refine g_lload_n (pc := 11) 1 dX12_choose_11 rfl rfl ?_
      refine g_iload_n (pc := 12) 3 dX12_choose_12 rfl rfl ?_
      refine g_iload_n (pc := 13) 2 dX12_choose_13 rfl rfl ?_
      refine n_isub (pc := 14) dX12_choose_14 (by omega) ?_
      refine g_iload (pc := 15) 0 dX12_choose_15 rfl ?_
      refine n_iadd (pc := 17) dX12_choose_17 ?_
      refine g_i2l (pc := 18) dX12_choose_18 ?_
      refine g_lmul (pc := 19) dX12_choose_19 ?_
      refine g_iload (pc := 20) 0 dX12_choose_20 rfl ?_
      refine g_i2l (pc := 22) dX12_choose_22 ?_
      refine g_ldiv (pc := 23) dX12_choose_23 e0 ?_
      refine g_lstore_n (pc := 24) [(2, .long ((v * ((nI ((n - k) + (i + 1))).toInt64)) / ((nI (i + 1)).toInt64))), (4, .int (nI (i + 1))), (1, .int (nI k)), (0, .int (nI n))] dX12_choose_24 rfl (by decide) rfl ?_
      refine n_iinc (pc := 25) (c := 1) [(4, .int (nI ((i + 1) + 1))), (2, .long ((v * ((nI ((n - k) + (i + 1))).toInt64)) / ((nI (i + 1)).toInt64))), (1, .int (nI k)), (0, .int (nI n))] 1 dX12_choose_25 rfl (by decide) (by decide) rfl ?_
      refine g_goto (pc := 28) 5 dX12_choose_28 (by decide) ?_
      refine GP.lsub _ (by simp) (ih (i + 1) (v * (nI (n - k + (i + 1))).toInt64 / (nI (i + 1)).toInt64) (by omega) ?_)
      rw [L_div (by omega), e3, e2, ← h1]
      exact (Int.ofNat_tdiv _ _).symm
theorem mp_choose (w : Wd) {n k : Nat} (hn : n ≤ 12) (hk : k ≤ n) : EX12_choose [.int (nI n), .int (nI k)] w (fun r w' => ∃ v : Int64, r = some (.long v) ∧ v.toInt = (binI n k : Int) ∧ w' = w) := by
  refine EP.of (plainFor_of_name (by decide)) [(0, .int (nI n)), (1, .int (nI k))] rfl (Nat.le_of_ble_eq_true rfl) (fun r wf h => by obtain ⟨v, rfl, -⟩ := h; trivial) ?_
  show BX12_choose w _ w 0 [(0, .int (nI n)), (1, .int (nI k))] []
  refine g_lconst (pc := 0) (v := 1) dX12_choose_0 (by decide) ?_
  refine g_lstore_n (pc := 1) [(2, .long 1), (0, .int (nI n)), (1, .int (nI k))] dX12_choose_1 rfl (by decide) rfl ?_
  refine g_iconst (pc := 2) (v := nI 1) dX12_choose_2 (by decide) ?_
  refine g_istore (pc := 3) [(4, .int (nI 1)), (2, .long 1), (0, .int (nI n)), (1, .int (nI k))] dX12_choose_3 (by decide) rfl ?_
  exact GP.lsub _ (by simp) (ch_loop hn hk k 0 1 (by omega) (by rw [bin_0]; rfl))
abbrev BX12_layLong (w0 : Wd) (Post : Option Value → Wd → Prop) (w : Wd) (pc : Nat) (ls : List (Nat × Value)) (st : List Value) : Prop := GP "layLong" RX12 cX12_layLong 4 none 1 39 none w0 Post w pc ls st
abbrev EX12_layLong (As : List Value) (w : Wd) (Post : Option Value → Wd → Prop) : Prop := EP yX12_layLong cX12_layLong 4 none 1 As w Post
theorem mp_layLong (w : Wd) {Y : Nat} {th st nu dg dd ld be ib ta fa re ig : Int32} {dg9 : Nat → Int64} {m9 : Nat → Int32} (hY : w[Y]? = some (oM Y th st nu dg dd ld be ib ta fa re ig)) (hN : nuC w Y dg9 m9) {s : Nat} (hs : s < 5) {x : Int64} : EX12_layLong [.ref Y, .int (nI (90 * s)), .long x] w (fun r w' => r = none ∧ ∃ dg' m', nuC w' Y dg' m' ∧ (∃ n, n ≤ 3 ∧ nuV dg' m' s n x.toInt.natAbs) ∧ nuF dg9 dg' s ∧ nuM m9 m' s ∧ FR (nuS Y) w w') := by
  refine EP.of (plainFor_of_name (by decide)) [(0, .ref Y), (1, .int (nI (90 * s))), (2, .long x)] rfl (Nat.le_of_ble_eq_true rfl) (fun r wf h => by obtain ⟨rfl, -⟩ := h; trivial) ?_
  show BX12_layLong w _ w 0 [(0, .ref Y), (1, .int (nI (90 * s))), (2, .long x)] []
  refine g_lload_n (pc := 0) 2 dX12_layLong_0 rfl rfl ?_
  refine g_ldc2 (pc := 1) kc_X12_177 dX12_layLong_1 ?_
  refine g_lcmp_ne (pc := 4) 48 dX12_layLong_4 dX12_layLong_5 (by decide) (fun h1 => ?_) (fun h1 => ?_)
  · have hx9 : x.toInt ≠ -9223372036854775808 := fun g => h1 (Int64.toInt_inj.mp (g.trans (by decide)))
    refine g_aload_n (pc := 48) 0 dX12_layLong_48 rfl rfl ?_
    refine g_iload_n (pc := 49) 1 dX12_layLong_49 rfl rfl ?_
    refine g_lload_n (pc := 50) 2 dX12_layLong_50 rfl rfl ?_
    refine g_callS (pc := 51) [.long x] dX12_layLong_51 cs_X12_146.1 cs_X12_146.2 rfl rfl (Nat.le_of_ble_eq_true rfl) (by decide) (by decide) (mp_size _) ?_
    rintro _ w9 ⟨x2, rfl, hs1, hs2, e9⟩
    refine GP.weq _ e9 ?_
    have hx2 : x2.toInt = (x.toInt.natAbs : Int) := by
      by_cases g : x.toInt < 0
      · rw [hs1 g, L_neg hx9]; omega
      · rw [hs2 g]; omega
    refine g_callV (pc := 54) [.int (nI (90 * s)), .long x2] dX12_layLong_54 cv_X12_214.1 cv_X12_214.2.1 cv_X12_214.2.2.1 cv_X12_214.2.2.2 hY rfl rfl (Nat.le_of_ble_eq_true rfl) (by decide) (by decide) (mp_tellNumber _ hY hN hs hx2) ?_
    rintro _ w2 ⟨rfl, dg2, m2, hN2, hV2, hF2, hM2, hR2⟩
    exact g_vret (pc := 57) dX12_layLong_57 ⟨rfl, dg2, m2, hN2, hV2, hF2, hM2, hR2⟩
  · rw [Classical.not_not] at h1
    refine g_aload_n (pc := 8) 0 dX12_layLong_8 rfl rfl ?_
    refine g_get (pc := 9) dX12_layLong_9 fk_X12_48 hY rfl ?_
    refine g_iload_n (pc := 12) 1 dX12_layLong_12 rfl rfl ?_
    refine g_lconst (pc := 13) (v := 0) dX12_layLong_13 (by decide) ?_
    refine g_last (pc := 14) (90 * s) dX12_layLong_14 hN.1 (IXn (by omega) (by omega)) ?_
    refine g_aload_n (pc := 15) 0 dX12_layLong_15 rfl rfl ?_
    refine g_get (pc := 16) dX12_layLong_16 fk_X12_48 (lk_ne (show (Y + 13) ≠ Y by omega) hY) rfl ?_
    refine g_iload_n (pc := 19) 1 dX12_layLong_19 rfl rfl ?_
    refine g_iconst (pc := 20) (v := nI 1) dX12_layLong_20 (by decide) ?_
    refine n_iadd (pc := 21) dX12_layLong_21 ?_
    refine g_lconst (pc := 22) (v := 0) dX12_layLong_22 (by decide) ?_
    refine g_last (pc := 23) ((90 * s) + 1) dX12_layLong_23 (lk_eq hN.1) (IXn (by omega) (by omega)) ?_
    refine GP.weq (w.set (Y + 13) (aL 450 (vp_updL (vp_updL dg9 (90 * s) 0) ((90 * s) + 1) 0))) (by rw [List.set_set]) ?_
    refine g_aload_n (pc := 24) 0 dX12_layLong_24 rfl rfl ?_
    refine g_get (pc := 25) dX12_layLong_25 fk_X12_48 (lk_ne (show (Y + 13) ≠ Y by omega) hY) rfl ?_
    refine g_iload_n (pc := 28) 1 dX12_layLong_28 rfl rfl ?_
    refine g_iconst (pc := 29) (v := nI 2) dX12_layLong_29 (by decide) ?_
    refine n_iadd (pc := 30) dX12_layLong_30 ?_
    refine g_ldc2 (pc := 31) kc_X12_234 dX12_layLong_31 ?_
    refine g_last (pc := 34) ((90 * s) + 2) dX12_layLong_34 (lk_eq hN.1) (IXn (by omega) (by omega)) ?_
    refine GP.weq (w.set (Y + 13) (aL 450 (vp_updL (vp_updL (vp_updL dg9 (90 * s) 0) ((90 * s) + 1) 0) ((90 * s) + 2) (128)))) (by rw [List.set_set]) ?_
    refine g_aload_n (pc := 35) 0 dX12_layLong_35 rfl rfl ?_
    refine g_get (pc := 36) dX12_layLong_36 fk_X12_51 (lk_ne (show (Y + 13) ≠ Y by omega) hY) rfl ?_
    refine g_iload_n (pc := 39) 1 dX12_layLong_39 rfl rfl ?_
    refine g_bipush (pc := 40) (v := nI 90) dX12_layLong_40 (by decide) ?_
    refine n_idiv (pc := 42) dX12_layLong_42 (by omega) (by omega) (by omega) ?_
    refine GP.ti (nI s) (by rw [show 90 * s / 90 = s by omega]) ?_
    refine g_iconst (pc := 43) (v := nI 3) dX12_layLong_43 (by decide) ?_
    refine g_iast (pc := 44) s dX12_layLong_44 (lk_ne (show (Y + 13) ≠ (Y + 14) by omega) hN.2) (IXn (by omega) (by omega)) ?_
    refine g_goto (pc := 45) 57 dX12_layLong_45 (by decide) ?_
    obtain ⟨dn, hdn⟩ : ∃ dn, dn = vp_updL (vp_updL (vp_updL dg9 (90 * s) 0) (90 * s + 1) 0) (90 * s + 2) 128 := ⟨_, rfl⟩
    have hs0 : sl dn s = vp_updL (vp_updL (vp_updL (sl dg9 s) 0 0) 1 0) 2 128 := by rw [hdn, sl_up, sl_up, show vp_updL dg9 (90 * s) 0 = vp_updL dg9 (90 * s + 0) 0 from rfl, sl_up]
    have d0 : (sl dn s) 0 = 0 := by rw [hs0]; rfl
    have d1 : (sl dn s) 1 = 0 := by rw [hs0]; rfl
    have d2 : (sl dn s) 2 = 128 := by rw [hs0]; rfl
    rw [← hdn]
    exact g_vret (pc := 57) dX12_layLong_57 ⟨rfl, dn, _, ⟨(lk_ne (show (Y + 14) ≠ (Y + 13) by omega) (lk_eq hN.1)), (lk_eq (lk_ne (show (Y + 13) ≠ (Y + 14) by omega) hN.2))⟩, ⟨3, by omega, upd_s, by omega, ⟨fun i hi => by
            have : i = 0 ∨ i = 1 ∨ i = 2 := by omega
            rcases this with rfl | rfl | rfl
            · rw [d0]; decide
            · rw [d1]; decide
            · rw [d2]; decide, Or.inr (by show (sl dn s 2).toInt ≠ 0; rw [d2]; decide)⟩, by
            show 0 + (sl dn s 0).toInt * 268435456 ^ 0 + (sl dn s 1).toInt * 268435456 ^ 1 + (sl dn s 2).toInt * 268435456 ^ 2 = _
            rw [d0, d1, d2, h1]
            decide⟩, by rw [hdn]; exact ((nuF.rf.st (c := 0) (by omega)).st (by omega)).st (by omega), fun j hj => upd_n hj, (FR.st (c' := aI 0 5 (upd m9 s (nI 3))) (FR.st (c' := aL 450 dn) FR.rf hN.1 rfl (by unfold nuS; omega)) (lk_ne (show (Y + 13) ≠ (Y + 14) by omega) hN.2) rfl (by unfold nuS; omega))⟩
