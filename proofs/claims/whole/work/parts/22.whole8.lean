/-! Whole: setSquares -/
def sqs (g : Nat → Int64) : Nat → Int
  | 0 => 0
  | i + 1 => sqs g i + (g i).toInt * (g i).toInt
theorem sqs_nn (g : Nat → Int64) : ∀ n, 0 ≤ sqs g n
  | 0 => Int.le_refl 0
  | n + 1 => Int.add_nonneg (sqs_nn g n) (by rcases Int.le_total 0 (g n).toInt with h | h; exact Int.mul_nonneg h h; exact Int.mul_nonneg_of_nonpos_of_nonpos h h)
theorem sq_le {x b : Int} (h1 : -b ≤ x) (h2 : x ≤ b) : x * x ≤ b * b := by
  rcases Int.le_total 0 x with h | h
  · exact Int.mul_le_mul h2 h2 h (by omega)
  · have : (-x) * (-x) ≤ b * b := Int.mul_le_mul (by omega) (by omega) (by omega) (by omega)
    rw [Int.neg_mul_neg] at this
    exact this
theorem sqs_le (g : Nat → Int64) : ∀ n : Nat, sqs g n ≤ n * 85070591730234615865843651857942052864
  | 0 => Int.le_refl 0
  | n + 1 => by
    have h1 := sqs_le g n
    have h2 : (g n).toInt * (g n).toInt ≤ 9223372036854775808 * 9223372036854775808 := sq_le (L_lo (g n)) (Int.le_of_lt (L_hi (g n)))
    show sqs g n + _ ≤ _
    omega
theorem addAt {cur : Nat → Int64} {p N : Nat} {x : Int64} {X : Int} (hp : p < N) (hx : x.toInt = X) (h1 : 0 ≤ (cur p).toInt + X) (h2 : (cur p).toInt + X < 9223372036854775808) : vl (vp_updL cur p (cur p + x)) N = vl cur N + X * 268435456 ^ p ∧ (vp_updL cur p (cur p + x) p).toInt = (cur p).toInt + X := by
  have e : (cur p + x).toInt = (cur p).toInt + X := by rw [L_add (by omega) (by omega), hx]
  rw [vl_up hp, upL_s, e]
  refine ⟨?_, rfl⟩
  rw [show (cur p).toInt + X - (cur p).toInt = X by omega]
theorem sm_mul {x y : Int64} {a b : Int} (hx : 0 ≤ x.toInt ∧ x.toInt ≤ a) (hy : 0 ≤ y.toInt ∧ y.toInt ≤ b) (hab : a * b < 9223372036854775808) : (x * y).toInt = x.toInt * y.toInt ∧ 0 ≤ x.toInt * y.toInt ∧ x.toInt * y.toInt ≤ a * b := by
  have h0 : 0 ≤ x.toInt * y.toInt := Int.mul_nonneg hx.1 hy.1
  have h1 : x.toInt * y.toInt ≤ a * b := Int.mul_le_mul hx.2 hy.2 hy.1 (by omega)
  exact ⟨L_mul (by omega) (by omega), h0, h1⟩
theorem ss_step {cur : Nat → Int64} {N I : Nat} {f s t : Int64} (hN : 5 ≤ N) (hI : I ≤ 20) (hb : ∀ j, j < N → 0 ≤ (cur j).toInt ∧ (cur j).toInt ≤ I * 288230376151711744) (hf : 0 ≤ f.toInt ∧ f.toInt ≤ 268435456) (hs : 0 ≤ s.toInt ∧ s.toInt ≤ 268435456) (ht : 0 ≤ t.toInt ∧ t.toInt ≤ 256) {c1 c2 c3 c4 c5 : Nat → Int64} (e1 : c1 = vp_updL cur 0 (cur 0 + f * f)) (e2 : c2 = vp_updL c1 1 (c1 1 + 2 * f * s)) (e3 : c3 = vp_updL c2 2 (c2 2 + (2 * f * t + s * s))) (e4 : c4 = vp_updL c3 3 (c3 3 + 2 * s * t)) (e5 : c5 = vp_updL c4 4 (c4 4 + t * t)) : (∀ j, j < N → 0 ≤ (c5 j).toInt ∧ (c5 j).toInt ≤ (I + 1 : Nat) * 288230376151711744) ∧ vl c5 N = vl cur N + (f.toInt + s.toInt * 268435456 + t.toInt * 72057594037927936) * (f.toInt + s.toInt * 268435456 + t.toInt * 72057594037927936) := by
  have two : (2 : Int64).toInt = 2 := by decide
  have m1 := sm_mul hf hf (by decide)
  have d1 := sm_mul (x := 2) (y := f) (a := 2) (b := 268435456) (by rw [two]; omega) hf (by decide)
  have d2 := sm_mul (x := 2) (y := s) (a := 2) (b := 268435456) (by rw [two]; omega) hs (by decide)
  rw [two] at d1 d2
  have m2 := sm_mul (x := 2 * f) (y := s) (a := 536870912) (b := 268435456) (by rw [d1.1]; omega) hs (by decide)
  have m3 := sm_mul (x := 2 * f) (y := t) (a := 536870912) (b := 256) (by rw [d1.1]; omega) ht (by decide)
  have m4 := sm_mul hs hs (by decide)
  have m5 := sm_mul (x := 2 * s) (y := t) (a := 536870912) (b := 256) (by rw [d2.1]; omega) ht (by decide)
  have m6 := sm_mul ht ht (by decide)
  rw [d1.1] at m2 m3
  rw [d2.1] at m5
  have m7 : (2 * f * t + s * s).toInt = 2 * f.toInt * t.toInt + s.toInt * s.toInt := by
    rw [L_add (by rw [m3.1, m4.1]; omega) (by rw [m3.1, m4.1]; omega), m3.1, m4.1]
  have b0 := hb 0 (by omega)
  have b1 := hb 1 (by omega)
  have b2 := hb 2 (by omega)
  have b3 := hb 3 (by omega)
  have b4 := hb 4 (by omega)
  have n1 : c1 1 = cur 1 := by rw [e1, upL_n (by decide)]
  have n2 : c2 2 = cur 2 := by rw [e2, upL_n (by decide), e1, upL_n (by decide)]
  have n3 : c3 3 = cur 3 := by rw [e3, upL_n (by decide), e2, upL_n (by decide), e1, upL_n (by decide)]
  have n4 : c4 4 = cur 4 := by rw [e4, upL_n (by decide), e3, upL_n (by decide), e2, upL_n (by decide), e1, upL_n (by decide)]
  have a1 := addAt (cur := cur) (p := 0) (N := N) (by omega) m1.1 (by omega) (by omega)
  have a2 := addAt (cur := c1) (p := 1) (N := N) (by omega) m2.1 (by rw [n1]; omega) (by rw [n1]; omega)
  have a3 := addAt (cur := c2) (p := 2) (N := N) (by omega) m7 (by rw [n2]; omega) (by rw [n2]; omega)
  have a4 := addAt (cur := c3) (p := 3) (N := N) (by omega) m5.1 (by rw [n3]; omega) (by rw [n3]; omega)
  have a5 := addAt (cur := c4) (p := 4) (N := N) (by omega) m6.1 (by rw [n4]; omega) (by rw [n4]; omega)
  rw [← e1] at a1
  rw [← e2, n1] at a2
  rw [← e3, n2] at a3
  rw [← e4, n3] at a4
  rw [← e5, n4] at a5
  refine ⟨fun j hj => ?_, ?_⟩
  · by_cases j4 : j = 4
    · subst j4; rw [a5.2]; omega
    · rw [e5, upL_n j4]
      by_cases j3 : j = 3
      · subst j3; rw [a4.2]; omega
      · rw [e4, upL_n j3]
        by_cases j2 : j = 2
        · subst j2; rw [a3.2]; omega
        · rw [e3, upL_n j2]
          by_cases j1 : j = 1
          · subst j1; rw [a2.2]; omega
          · rw [e2, upL_n j1]
            by_cases j0 : j = 0
            · subst j0; rw [a1.2]; omega
            · rw [e1, upL_n j0]
              have := hb j hj
              omega
  · rw [a5.1, a4.1, a3.1, a2.1, a1.1]
    have p0 : (268435456 : Int) ^ 0 = 1 := rfl
    have p1 : (268435456 : Int) ^ 1 = 268435456 := rfl
    have p2 : (268435456 : Int) ^ 2 = 72057594037927936 := rfl
    have p3 : (268435456 : Int) ^ 3 = 72057594037927936 * 268435456 := rfl
    have p4 : (268435456 : Int) ^ 4 = 72057594037927936 * 72057594037927936 := rfl
    rw [p0, p1, p2, p3, p4]
    generalize f.toInt = F
    generalize s.toInt = S
    generalize t.toInt = G
    grind
def ssI (g : Nat → Int64) (N I : Nat) (cur : Nat → Int64) : Prop := (∀ j, j < N → 0 ≤ (cur j).toInt ∧ (cur j).toInt ≤ I * 288230376151711744) ∧ vl cur N = sqs g I
theorem ssI_s {g cur : Nat → Int64} {N I : Nat} {z : Int64} (hN : 5 ≤ N) (hI : I ≤ 20) (hz : z = if 0 ≤ g I then g I else -(g I)) (h : ssI g N I cur) {f s t : Int64} (ef : f = z &&& 268435455) (es : s = (z.toUInt64 >>> ((nI 28).toInt64.toUInt64 &&& Int64.toUInt64 63)).toInt64 &&& 268435455) (et : t = (z.toUInt64 >>> ((nI 56).toInt64.toUInt64 &&& Int64.toUInt64 63)).toInt64) {c1 c2 c3 c4 c5 : Nat → Int64} (e1 : c1 = vp_updL cur 0 (cur 0 + f * f)) (e2 : c2 = vp_updL c1 1 (c1 1 + 2 * f * s)) (e3 : c3 = vp_updL c2 2 (c2 2 + (2 * f * t + s * s))) (e4 : c4 = vp_updL c3 3 (c3 3 + 2 * s * t)) (e5 : c5 = vp_updL c4 4 (c4 4 + t * t)) : ssI g N (I + 1) c5 := by
  have hu := L_abs_u (g I)
  rw [← hz] at hu
  have hlt := L_u_lt z
  have kf : f.toInt = ((z.toUInt64.toNat % 268435456 : Nat) : Int) := by rw [ef, L_mask_u]
  have ks : s.toInt = ((z.toUInt64.toNat / 268435456 % 268435456 : Nat) : Int) := by rw [es, L_mask_u, L_ushr_u z (by decide)]
  have kt : t.toInt = ((z.toUInt64.toNat / 72057594037927936 : Nat) : Int) := by
    have h9 : t.toUInt64.toNat = z.toUInt64.toNat / 72057594037927936 := by rw [et, L_ushr_u z (by decide)]
    rw [L_u_toInt (by omega), h9]
  obtain ⟨q1, q2⟩ := ss_step hN hI h.1 (by omega) (by omega) (by omega) e1 e2 e3 e4 e5
  refine ⟨q1, ?_⟩
  rw [q2, h.2]
  have hs := u_split z.toUInt64.toNat hlt
  have e9 : f.toInt + s.toInt * 268435456 + t.toInt * 72057594037927936 = ((g I).toInt.natAbs : Int) := by omega
  rw [e9]
  show _ = sqs g I + (g I).toInt * (g I).toInt
  rw [Int.natAbs_mul_self']
abbrev BX10_setSquares (w0 : Wd) (Post : Option Value → Wd → Prop) (w : Wd) (pc : Nat) (ls : List (Nat × Value)) (st : List Value) : Prop := GP "setSquares" RX10 cX10_setSquares 12 none 1 39 none w0 Post w pc ls st
abbrev EX10_setSquares (As : List Value) (w : Wd) (Post : Option Value → Wd → Prop) : Prop := EP yX10_setSquares cX10_setSquares 12 none 1 As w Post
theorem ss_loop {w0 w : Wd} {Post : Option Value → Wd → Prop} {o a N n0 q Q n : Nat} {ds g : Nat → Int64} (ho : w[o]? = some (oW a n0)) (ha : w[a]? = some (aL N ds)) (hq : w[q]? = some (aL Q g)) (hoa : o ≠ a) (haq : a ≠ q) (hN : N < 2147483648) (hQ : Q < 2147483648) (h5 : 6 ≤ N) (hn : n < Q) (hn2 : n ≤ 12) (hx : ∀ cur, ssI g N (n + 1) cur → BX10_setSquares w0 Post (w.set a (aL N cur)) 158 [(3, .int (nI (n + 1))), (0, .ref o), (1, .ref q), (2, .int (nI n))] []) : ∀ (k i : Nat) (cur : Nat → Int64), n + 1 = i + k → ssI g N i cur → BX10_setSquares w0 Post (w.set a (aL N cur)) 10 [(3, .int (nI i)), (0, .ref o), (1, .ref q), (2, .int (nI n))] [] := by
  intro k
  induction k with
  | zero =>
    intro i cur hi h
    refine g_iload_n (pc := 10) 0 dX10_setSquares_10 rfl rfl ?_
    refine g_iload_n (pc := 11) 3 dX10_setSquares_11 rfl rfl ?_
    refine n_icmp_gt (pc := 12) 158 dX10_setSquares_12 (by decide) (by omega) (by omega) (fun hz => ?_) (fun hz => ?_)
    · have e : i = n + 1 := by omega
      subst e
      exact hx cur h
    · exact absurd hi (by omega)
  | succ k ih =>
    intro i cur hi h
    refine g_iload_n (pc := 10) 0 dX10_setSquares_10 rfl rfl ?_
    refine g_iload_n (pc := 11) 3 dX10_setSquares_11 rfl rfl ?_
    refine n_icmp_gt (pc := 12) 158 dX10_setSquares_12 (by decide) (by omega) (by omega) (fun hz => ?_) (fun hz => ?_)
    · exact absurd hz (by omega)
    · refine g_iload_n (pc := 15) 0 dX10_setSquares_15 rfl rfl ?_
      refine g_aload_n (pc := 16) 2 dX10_setSquares_16 rfl rfl ?_
      refine g_alen (pc := 17) dX10_setSquares_17 (lk_ne haq hq) (by decide) ?_
      refine n_icmp_ge (pc := 18) 158 dX10_setSquares_18 (by decide) (by omega) (by omega) (fun hz => ?_) (fun hz => ?_)
      · exact absurd hz (by omega)
      · refine g_aload_n (pc := 21) 1 dX10_setSquares_21 rfl rfl ?_
        refine g_get (pc := 22) dX10_setSquares_22 fk_X10_19 (lk_ne (Ne.symm hoa) ho) rfl ?_
        refine g_alen (pc := 25) dX10_setSquares_25 (lk_eq ha) (by decide) ?_
        refine g_iconst (pc := 26) (v := nI 5) dX10_setSquares_26 (by decide) ?_
        refine n_icmp_lt (pc := 27) 158 dX10_setSquares_27 (by decide) (by omega) (by omega) (fun hz => ?_) (fun hz => ?_)
        · exact absurd hz (by omega)
        · refine g_aload_n (pc := 30) 2 dX10_setSquares_30 rfl rfl ?_
          refine g_iload_n (pc := 31) 0 dX10_setSquares_31 rfl rfl ?_
          refine g_lald (pc := 32) i dX10_setSquares_32 (lk_ne haq hq) (IXn (by omega) (by omega)) ?_
          refine g_callS (pc := 33) [.long (g i)] dX10_setSquares_33 cs_X10_49.1 cs_X10_49.2 rfl rfl (Nat.le_of_ble_eq_true rfl) (by decide) (by decide) (sp_absL _ (g i)) ?_
          rintro _ w9 ⟨rfl, e9⟩
          refine GP.weq _ e9 ?_
          generalize hz9 : (if 0 ≤ g i then g i else -g i) = z
          refine g_lstore (pc := 36) [(4, .long z), (3, .int (nI i)), (0, .ref o), (1, .ref q), (2, .int (nI n))] dX10_setSquares_36 (by decide) rfl ?_
          refine g_lload (pc := 38) 0 dX10_setSquares_38 rfl ?_
          refine g_ldc2 (pc := 40) kc_X10_23 dX10_setSquares_40 ?_
          refine g_land (pc := 43) dX10_setSquares_43 ?_
          refine g_lstore (pc := 44) [(6, .long (z &&& (268435455))), (4, .long z), (3, .int (nI i)), (0, .ref o), (1, .ref q), (2, .int (nI n))] dX10_setSquares_44 (by decide) rfl ?_
          generalize hf9 : z &&& 268435455 = ff
          refine g_lload (pc := 46) 1 dX10_setSquares_46 rfl ?_
          refine g_bipush (pc := 48) (v := nI 28) dX10_setSquares_48 (by decide) ?_
          refine g_lushr (pc := 50) dX10_setSquares_50 ?_
          refine g_ldc2 (pc := 51) kc_X10_23 dX10_setSquares_51 ?_
          refine g_land (pc := 54) dX10_setSquares_54 ?_
          refine g_lstore (pc := 55) [(8, .long (((z.toUInt64 >>> ((nI 28).toInt64.toUInt64 &&& Int64.toUInt64 63)).toInt64) &&& (268435455))), (6, .long ff), (4, .long z), (3, .int (nI i)), (0, .ref o), (1, .ref q), (2, .int (nI n))] dX10_setSquares_55 (by decide) rfl ?_
          generalize hs9 : (z.toUInt64 >>> ((nI 28).toInt64.toUInt64 &&& Int64.toUInt64 63)).toInt64 &&& 268435455 = ss
          refine g_lload (pc := 57) 2 dX10_setSquares_57 rfl ?_
          refine g_bipush (pc := 59) (v := nI 56) dX10_setSquares_59 (by decide) ?_
          refine g_lushr (pc := 61) dX10_setSquares_61 ?_
          refine g_lstore (pc := 62) [(10, .long ((z.toUInt64 >>> ((nI 56).toInt64.toUInt64 &&& Int64.toUInt64 63)).toInt64)), (8, .long ss), (6, .long ff), (4, .long z), (3, .int (nI i)), (0, .ref o), (1, .ref q), (2, .int (nI n))] dX10_setSquares_62 (by decide) rfl ?_
          generalize ht9 : (z.toUInt64 >>> ((nI 56).toInt64.toUInt64 &&& Int64.toUInt64 63)).toInt64 = tt
          refine g_aload_n (pc := 64) 5 dX10_setSquares_64 rfl rfl ?_
          refine g_get (pc := 65) dX10_setSquares_65 fk_X10_19 (lk_ne (Ne.symm hoa) ho) rfl ?_
          refine g_iconst (pc := 68) (v := nI 0) dX10_setSquares_68 (by decide) ?_
          refine g_dup2 (pc := 69) dX10_setSquares_69 rfl rfl ?_
          refine g_lald (pc := 70) 0 dX10_setSquares_70 (lk_eq ha) (IXn (by omega) (by omega)) ?_
          refine g_lload (pc := 71) 2 dX10_setSquares_71 rfl ?_
          refine g_lload (pc := 73) 2 dX10_setSquares_73 rfl ?_
          refine g_lmul (pc := 75) dX10_setSquares_75 ?_
          refine g_ladd (pc := 76) dX10_setSquares_76 ?_
          refine g_last (pc := 77) 0 dX10_setSquares_77 (lk_eq ha) (IXn (by omega) (by omega)) ?_
          refine GP.weq (w.set a (aL N (vp_updL cur 0 ((cur 0) + (ff * ff))))) (by rw [List.set_set]) ?_
          obtain ⟨c1, hc1⟩ : ∃ c9 : Nat → Int64, c9 = vp_updL cur 0 ((cur 0) + (ff * ff)) := ⟨_, rfl⟩
          rw [← hc1]
          refine g_aload_n (pc := 78) 5 dX10_setSquares_78 rfl rfl ?_
          refine g_get (pc := 79) dX10_setSquares_79 fk_X10_19 (lk_ne (Ne.symm hoa) ho) rfl ?_
          refine g_iconst (pc := 82) (v := nI 1) dX10_setSquares_82 (by decide) ?_
          refine g_dup2 (pc := 83) dX10_setSquares_83 rfl rfl ?_
          refine g_lald (pc := 84) 1 dX10_setSquares_84 (lk_eq ha) (IXn (by omega) (by omega)) ?_
          refine g_ldc2 (pc := 85) kc_X10_44 dX10_setSquares_85 ?_
          refine g_lload (pc := 88) 2 dX10_setSquares_88 rfl ?_
          refine g_lmul (pc := 90) dX10_setSquares_90 ?_
          refine g_lload (pc := 91) 1 dX10_setSquares_91 rfl ?_
          refine g_lmul (pc := 93) dX10_setSquares_93 ?_
          refine g_ladd (pc := 94) dX10_setSquares_94 ?_
          refine g_last (pc := 95) 1 dX10_setSquares_95 (lk_eq ha) (IXn (by omega) (by omega)) ?_
          refine GP.weq (w.set a (aL N (vp_updL c1 1 ((c1 1) + (((2) * ff) * ss))))) (by rw [List.set_set]) ?_
          obtain ⟨c2, hc2⟩ : ∃ c9 : Nat → Int64, c9 = vp_updL c1 1 ((c1 1) + (((2) * ff) * ss)) := ⟨_, rfl⟩
          rw [← hc2]
          refine g_aload_n (pc := 96) 5 dX10_setSquares_96 rfl rfl ?_
          refine g_get (pc := 97) dX10_setSquares_97 fk_X10_19 (lk_ne (Ne.symm hoa) ho) rfl ?_
          refine g_iconst (pc := 100) (v := nI 2) dX10_setSquares_100 (by decide) ?_
          refine g_dup2 (pc := 101) dX10_setSquares_101 rfl rfl ?_
          refine g_lald (pc := 102) 2 dX10_setSquares_102 (lk_eq ha) (IXn (by omega) (by omega)) ?_
          refine g_ldc2 (pc := 103) kc_X10_44 dX10_setSquares_103 ?_
          refine g_lload (pc := 106) 2 dX10_setSquares_106 rfl ?_
          refine g_lmul (pc := 108) dX10_setSquares_108 ?_
          refine g_lload (pc := 109) 0 dX10_setSquares_109 rfl ?_
          refine g_lmul (pc := 111) dX10_setSquares_111 ?_
          refine g_lload (pc := 112) 1 dX10_setSquares_112 rfl ?_
          refine g_lload (pc := 114) 1 dX10_setSquares_114 rfl ?_
          refine g_lmul (pc := 116) dX10_setSquares_116 ?_
          refine g_ladd (pc := 117) dX10_setSquares_117 ?_
          refine g_ladd (pc := 118) dX10_setSquares_118 ?_
          refine g_last (pc := 119) 2 dX10_setSquares_119 (lk_eq ha) (IXn (by omega) (by omega)) ?_
          refine GP.weq (w.set a (aL N (vp_updL c2 2 ((c2 2) + ((((2) * ff) * tt) + (ss * ss)))))) (by rw [List.set_set]) ?_
          obtain ⟨c3, hc3⟩ : ∃ c9 : Nat → Int64, c9 = vp_updL c2 2 ((c2 2) + ((((2) * ff) * tt) + (ss * ss))) := ⟨_, rfl⟩
          rw [← hc3]
          refine g_aload_n (pc := 120) 5 dX10_setSquares_120 rfl rfl ?_
          refine g_get (pc := 121) dX10_setSquares_121 fk_X10_19 (lk_ne (Ne.symm hoa) ho) rfl ?_
          refine g_iconst (pc := 124) (v := nI 3) dX10_setSquares_124 (by decide) ?_
          refine g_dup2 (pc := 125) dX10_setSquares_125 rfl rfl ?_
          refine g_lald (pc := 126) 3 dX10_setSquares_126 (lk_eq ha) (IXn (by omega) (by omega)) ?_
          refine g_ldc2 (pc := 127) kc_X10_44 dX10_setSquares_127 ?_
          refine g_lload (pc := 130) 1 dX10_setSquares_130 rfl ?_
          refine g_lmul (pc := 132) dX10_setSquares_132 ?_
          refine g_lload (pc := 133) 0 dX10_setSquares_133 rfl ?_
          refine g_lmul (pc := 135) dX10_setSquares_135 ?_
          refine g_ladd (pc := 136) dX10_setSquares_136 ?_
          refine g_last (pc := 137) 3 dX10_setSquares_137 (lk_eq ha) (IXn (by omega) (by omega)) ?_
          refine GP.weq (w.set a (aL N (vp_updL c3 3 ((c3 3) + (((2) * ss) * tt))))) (by rw [List.set_set]) ?_
          obtain ⟨c4, hc4⟩ : ∃ c9 : Nat → Int64, c9 = vp_updL c3 3 ((c3 3) + (((2) * ss) * tt)) := ⟨_, rfl⟩
          rw [← hc4]
          refine g_aload_n (pc := 138) 5 dX10_setSquares_138 rfl rfl ?_
          refine g_get (pc := 139) dX10_setSquares_139 fk_X10_19 (lk_ne (Ne.symm hoa) ho) rfl ?_
          refine g_iconst (pc := 142) (v := nI 4) dX10_setSquares_142 (by decide) ?_
          refine g_dup2 (pc := 143) dX10_setSquares_143 rfl rfl ?_
          refine g_lald (pc := 144) 4 dX10_setSquares_144 (lk_eq ha) (IXn (by omega) (by omega)) ?_
          refine g_lload (pc := 145) 0 dX10_setSquares_145 rfl ?_
          refine g_lload (pc := 147) 0 dX10_setSquares_147 rfl ?_
          refine g_lmul (pc := 149) dX10_setSquares_149 ?_
          refine g_ladd (pc := 150) dX10_setSquares_150 ?_
          refine g_last (pc := 151) 4 dX10_setSquares_151 (lk_eq ha) (IXn (by omega) (by omega)) ?_
          refine GP.weq (w.set a (aL N (vp_updL c4 4 ((c4 4) + (tt * tt))))) (by rw [List.set_set]) ?_
          obtain ⟨c5, hc5⟩ : ∃ c9 : Nat → Int64, c9 = vp_updL c4 4 ((c4 4) + (tt * tt)) := ⟨_, rfl⟩
          rw [← hc5]
          refine n_iinc (pc := 152) (c := 1) [(3, .int (nI (i + 1))), (10, .long tt), (8, .long ss), (6, .long ff), (4, .long z), (0, .ref o), (1, .ref q), (2, .int (nI n))] 4 dX10_setSquares_152 rfl (by decide) (by decide) rfl ?_
          refine g_goto (pc := 155) 10 dX10_setSquares_155 (by decide) ?_
          refine GP.lsub _ (by simp) (ih (i + 1) c5 (by omega) ?_)
          exact ssI_s (by omega) (by omega) hz9.symm h hf9.symm hs9.symm ht9.symm hc1 hc2 hc3 hc4 hc5
theorem sp_setSquares (w : Wd) {o a N n0 q Q n : Nat} {ds g : Nat → Int64} (ho : w[o]? = some (oW a n0)) (ha : w[a]? = some (aL N ds)) (hq : w[q]? = some (aL Q g)) (hoa : o ≠ a) (haq : a ≠ q) (hN : N < 2147483648) (hQ : Q < 2147483648) (h5 : 6 ≤ N) (hn : n < Q) (hn2 : n ≤ 12) : EX10_setSquares [.ref o, .ref q, .int (nI n)] w (fun r w' => r = none ∧ ∃ ds' n', wf ds' n' ∧ vl ds' n' = sqs g (n + 1) ∧ n' ≤ N ∧ w' = (w.set o (oW a n')).set a (aL N ds')) := by
  refine EP.of (plainFor_of_name (by decide)) [(0, .ref o), (1, .ref q), (2, .int (nI n))] rfl (Nat.le_of_ble_eq_true rfl) (fun r wf h => by obtain ⟨rfl, -⟩ := h; trivial) ?_
  show BX10_setSquares w _ w 0 [(0, .ref o), (1, .ref q), (2, .int (nI n))] []
  refine g_aload_n (pc := 0) 0 dX10_setSquares_0 rfl rfl ?_
  refine g_get (pc := 1) dX10_setSquares_1 fk_X10_19 ho rfl ?_
  refine g_lconst (pc := 4) (v := 0) dX10_setSquares_4 (by decide) ?_
  refine g_callS (pc := 5) [.ref a, .long 0] dX10_setSquares_5 cs_X10_46.1 cs_X10_46.2 rfl rfl (Nat.le_of_ble_eq_true rfl) (by decide) (by decide) (sp_fill1 _ a N ds 0 ha hN) ?_
  rintro _ w9 ⟨rfl, e9⟩
  refine GP.weq _ e9 ?_
  refine g_iconst (pc := 8) (v := nI 0) dX10_setSquares_8 (by decide) ?_
  refine g_istore_n (pc := 9) [(3, .int (nI 0)), (0, .ref o), (1, .ref q), (2, .int (nI n))] dX10_setSquares_9 rfl (by decide) rfl ?_
  refine ss_loop ho ha hq hoa haq hN hQ h5 hn hn2 (fun cur h => ?_) (n + 1) 0 _ (by omega) ?_
  · refine g_aload_n (pc := 158) 1 dX10_setSquares_158 rfl rfl ?_
    refine g_aload_n (pc := 159) 1 dX10_setSquares_159 rfl rfl ?_
    refine g_get (pc := 160) dX10_setSquares_160 fk_X10_19 (lk_ne (Ne.symm hoa) ho) rfl ?_
    refine g_alen (pc := 163) dX10_setSquares_163 (lk_eq ha) (by decide) ?_
    refine g_callV (pc := 164) [.int (nI N)] dX10_setSquares_164 cv_X10_28.1 cv_X10_28.2.1 cv_X10_28.2.2.1 cv_X10_28.2.2.2 (lk_ne (Ne.symm hoa) ho) rfl rfl (Nat.le_of_ble_eq_true rfl) (by decide) (by decide) (sp_carry _ o a N n0 N cur (lk_ne (Ne.symm hoa) ho) (lk_eq ha) hoa (Nat.le_refl _) hN (fun i hi => ⟨(h.1 i hi).1, by have := (h.1 i hi).2; omega⟩)) ?_
    rintro _ w9 ⟨rfl, ds', n', hcd, e9⟩
    refine GP.weq _ e9 ?_
    have hlt : vl cur N < 268435456 ^ N := by
      rw [h.2]
      have h1 := sqs_le g (n + 1)
      have h2 := ipow_le h5
      have h3 : (268435456 : Int) ^ 6 = 374144419156711147060143317175368453031918731001856 := rfl
      omega
    obtain ⟨c1, c2, c3, c4⟩ := carried_val hcd hlt
    exact g_vret (pc := 167) dX10_setSquares_167 ⟨rfl, ds', n', ⟨c2, c3⟩, by rw [c1, h.2], c4, by rw [List.set_comm _ _ hoa, List.set_set, List.set_comm _ _ (Ne.symm hoa)]⟩
  · refine ⟨fun t ht => ?_, ?_⟩
    · simp only [fillF]; rw [if_pos (by omega)]; exact ⟨by decide, by show ((0 : Int64)).toInt ≤ _; simp⟩
    · show vl _ N = 0
      rw [show N = 0 + N by omega, vl_zeros (fun j h1 h2 => by simp only [fillF]; rw [if_pos (by omega)]; decide)]; rfl
