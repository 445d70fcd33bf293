/-! Gauge: greatestShare -/
theorem shr_cmp {A B U V : Nat} (hU : 0 < U) (hV : 0 < V) : (B / V < A / U ∨ (A / U = B / V ∧ (B % V) * U < (A % U) * V)) ↔ B * U < A * V := by
  have hA := Nat.div_add_mod A U
  have hB := Nat.div_add_mod B V
  have hr := Nat.mod_lt A hU
  have hs := Nat.mod_lt B hV
  generalize A / U = q at *
  generalize A % U = r at *
  generalize B / V = p at *
  generalize B % V = s at *
  subst hA hB
  have e1 : (U * q + r) * V = U * V * q + r * V := by grind
  have e2 : (V * p + s) * U = U * V * p + s * U := by grind
  have h1 : s * U < U * V := by rw [Nat.mul_comm U V]; exact Nat.mul_lt_mul_of_pos_right hs hU
  have h2 : r * V < U * V := Nat.mul_lt_mul_of_pos_right hr hV
  rw [e1, e2]
  generalize U * V = X at *
  generalize s * U = y at *
  generalize r * V = z at *
  rcases Nat.lt_trichotomy p q with h | h | h
  · have h3 : X * (p + 1) ≤ X * q := Nat.mul_le_mul_left _ h
    rw [Nat.mul_add, Nat.mul_one] at h3
    constructor
    · intro _; omega
    · intro _; exact Or.inl h
  · subst h
    constructor
    · rintro (h | h) <;> omega
    · intro h
      exact Or.inr ⟨rfl, by omega⟩
  · have h3 : X * (q + 1) ≤ X * p := Nat.mul_le_mul_left _ h
    rw [Nat.mul_add, Nat.mul_one] at h3
    constructor
    · rintro (h | h) <;> omega
    · intro h; omega
theorem shr_tr {Aj Ab Ai Wj Wb Wi : Nat} (h1 : Aj * Wb ≤ Ab * Wj) (h2 : Ab * Wi < Ai * Wb) (hb : 0 < Wb) : Aj * Wi ≤ Ai * Wj := by
  refine Nat.le_of_mul_le_mul_right (c := Wb) ?_ hb
  have g1 : Aj * Wb * Wi ≤ Ab * Wj * Wi := Nat.mul_le_mul_right _ h1
  have g2 : Ab * Wi * Wj ≤ Ai * Wb * Wj := Nat.mul_le_mul_right _ (Nat.le_of_lt h2)
  have e1 : Aj * Wi * Wb = Aj * Wb * Wi := by grind
  have e2 : Ab * Wj * Wi = Ab * Wi * Wj := by grind
  have e3 : Ai * Wj * Wb = Ai * Wb * Wj := by grind
  omega
theorem binI_in : ∀ n : Fin 13, ∀ i : Fin 13, i.1 ≤ n.1 → 1 ≤ binI n.1 i.1 ∧ binI n.1 i.1 ≤ 924 := by decide
theorem binI_b {n i : Nat} (hn : n ≤ 12) (hi : i ≤ n) : 1 ≤ binI n i ∧ binI n i ≤ 924 := binI_in ⟨n, by omega⟩ ⟨i, by omega⟩ hi
theorem binI_nn : ∀ n, binI n n = 1
  | 0 => rfl
  | n + 1 => by
    have h : ∀ n k, n < k → binI n k = 0 := by
      intro n
      induction n with
      | zero => intro k hk; obtain ⟨j, rfl⟩ : ∃ j, k = j + 1 := ⟨k - 1, by omega⟩; rfl
      | succ n ih =>
        intro k hk
        obtain ⟨j, rfl⟩ : ∃ j, k = j + 1 := ⟨k - 1, by omega⟩
        show binI n j + binI n (j + 1) = 0
        rw [ih j (by omega), ih (j + 1) (by omega)]
    show binI n n + binI n (n + 1) = 1
    rw [binI_nn n, h n (n + 1) (by omega)]
abbrev aN (f : Nat → Int64) (i : Nat) : Nat := (f i).toInt.natAbs
def shI (A W : Nat) (bw br : Int64) : Prop := bw.toInt = -((A / W : Nat) : Int) ∧ br.toInt = -((A % W : Nat) : Int)
theorem sh_div {x u : Int64} {A W : Nat} (hx : x.toInt = -(A : Int)) (hu : u.toInt = W) (hW : 0 < W) : shI A W (x / u) (x - x / u * u) := by
  have h1 := L_lo x
  have h2 := L_hi x
  have hq : (x / u).toInt = -((A / W : Nat) : Int) := by
    rw [L_div (by omega), hx, hu, Int.neg_tdiv, Int.tdiv_eq_ediv_of_nonneg (by omega)]
    rfl
  have hm := Nat.div_add_mod A W
  have hm2 := Nat.mod_lt A hW
  have hp : (x / u).toInt * u.toInt = -((W * (A / W) : Nat) : Int) := by
    rw [hq, hu, Int.neg_mul, Int.mul_comm]
    rfl
  have hpp : (x / u * u).toInt = -((W * (A / W) : Nat) : Int) := by
    rw [L_mul (by rw [hp]; omega) (by rw [hp]; omega), hp]
  refine ⟨hq, ?_⟩
  rw [L_sub (by rw [hpp]; omega) (by rw [hpp]; omega), hpp, hx]
  omega
abbrev BX2_greatestShare (w0 : Wd) (Post : Option Value → Wd → Prop) (w : Wd) (pc : Nat) (ls : List (Nat × Value)) (st : List Value) : Prop := GP "greatestShare" RX2 cX2_greatestShare 16 (some .int) 1 39 none w0 Post w pc ls st
abbrev EX2_greatestShare (As : List Value) (w : Wd) (Post : Option Value → Wd → Prop) : Prop := EP yX2_greatestShare cX2_greatestShare 16 (some .int) 1 As w Post
theorem sh_mid {w0 w : Wd} {G q n : Nat} {bb bl : Int32} {f : Nat → Int64} {y : Nat → Int32} {yf : Nat → Option Nat} (hn : n ≤ 12) (hg : w[G]? = some (oG G bb bl)) (hq : w[q]? = some (aL 13 f)) (hy : w[G + 2]? = some (aR 8 13 yf)) (hyf : yf n = some (G + 3 + n)) (hyn : w[G + 3 + n]? = some (aI 0 13 y)) (hyi : ∀ i, i ≤ n → y i = nI (binI n i)) {Post : Option Value → Wd → Prop} {i b : Nat} {x bw br : Int64} (hi : i < n) (hb : b ≤ n) (hx : x.toInt = -(aN f i : Int)) (hI : shI (aN f b) (binI n b) bw br) (hk : ∀ (b' : Nat) (bw' br' : Int64), ((b' = i ∧ aN f b * binI n i < aN f i * binI n b) ∨ (b' = b ∧ ¬ aN f b * binI n i < aN f i * binI n b)) → shI (aN f b') (binI n b') bw' br' → BX2_greatestShare w0 Post w 144 [(8, .int (nI i)), (6, .long br'), (4, .long bw'), (3, .int (nI b')), (0, .ref G), (1, .ref q), (2, .int (nI n))] []) : BX2_greatestShare w0 Post w 44 [(8, .int (nI i)), (6, .long br), (4, .long bw), (3, .int (nI b)), (0, .ref G), (1, .ref q), (2, .int (nI n))] [.long x] := by
  have hWi := binI_b hn (show i ≤ n by omega)
  have hWb := binI_b hn hb
  have hui : ((y i).toInt64).toInt = (binI n i : Nat) := by rw [hyi i (by omega), IL, nI_toInt (by omega)]
  have hub : ((y b).toInt64).toInt = (binI n b : Nat) := by rw [hyi b hb, IL, nI_toInt (by omega)]
  obtain ⟨ui, hui9⟩ : ∃ ui : Int64, (y i).toInt64 = ui := ⟨_, rfl⟩
  obtain ⟨ub9, hub9⟩ : ∃ u : Int64, (y b).toInt64 = u := ⟨_, rfl⟩
  rw [hui9] at hui
  rw [hub9] at hub
  have hS := sh_div hx hui (by omega)
  obtain ⟨wh, hwh⟩ : ∃ z : Int64, x / ui = z := ⟨_, rfl⟩
  rw [hwh] at hS
  obtain ⟨rs, hrs⟩ : ∃ z : Int64, x - wh * ui = z := ⟨_, rfl⟩
  rw [hrs] at hS
  have hcmp := shr_cmp (A := aN f i) (B := aN f b) (U := binI n i) (V := binI n b) (by omega) (by omega)
  have hm1 := Nat.mod_lt (aN f i) (show 0 < binI n i by omega)
  have hm2 := Nat.mod_lt (aN f b) (show 0 < binI n b by omega)
  have hS0 := id hS
  have hI0 := id hI
  obtain ⟨s1, s2⟩ := hS
  obtain ⟨i1, i2⟩ := hI
  obtain ⟨p1, hp1⟩ : ∃ z : Int64, rs * ub9 = z := ⟨_, rfl⟩
  obtain ⟨p2, hp2⟩ : ∃ z : Int64, br * ui = z := ⟨_, rfl⟩
  have q1 : aN f i % binI n i * binI n b ≤ 924 * 924 := Nat.mul_le_mul (by omega) (by omega)
  have q2 : aN f b % binI n b * binI n i ≤ 924 * 924 := Nat.mul_le_mul (by omega) (by omega)
  have v1 : rs.toInt * ub9.toInt = -((aN f i % binI n i * binI n b : Nat) : Int) := by rw [s2, hub, Int.neg_mul]; rfl
  have v2 : br.toInt * ui.toInt = -((aN f b % binI n b * binI n i : Nat) : Int) := by rw [i2, hui, Int.neg_mul]; rfl
  have t1 : p1.toInt = -((aN f i % binI n i * binI n b : Nat) : Int) := by rw [← hp1, L_mul (by rw [v1]; omega) (by rw [v1]; omega), v1]
  have t2 : p2.toInt = -((aN f b % binI n b * binI n i : Nat) : Int) := by rw [← hp2, L_mul (by rw [v2]; omega) (by rw [v2]; omega), v2]
  clear q1 q2 v1 v2 hm1 hm2
  generalize aN f i % binI n i * binI n b = P1 at *
  generalize aN f b % binI n b * binI n i = P2 at *
  have hu0 : ¬ ui = 0 := fun g9 => by rw [g9] at hui; rw [show (0 : Int64).toInt = 0 by decide] at hui; omega
  refine g_lstore (pc := 44) [(9, .long x), (8, .int (nI i)), (6, .long br), (4, .long bw), (3, .int (nI b)), (0, .ref G), (1, .ref q), (2, .int (nI n))] dX2_greatestShare_44 (by decide) rfl ?_
  refine g_lload (pc := 46) 0 dX2_greatestShare_46 rfl ?_
  refine g_aload_n (pc := 48) 5 dX2_greatestShare_48 rfl rfl ?_
  refine g_get (pc := 49) dX2_greatestShare_49 fk_X2_19 hg rfl ?_
  refine g_iload_n (pc := 52) 7 dX2_greatestShare_52 rfl rfl ?_
  refine g_aald (pc := 53) (v := .ref (G + 3 + n)) n dX2_greatestShare_53 hy (by decide) (IXn (by omega) (by omega)) (by rw [hyf]; rfl) ?_
  refine g_iload (pc := 54) 1 dX2_greatestShare_54 rfl ?_
  refine g_iald (pc := 56) i dX2_greatestShare_56 hyn (IXn (by omega) (by omega)) ?_
  refine g_i2l (pc := 57) dX2_greatestShare_57 ?_
  refine GP.tl ui hui9 ?_
  refine g_ldiv (pc := 58) dX2_greatestShare_58 hu0 ?_
  refine GP.tl wh hwh ?_
  refine g_lstore (pc := 59) [(11, .long wh), (9, .long x), (8, .int (nI i)), (6, .long br), (4, .long bw), (3, .int (nI b)), (0, .ref G), (1, .ref q), (2, .int (nI n))] dX2_greatestShare_59 (by decide) rfl ?_
  refine g_lload (pc := 61) 1 dX2_greatestShare_61 rfl ?_
  refine g_aload_n (pc := 63) 6 dX2_greatestShare_63 rfl rfl ?_
  refine g_get (pc := 64) dX2_greatestShare_64 fk_X2_19 hg rfl ?_
  refine g_iload_n (pc := 67) 8 dX2_greatestShare_67 rfl rfl ?_
  refine g_aald (pc := 68) (v := .ref (G + 3 + n)) n dX2_greatestShare_68 hy (by decide) (IXn (by omega) (by omega)) (by rw [hyf]; rfl) ?_
  refine g_iload (pc := 69) 2 dX2_greatestShare_69 rfl ?_
  refine g_iald (pc := 71) i dX2_greatestShare_71 hyn (IXn (by omega) (by omega)) ?_
  refine g_i2l (pc := 72) dX2_greatestShare_72 ?_
  refine GP.tl ui hui9 ?_
  refine g_lrem (pc := 73) dX2_greatestShare_73 hu0 ?_
  refine GP.tl rs (by rw [hwh]; exact hrs) ?_
  refine g_lstore (pc := 74) [(13, .long rs), (11, .long wh), (9, .long x), (8, .int (nI i)), (6, .long br), (4, .long bw), (3, .int (nI b)), (0, .ref G), (1, .ref q), (2, .int (nI n))] dX2_greatestShare_74 (by decide) rfl ?_
  refine g_lload (pc := 76) 1 dX2_greatestShare_76 rfl ?_
  refine g_lload (pc := 78) 5 dX2_greatestShare_78 rfl ?_
  refine g_lcmp_lt (pc := 80) 121 dX2_greatestShare_80 dX2_greatestShare_81 (by decide) (fun c1 => ?_) (fun c1 => ?_)
  · rw [Int64.lt_iff_toInt_lt, s1, i1] at c1
    refine g_iconst (pc := 121) (v := nI 1) dX2_greatestShare_121 (by decide) ?_
    refine g_goto (pc := 122) 126 dX2_greatestShare_122 (by decide) ?_
    refine g_istore (pc := 126) [(15, .int (nI 1)), (13, .long rs), (11, .long wh), (9, .long x), (8, .int (nI i)), (6, .long br), (4, .long bw), (3, .int (nI b)), (0, .ref G), (1, .ref q), (2, .int (nI n))] dX2_greatestShare_126 (by decide) rfl ?_
    refine g_iload (pc := 128) 0 dX2_greatestShare_128 rfl ?_
    refine n_if_eq (pc := 130) 144 dX2_greatestShare_130 (by decide) (by omega) (fun c9 => ?_) (fun c9 => ?_)
    · exact absurd c9 (by decide)
    · refine g_iload (pc := 133) 4 dX2_greatestShare_133 rfl ?_
      refine g_istore_n (pc := 135) [(3, .int (nI i)), (15, .int (nI 1)), (13, .long rs), (11, .long wh), (9, .long x), (8, .int (nI i)), (6, .long br), (4, .long bw), (0, .ref G), (1, .ref q), (2, .int (nI n))] dX2_greatestShare_135 rfl (by decide) rfl ?_
      refine g_lload (pc := 136) 3 dX2_greatestShare_136 rfl ?_
      refine g_lstore (pc := 138) [(4, .long wh), (3, .int (nI i)), (15, .int (nI 1)), (13, .long rs), (11, .long wh), (9, .long x), (8, .int (nI i)), (6, .long br), (0, .ref G), (1, .ref q), (2, .int (nI n))] dX2_greatestShare_138 (by decide) rfl ?_
      refine g_lload (pc := 140) 3 dX2_greatestShare_140 rfl ?_
      refine g_lstore (pc := 142) [(6, .long rs), (4, .long wh), (3, .int (nI i)), (15, .int (nI 1)), (13, .long rs), (11, .long wh), (9, .long x), (8, .int (nI i)), (0, .ref G), (1, .ref q), (2, .int (nI n))] dX2_greatestShare_142 (by decide) rfl ?_
      exact GP.lsub _ (by simp) (hk i wh rs (Or.inl ⟨rfl, hcmp.mp (Or.inl (by omega))⟩) hS0)
  · rw [Int64.lt_iff_toInt_lt, s1, i1] at c1
    refine g_lload (pc := 84) 1 dX2_greatestShare_84 rfl ?_
    refine g_lload (pc := 86) 5 dX2_greatestShare_86 rfl ?_
    refine g_lcmp_ne (pc := 88) 125 dX2_greatestShare_88 dX2_greatestShare_89 (by decide) (fun c2 => ?_) (fun c2 => ?_)
    · have c3 : ¬ wh.toInt = bw.toInt := fun g9 => c2 (Int64.toInt_inj.mp g9)
      rw [s1, i1] at c3
      refine g_iconst (pc := 125) (v := nI 0) dX2_greatestShare_125 (by decide) ?_
      refine g_istore (pc := 126) [(15, .int (nI 0)), (13, .long rs), (11, .long wh), (9, .long x), (8, .int (nI i)), (6, .long br), (4, .long bw), (3, .int (nI b)), (0, .ref G), (1, .ref q), (2, .int (nI n))] dX2_greatestShare_126 (by decide) rfl ?_
      refine g_iload (pc := 128) 0 dX2_greatestShare_128 rfl ?_
      refine n_if_eq (pc := 130) 144 dX2_greatestShare_130 (by decide) (by omega) (fun c9 => ?_) (fun c9 => ?_)
      · exact GP.lsub _ (by simp) (hk b bw br (Or.inr ⟨rfl, fun g9 => by rcases hcmp.mpr g9 with h9 | h9 <;> omega⟩) hI0)
      · exact absurd rfl c9
    · have c3 : wh.toInt = bw.toInt := by rw [Decidable.not_not.mp c2]
      rw [s1, i1] at c3
      refine g_lload (pc := 92) 0 dX2_greatestShare_92 rfl ?_
      refine g_aload_n (pc := 94) 7 dX2_greatestShare_94 rfl rfl ?_
      refine g_get (pc := 95) dX2_greatestShare_95 fk_X2_19 hg rfl ?_
      refine g_iload_n (pc := 98) 9 dX2_greatestShare_98 rfl rfl ?_
      refine g_aald (pc := 99) (v := .ref (G + 3 + n)) n dX2_greatestShare_99 hy (by decide) (IXn (by omega) (by omega)) (by rw [hyf]; rfl) ?_
      refine g_iload_n (pc := 100) 6 dX2_greatestShare_100 rfl rfl ?_
      refine g_iald (pc := 101) b dX2_greatestShare_101 hyn (IXn (by omega) (by omega)) ?_
      refine g_i2l (pc := 102) dX2_greatestShare_102 ?_
      refine GP.tl ub9 hub9 ?_
      refine g_lmul (pc := 103) dX2_greatestShare_103 ?_
      refine GP.tl p1 hp1 ?_
      refine g_lload (pc := 104) 4 dX2_greatestShare_104 rfl ?_
      refine g_aload_n (pc := 106) 7 dX2_greatestShare_106 rfl rfl ?_
      refine g_get (pc := 107) dX2_greatestShare_107 fk_X2_19 hg rfl ?_
      refine g_iload_n (pc := 110) 9 dX2_greatestShare_110 rfl rfl ?_
      refine g_aald (pc := 111) (v := .ref (G + 3 + n)) n dX2_greatestShare_111 hy (by decide) (IXn (by omega) (by omega)) (by rw [hyf]; rfl) ?_
      refine g_iload (pc := 112) 3 dX2_greatestShare_112 rfl ?_
      refine g_iald (pc := 114) i dX2_greatestShare_114 hyn (IXn (by omega) (by omega)) ?_
      refine g_i2l (pc := 115) dX2_greatestShare_115 ?_
      refine GP.tl ui hui9 ?_
      refine g_lmul (pc := 116) dX2_greatestShare_116 ?_
      refine GP.tl p2 hp2 ?_
      refine g_lcmp_ge (pc := 117) 125 dX2_greatestShare_117 dX2_greatestShare_118 (by decide) (fun c4 => ?_) (fun c4 => ?_)
      · rw [Int64.le_iff_toInt_le, t1, t2] at c4
        refine g_iconst (pc := 125) (v := nI 0) dX2_greatestShare_125 (by decide) ?_
        refine g_istore (pc := 126) [(15, .int (nI 0)), (13, .long rs), (11, .long wh), (9, .long x), (8, .int (nI i)), (6, .long br), (4, .long bw), (3, .int (nI b)), (0, .ref G), (1, .ref q), (2, .int (nI n))] dX2_greatestShare_126 (by decide) rfl ?_
        refine g_iload (pc := 128) 0 dX2_greatestShare_128 rfl ?_
        refine n_if_eq (pc := 130) 144 dX2_greatestShare_130 (by decide) (by omega) (fun c9 => ?_) (fun c9 => ?_)
        · exact GP.lsub _ (by simp) (hk b bw br (Or.inr ⟨rfl, fun g9 => by rcases hcmp.mpr g9 with h9 | h9 <;> omega⟩) hI0)
        · exact absurd rfl c9
      · rw [Int64.le_iff_toInt_le, t1, t2] at c4
        refine g_iconst (pc := 121) (v := nI 1) dX2_greatestShare_121 (by decide) ?_
        refine g_goto (pc := 122) 126 dX2_greatestShare_122 (by decide) ?_
        refine g_istore (pc := 126) [(15, .int (nI 1)), (13, .long rs), (11, .long wh), (9, .long x), (8, .int (nI i)), (6, .long br), (4, .long bw), (3, .int (nI b)), (0, .ref G), (1, .ref q), (2, .int (nI n))] dX2_greatestShare_126 (by decide) rfl ?_
        refine g_iload (pc := 128) 0 dX2_greatestShare_128 rfl ?_
        refine n_if_eq (pc := 130) 144 dX2_greatestShare_130 (by decide) (by omega) (fun c9 => ?_) (fun c9 => ?_)
        · exact absurd c9 (by decide)
        · refine g_iload (pc := 133) 4 dX2_greatestShare_133 rfl ?_
          refine g_istore_n (pc := 135) [(3, .int (nI i)), (15, .int (nI 1)), (13, .long rs), (11, .long wh), (9, .long x), (8, .int (nI i)), (6, .long br), (4, .long bw), (0, .ref G), (1, .ref q), (2, .int (nI n))] dX2_greatestShare_135 rfl (by decide) rfl ?_
          refine g_lload (pc := 136) 3 dX2_greatestShare_136 rfl ?_
          refine g_lstore (pc := 138) [(4, .long wh), (3, .int (nI i)), (15, .int (nI 1)), (13, .long rs), (11, .long wh), (9, .long x), (8, .int (nI i)), (6, .long br), (0, .ref G), (1, .ref q), (2, .int (nI n))] dX2_greatestShare_138 (by decide) rfl ?_
          refine g_lload (pc := 140) 3 dX2_greatestShare_140 rfl ?_
          refine g_lstore (pc := 142) [(6, .long rs), (4, .long wh), (3, .int (nI i)), (15, .int (nI 1)), (13, .long rs), (11, .long wh), (9, .long x), (8, .int (nI i)), (0, .ref G), (1, .ref q), (2, .int (nI n))] dX2_greatestShare_142 (by decide) rfl ?_
          exact GP.lsub _ (by simp) (hk i wh rs (Or.inl ⟨rfl, hcmp.mp (Or.inr ⟨by omega, by omega⟩)⟩) hS0)
theorem sh_loop9 {w0 w : Wd} {G q n : Nat} {bb bl : Int32} {f : Nat → Int64} {y : Nat → Int32} {yf : Nat → Option Nat} (hn : n ≤ 12) (hg : w[G]? = some (oG G bb bl)) (hq : w[q]? = some (aL 13 f)) (hy : w[G + 2]? = some (aR 8 13 yf)) (hyf : yf n = some (G + 3 + n)) (hyn : w[G + 3 + n]? = some (aI 0 13 y)) (hyi : ∀ i, i ≤ n → y i = nI (binI n i)) : ∀ (z i b : Nat) (bw br : Int64), n = i + z → b ≤ n → shI (aN f b) (binI n b) bw br → (∀ j, (j < i ∨ j = n) → aN f j * binI n b ≤ aN f b * binI n j) → BX2_greatestShare w0 (fun r w' => ∃ b : Nat, r = some (.int (nI b)) ∧ b ≤ n ∧ (∀ j, j ≤ n → aN f j * binI n b ≤ aN f b * binI n j) ∧ w' = w) w 17 [(8, .int (nI i)), (6, .long br), (4, .long bw), (3, .int (nI b)), (0, .ref G), (1, .ref q), (2, .int (nI n))] [] := by
  intro z
  induction z with
  | zero =>
    intro i b bw br hz hb hI hj
    refine g_iload (pc := 17) 0 dX2_greatestShare_17 rfl ?_
    refine g_iload_n (pc := 19) 6 dX2_greatestShare_19 rfl rfl ?_
    refine n_icmp_ge (pc := 20) 150 dX2_greatestShare_20 (by decide) (by omega) (by omega) (fun hc => ?_) (fun hc => ?_)
    · refine g_iload_n (pc := 150) 3 dX2_greatestShare_150 rfl rfl ?_
      exact g_iret (pc := 151) dX2_greatestShare_151 ⟨b, rfl, hb, fun j h9 => hj j (by omega), rfl⟩
    · exact absurd hc (by omega)
  | succ z ih =>
    intro i b bw br hz hb hI hj
    have z0 : (0 : Int64).toInt = 0 := by decide
    have hlo := L_lo (f i)
    have hk : ∀ (b' : Nat) (bw' br' : Int64), ((b' = i ∧ aN f b * binI n i < aN f i * binI n b) ∨ (b' = b ∧ ¬ aN f b * binI n i < aN f i * binI n b)) → shI (aN f b') (binI n b') bw' br' → BX2_greatestShare w0 (fun r w' => ∃ b : Nat, r = some (.int (nI b)) ∧ b ≤ n ∧ (∀ j, j ≤ n → aN f j * binI n b ≤ aN f b * binI n j) ∧ w' = w) w 144 [(8, .int (nI i)), (6, .long br'), (4, .long bw'), (3, .int (nI b')), (0, .ref G), (1, .ref q), (2, .int (nI n))] [] := by
      intro b' bw' br' hcc hI'
      refine n_iinc (pc := 144) (c := 1) [(8, .int (nI (i + 1))), (6, .long br'), (4, .long bw'), (3, .int (nI b')), (0, .ref G), (1, .ref q), (2, .int (nI n))] 0 dX2_greatestShare_144 rfl (by decide) (by decide) rfl ?_
      refine g_goto (pc := 147) 17 dX2_greatestShare_147 (by decide) ?_
      refine GP.lsub _ (by simp) (ih (i + 1) b' bw' br' (by omega) (by omega) hI' (fun j hj2 => ?_))
      rcases hcc with ⟨e, hlt⟩ | ⟨e, hlt⟩
      · subst e
        by_cases hji : j = b'
        · subst hji; exact Nat.le_refl _
        · exact shr_tr (hj j (by omega)) hlt (by have := binI_b hn hb; omega)
      · subst e
        by_cases hji : j = i
        · subst hji; omega
        · exact hj j (by omega)
    refine g_iload (pc := 17) 0 dX2_greatestShare_17 rfl ?_
    refine g_iload_n (pc := 19) 6 dX2_greatestShare_19 rfl rfl ?_
    refine n_icmp_ge (pc := 20) 150 dX2_greatestShare_20 (by decide) (by omega) (by omega) (fun hc => ?_) (fun hc => ?_)
    · exact absurd hc (by omega)
    · refine g_aload_n (pc := 23) 5 dX2_greatestShare_23 rfl rfl ?_
      refine g_iload (pc := 24) 0 dX2_greatestShare_24 rfl ?_
      refine g_lald (pc := 26) i dX2_greatestShare_26 hq (IXn (by omega) (by omega)) ?_
      refine g_lconst (pc := 27) (v := 0) dX2_greatestShare_27 (by decide) ?_
      refine g_lcmp_le (pc := 28) 40 dX2_greatestShare_28 dX2_greatestShare_29 (by decide) (fun hp => ?_) (fun hp => ?_)
      · rw [Int64.le_iff_toInt_le, z0] at hp
        refine g_aload_n (pc := 40) 5 dX2_greatestShare_40 rfl rfl ?_
        refine g_iload (pc := 41) 0 dX2_greatestShare_41 rfl ?_
        refine g_lald (pc := 43) i dX2_greatestShare_43 hq (IXn (by omega) (by omega)) ?_
        exact GP.lsub [(8, .int (nI i)), (6, .long br), (4, .long bw), (3, .int (nI b)), (0, .ref G), (1, .ref q), (2, .int (nI n))] (by simp) (sh_mid hn hg hq hy hyf hyn hyi (i := i) (b := b) (by omega) hb (by show _ = -((f i).toInt.natAbs : Int); omega) hI hk)
      · rw [Int64.le_iff_toInt_le, z0] at hp
        refine g_aload_n (pc := 32) 5 dX2_greatestShare_32 rfl rfl ?_
        refine g_iload (pc := 33) 0 dX2_greatestShare_33 rfl ?_
        refine g_lald (pc := 35) i dX2_greatestShare_35 hq (IXn (by omega) (by omega)) ?_
        refine g_lneg (pc := 36) dX2_greatestShare_36 ?_
        refine g_goto (pc := 37) 44 dX2_greatestShare_37 (by decide) ?_
        exact GP.lsub [(8, .int (nI i)), (6, .long br), (4, .long bw), (3, .int (nI b)), (0, .ref G), (1, .ref q), (2, .int (nI n))] (by simp) (sh_mid hn hg hq hy hyf hyn hyi (i := i) (b := b) (by omega) hb (by rw [L_neg (by omega)]; show _ = -((f i).toInt.natAbs : Int); omega) hI hk)
theorem sp_greatestShare (w : Wd) {G q n : Nat} {bb bl : Int32} {f : Nat → Int64} (hG : gauC w G bb bl) (hq : w[q]? = some (aL 13 f)) (hn : n ≤ 12) : EX2_greatestShare [.ref G, .ref q, .int (nI n)] w (fun r w' => ∃ b : Nat, r = some (.int (nI b)) ∧ b ≤ n ∧ (∀ j, j ≤ n → aN f j * binI n b ≤ aN f b * binI n j) ∧ w' = w) := by
  refine EP.of (plainFor_of_name (by decide)) [(0, .ref G), (1, .ref q), (2, .int (nI n))] rfl (Nat.le_of_ble_eq_true rfl) (fun r wf h => by obtain ⟨q, rfl, -⟩ := h; trivial) ?_
  show BX2_greatestShare w _ w 0 [(0, .ref G), (1, .ref q), (2, .int (nI n))] []
  obtain ⟨hg, -, ⟨⟨yf, hy, hyf⟩, hrow⟩, -⟩ := hG
  obtain ⟨y, hyn, hyi⟩ := hrow n (by omega)
  have hyf := hyf n (by omega)
  have hlo := L_lo (f n)
  have z0 : (0 : Int64).toInt = 0 := by decide
  refine g_iload_n (pc := 0) 2 dX2_greatestShare_0 rfl rfl ?_
  refine g_istore_n (pc := 1) [(3, .int (nI n)), (0, .ref G), (1, .ref q), (2, .int (nI n))] dX2_greatestShare_1 rfl (by decide) rfl ?_
  refine g_aload_n (pc := 2) 2 dX2_greatestShare_2 rfl rfl ?_
  refine g_iload_n (pc := 3) 3 dX2_greatestShare_3 rfl rfl ?_
  refine g_lald (pc := 4) n dX2_greatestShare_4 hq (IXn (by omega) (by omega)) ?_
  refine g_callS (pc := 5) [.long (f n)] dX2_greatestShare_5 cs_X2_68.1 cs_X2_68.2 rfl rfl (Nat.le_of_ble_eq_true rfl) (by decide) (by decide) (sp_absL _ (f n)) ?_
  rintro _ w9 ⟨rfl, e9⟩
  refine GP.weq _ e9 ?_
  obtain ⟨x, hx⟩ : ∃ x : Int64, -(if 0 ≤ f n then f n else -f n) = x := ⟨_, rfl⟩
  have hx2 : x.toInt = -((f n).toInt.natAbs : Int) := by
    rw [← hx]
    by_cases hc : 0 ≤ f n
    · rw [if_pos hc]
      rw [Int64.le_iff_toInt_le, z0] at hc
      rw [L_neg (by omega)]
      omega
    · rw [if_neg hc, Int64.neg_neg]
      rw [Int64.le_iff_toInt_le, z0] at hc
      omega
  refine g_lneg (pc := 8) dX2_greatestShare_8 ?_
  refine GP.tl x hx ?_
  refine g_lstore (pc := 9) [(4, .long x), (3, .int (nI n)), (0, .ref G), (1, .ref q), (2, .int (nI n))] dX2_greatestShare_9 (by decide) rfl ?_
  refine g_lconst (pc := 11) (v := 0) dX2_greatestShare_11 (by decide) ?_
  refine g_lstore (pc := 12) [(6, .long 0), (4, .long x), (3, .int (nI n)), (0, .ref G), (1, .ref q), (2, .int (nI n))] dX2_greatestShare_12 (by decide) rfl ?_
  refine g_iconst (pc := 14) (v := nI 0) dX2_greatestShare_14 (by decide) ?_
  refine g_istore (pc := 15) [(8, .int (nI 0)), (6, .long 0), (4, .long x), (3, .int (nI n)), (0, .ref G), (1, .ref q), (2, .int (nI n))] dX2_greatestShare_15 (by decide) rfl ?_
  refine GP.lsub _ (by simp) (sh_loop9 hn hg hq hy hyf hyn hyi n 0 n x 0 (by omega) (Nat.le_refl _) ?_ (fun j hj => ?_))
  · rw [binI_nn]
    exact ⟨by rw [hx2, Nat.div_one], by rw [Nat.mod_one]; decide⟩
  · rw [show j = n by omega]
    exact Nat.le_refl _
