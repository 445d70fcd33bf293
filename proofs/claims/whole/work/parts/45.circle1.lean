/-! Circle: marks -/
theorem hev4_bd {F : Nat → Int} {n : Nat} (hF : ∀ t, t ≤ n → -1000000000 ≤ F t ∧ F t ≤ 1000000000) : ∀ m, m ≤ n + 1 → -(1000000000 * (4 ^ m - 1) : Int) ≤ hev F 4 n m ∧ hev F 4 n m ≤ 1000000000 * (4 ^ m - 1)
  | 0, _ => ⟨by simp [hev], by simp [hev]⟩
  | m + 1, hm => by
    have ih := hev4_bd hF m (by omega)
    have hf := hF (n - m) (by omega)
    have hp : (0 : Int) < 4 ^ m := Int.pow_pos (by decide)
    show _ ≤ hev F 4 n m * 4 + F (n - m) ∧ hev F 4 n m * 4 + F (n - m) ≤ _
    rw [Int.pow_succ]
    generalize (4 : Int) ^ m = z at *
    omega
theorem pow4_le {m : Nat} (h : m ≤ 13) : (4 : Int) ^ m ≤ 67108864 := by
  have h1 : (4 : Nat) ^ m ≤ 4 ^ 13 := Nat.pow_le_pow_right (by decide) h
  have h2 : ((4 ^ m : Nat) : Int) = (4 : Int) ^ m := by simp
  omega
abbrev BX0_markOf (w0 : Wd) (Post : Option Value → Wd → Prop) (w : Wd) (pc : Nat) (ls : List (Nat × Value)) (st : List Value) : Prop := GP "markOf" RX0 cX0_markOf 5 (some .long) 0 0 none w0 Post w pc ls st
abbrev EX0_markOf (As : List Value) (w : Wd) (Post : Option Value → Wd → Prop) : Prop := EP yX0_markOf cX0_markOf 5 (some .long) 0 As w Post
theorem mk_loop {w0 w : Wd} {q K n : Nat} {g : Nat → Int64} (hq : w[q]? = some (aL K g)) (hK : K < 2147483648) (hn : n < K) (hn2 : n ≤ 12) (hg : ∀ t, t ≤ n → -1000000000 ≤ (g t).toInt ∧ (g t).toInt ≤ 1000000000) : ∀ (c : Nat) (s : Int64), c ≤ n + 1 → s.toInt = hev (toI g) 4 n (n + 1 - c) → BX0_markOf w0 (fun r w' => ∃ v : Int64, r = some (.long v) ∧ w' = w ∧ v.toInt = hev (toI g) 4 n (n + 1)) w 5 [(4, .int (nI c - 1)), (2, .long s), (0, .ref q), (1, .int (nI n))] [] := by
  intro c
  induction c with
  | zero =>
    intro s hc hs
    rw [nI_dec0]
    refine g_iload (pc := 5) 0 dX0_markOf_5 rfl ?_
    refine g_if_lt (pc := 7) 27 dX0_markOf_7 (by decide) (fun hz => ?_) (fun hz => ?_)
    · refine g_lload_n (pc := 27) 1 dX0_markOf_27 rfl rfl ?_
      exact g_lret (pc := 28) dX0_markOf_28 ⟨s, rfl, rfl, hs⟩
    · exact absurd (by decide) hz
  | succ c ih =>
    intro s hc hs
    rw [nI_pred]
    have hm : n - (n + 1 - (c + 1)) = c := by omega
    have e1 : n + 1 - c = n + 1 - (c + 1) + 1 := by omega
    have hst : hev (toI g) 4 n (n + 1 - c) = hev (toI g) 4 n (n + 1 - (c + 1)) * 4 + toI g c := by rw [e1]; show _ * _ + toI g (n - (n + 1 - (c + 1))) = _; rw [hm]
    have hb := hev4_bd (F := toI g) hg (n + 1 - (c + 1)) (by omega)
    have hp4 := pow4_le (m := n + 1 - (c + 1)) (by omega)
    rw [← hs] at hb hst
    have hgc := hg c (by omega)
    have k4 : (4 : Int64).toInt = 4 := by decide
    have em : (s * 4).toInt = s.toInt * 4 := by rw [L_mul (by rw [k4]; omega) (by rw [k4]; omega), k4]
    have es : (s * 4 + g c).toInt = s.toInt * 4 + (g c).toInt := by rw [L_add (by rw [em]; omega) (by rw [em]; omega), em]
    have e2 : toI g c = (g c).toInt := rfl
    refine g_iload (pc := 5) 0 dX0_markOf_5 rfl ?_
    refine n_if_lt (pc := 7) 27 dX0_markOf_7 (by decide) (by omega) ?_
    refine g_lload_n (pc := 10) 1 dX0_markOf_10 rfl rfl ?_
    refine g_ldc2 (pc := 11) kc_X0_100 dX0_markOf_11 ?_
    refine g_lmul (pc := 14) dX0_markOf_14 ?_
    refine g_aload_n (pc := 15) 2 dX0_markOf_15 rfl rfl ?_
    refine g_iload (pc := 16) 0 dX0_markOf_16 rfl ?_
    refine g_lald (pc := 18) c dX0_markOf_18 hq (IXn (by omega) (by omega)) ?_
    refine g_ladd (pc := 19) dX0_markOf_19 ?_
    refine g_lstore_n (pc := 20) [(2, .long ((s * (4)) + (g c))), (4, .int (nI c)), (0, .ref q), (1, .int (nI n))] dX0_markOf_20 rfl (by decide) rfl ?_
    refine g_iinc (pc := 21) [(4, .int (nI c - 1)), (2, .long ((s * (4)) + (g c))), (0, .ref q), (1, .int (nI n))] 1 dX0_markOf_21 rfl (dec1 _) (by decide) rfl ?_
    refine g_goto (pc := 24) 5 dX0_markOf_24 (by decide) ?_
    exact GP.lsub _ (by intro y hy; exact hy) (ih (s * 4 + g c) (by omega) (by rw [es, hst, e2]))
theorem sp_markOf (w : Wd) {q K n : Nat} {g : Nat → Int64} (hq : w[q]? = some (aL K g)) (hK : K < 2147483648) (hn : n < K) (hn2 : n ≤ 12) (hg : ∀ t, t ≤ n → -1000000000 ≤ (g t).toInt ∧ (g t).toInt ≤ 1000000000) : EX0_markOf [.ref q, .int (nI n)] w (fun r w' => ∃ v : Int64, r = some (.long v) ∧ w' = w ∧ v.toInt = hev (toI g) 4 n (n + 1)) := by
  refine EP.of (plainFor_of_name (by decide)) [(0, .ref q), (1, .int (nI n))] rfl (Nat.le_of_ble_eq_true rfl) (fun r wf h => by obtain ⟨v, rfl, -⟩ := h; trivial) ?_
  show BX0_markOf w _ w 0 [(0, .ref q), (1, .int (nI n))] []
  refine g_lconst (pc := 0) (v := 0) dX0_markOf_0 (by decide) ?_
  refine g_lstore_n (pc := 1) [(2, .long 0), (0, .ref q), (1, .int (nI n))] dX0_markOf_1 rfl (by decide) rfl ?_
  refine g_iload_n (pc := 2) 2 dX0_markOf_2 rfl rfl ?_
  refine g_istore (pc := 3) [(4, .int (nI n)), (2, .long 0), (0, .ref q), (1, .int (nI n))] dX0_markOf_3 (by decide) rfl ?_
  have h9 := mk_loop (w0 := w) hq hK hn hn2 hg (n + 1) 0 (by omega) (by rw [show n + 1 - (n + 1) = 0 by omega]; rfl)
  rw [nI_pred] at h9
  exact GP.lsub _ (by simp) h9
