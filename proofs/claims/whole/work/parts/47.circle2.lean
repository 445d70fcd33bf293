/-! Circle: divisor -/
abbrev oC (D M l r q tp : Nat) (mk : Int64) : Ce := .inr (0, [.ref D, .ref M, .ref l, .ref r, .ref q, .int (nI tp), .long mk])
abbrev BX0_divisor (w0 : Wd) (Post : Option Value → Wd → Prop) (w : Wd) (pc : Nat) (ls : List (Nat × Value)) (st : List Value) : Prop := GP "divisor" RX0 cX0_divisor 2 (some (.object "MahlerBox$Poly")) 0 0 none w0 Post w pc ls st
abbrev EX0_divisor (As : List Value) (w : Wd) (Post : Option Value → Wd → Prop) : Prop := EP yX0_divisor cX0_divisor 2 (some (.object "MahlerBox$Poly")) 0 As w Post
theorem sp_divisor (w : Wd) {o D M l rr q tp i : Nat} {mk : Int64} {h : Nat → Option Nat} (ho : w[o]? = some (oC D M l rr q tp mk)) (hD : w[D]? = some (aR 4 43 h)) (hi : i ≤ 42) {v : Nat} (hv : h i = some v) : EX0_divisor [.ref o, .int (nI i)] w (fun r w' => r = some (.ref v) ∧ w' = w) := by
  refine EP.of (plainFor_of_name (by decide)) [(0, .ref o), (1, .int (nI i))] rfl (Nat.le_of_ble_eq_true rfl) (fun r wf h => by obtain ⟨rfl, -⟩ := h; trivial) ?_
  show BX0_divisor w _ w 0 [(0, .ref o), (1, .int (nI i))] []
  refine g_iload_n (pc := 0) 1 dX0_divisor_0 rfl rfl ?_
  refine n_if_lt (pc := 1) 22 dX0_divisor_1 (by decide) (by omega) ?_
  refine g_iload_n (pc := 4) 1 dX0_divisor_4 rfl rfl ?_
  refine g_aload_n (pc := 5) 0 dX0_divisor_5 rfl rfl ?_
  refine g_get (pc := 6) dX0_divisor_6 fk_X0_11 ho rfl ?_
  refine g_alen (pc := 9) dX0_divisor_9 hD (by decide) ?_
  refine n_icmp_ge (pc := 10) 22 dX0_divisor_10 (by decide) (by omega) (by omega) (fun h1 => ?_) (fun h1 => ?_)
  · exact absurd h1 (by omega)
  · refine g_aload_n (pc := 13) 0 dX0_divisor_13 rfl rfl ?_
    refine g_get (pc := 14) dX0_divisor_14 fk_X0_11 ho rfl ?_
    refine g_iload_n (pc := 17) 1 dX0_divisor_17 rfl rfl ?_
    refine g_aald (pc := 18) (v := .ref v) i dX0_divisor_18 hD (by decide) (IXn (by omega) (by omega)) (by rw [hv]; rfl) ?_
    refine g_goto (pc := 19) 23 dX0_divisor_19 (by decide) ?_
    exact g_aret (pc := 23) dX0_divisor_23 ⟨rfl, rfl⟩
theorem sp_divisorN (w : Wd) {o D M l rr q tp i : Nat} {mk : Int64} {h : Nat → Option Nat} (ho : w[o]? = some (oC D M l rr q tp mk)) (hD : w[D]? = some (aR 4 43 h)) (hi : i ≤ 42) (hv : h i = none) : EX0_divisor [.ref o, .int (nI i)] w (fun r w' => r = some .null ∧ w' = w) := by
  refine EP.of (plainFor_of_name (by decide)) [(0, .ref o), (1, .int (nI i))] rfl (Nat.le_of_ble_eq_true rfl) (fun r wf h => by obtain ⟨rfl, -⟩ := h; trivial) ?_
  show BX0_divisor w _ w 0 [(0, .ref o), (1, .int (nI i))] []
  refine g_iload_n (pc := 0) 1 dX0_divisor_0 rfl rfl ?_
  refine n_if_lt (pc := 1) 22 dX0_divisor_1 (by decide) (by omega) ?_
  refine g_iload_n (pc := 4) 1 dX0_divisor_4 rfl rfl ?_
  refine g_aload_n (pc := 5) 0 dX0_divisor_5 rfl rfl ?_
  refine g_get (pc := 6) dX0_divisor_6 fk_X0_11 ho rfl ?_
  refine g_alen (pc := 9) dX0_divisor_9 hD (by decide) ?_
  refine n_icmp_ge (pc := 10) 22 dX0_divisor_10 (by decide) (by omega) (by omega) (fun h1 => ?_) (fun h1 => ?_)
  · exact absurd h1 (by omega)
  · refine g_aload_n (pc := 13) 0 dX0_divisor_13 rfl rfl ?_
    refine g_get (pc := 14) dX0_divisor_14 fk_X0_11 ho rfl ?_
    refine g_iload_n (pc := 17) 1 dX0_divisor_17 rfl rfl ?_
    refine g_aald (pc := 18) (v := .null) i dX0_divisor_18 hD (by decide) (IXn (by omega) (by omega)) (by rw [hv]; rfl) ?_
    refine g_goto (pc := 19) 23 dX0_divisor_19 (by decide) ?_
    exact g_nret (pc := 23) dX0_divisor_23 ⟨rfl, rfl⟩
