/-! MahlerBox: which numbers are places, powers, levels -/
theorem nI_toNat {x : Int32} (h0 : 0 ≤ x.toInt) : x = nI x.toInt.toNat := by
  apply Int32.toInt_inj.mp
  have h1 := I_hi x
  rw [nI_toInt (by omega)]
  omega
abbrev BX11_isPlace (w0 : Wd) (Post : Option Value → Wd → Prop) (w : Wd) (pc : Nat) (ls : List (Nat × Value)) (st : List Value) : Prop := GP "isPlace" RX11 cX11_isPlace 1 (some .boolean) 0 0 none w0 Post w pc ls st
abbrev EX11_isPlace (As : List Value) (w : Wd) (Post : Option Value → Wd → Prop) : Prop := EP yX11_isPlace cX11_isPlace 1 (some .boolean) 0 As w Post
theorem sp_isPlace (w : Wd) {x : Int32} : EX11_isPlace [.int x] w (fun r w' => (r = some (.int (nI 1)) ∧ (0 ≤ x.toInt ∧ x.toInt ≤ 7) ∧ w' = w) ∨ (r = some (.int (nI 0)) ∧ ¬ ((0 ≤ x.toInt ∧ x.toInt ≤ 7)) ∧ w' = w)) := by
  refine EP.of (plainFor_of_name (by decide)) [(0, .int x)] rfl (Nat.le_of_ble_eq_true rfl) (fun r wf h => by rcases h with ⟨rfl, -⟩ | ⟨rfl, -⟩; exact Or.inr rfl; exact Or.inl rfl) ?_
  show BX11_isPlace w _ w 0 [(0, .int x)] []
  have z0 : (0 : Int32).toInt = 0 := by decide
  have zk : (nI 8).toInt = 8 := by decide
  refine g_iload_n (pc := 0) 0 dX11_isPlace_0 rfl rfl ?_
  refine g_if_lt (pc := 1) 14 dX11_isPlace_1 (by decide) (fun h1 => ?_) (fun h1 => ?_)
  · rw [Int32.lt_iff_toInt_lt, z0] at h1
    refine g_iconst (pc := 14) (v := nI 0) dX11_isPlace_14 (by decide) ?_
    exact g_iret (pc := 15) dX11_isPlace_15 (Or.inr ⟨rfl, by omega, rfl⟩)
  · rw [Int32.lt_iff_toInt_lt, z0] at h1
    refine g_iload_n (pc := 4) 0 dX11_isPlace_4 rfl rfl ?_
    refine g_bipush (pc := 5) (v := nI 8) dX11_isPlace_5 (by decide) ?_
    refine g_icmp_ge (pc := 7) 14 dX11_isPlace_7 (by decide) (fun h2 => ?_) (fun h2 => ?_)
    · rw [Int32.le_iff_toInt_le, zk] at h2
      refine g_iconst (pc := 14) (v := nI 0) dX11_isPlace_14 (by decide) ?_
      exact g_iret (pc := 15) dX11_isPlace_15 (Or.inr ⟨rfl, by omega, rfl⟩)
    · rw [Int32.le_iff_toInt_le, zk] at h2
      refine g_iconst (pc := 10) (v := nI 1) dX11_isPlace_10 (by decide) ?_
      refine g_goto (pc := 11) 15 dX11_isPlace_11 (by decide) ?_
      exact g_iret (pc := 15) dX11_isPlace_15 (Or.inl ⟨rfl, by omega, rfl⟩)
abbrev BX11_isPower (w0 : Wd) (Post : Option Value → Wd → Prop) (w : Wd) (pc : Nat) (ls : List (Nat × Value)) (st : List Value) : Prop := GP "isPower" RX11 cX11_isPower 1 (some .boolean) 0 0 none w0 Post w pc ls st
abbrev EX11_isPower (As : List Value) (w : Wd) (Post : Option Value → Wd → Prop) : Prop := EP yX11_isPower cX11_isPower 1 (some .boolean) 0 As w Post
theorem sp_isPower (w : Wd) {x : Int32} : EX11_isPower [.int x] w (fun r w' => (r = some (.int (nI 1)) ∧ (0 ≤ x.toInt ∧ x.toInt ≤ 12) ∧ w' = w) ∨ (r = some (.int (nI 0)) ∧ ¬ ((0 ≤ x.toInt ∧ x.toInt ≤ 12)) ∧ w' = w)) := by
  refine EP.of (plainFor_of_name (by decide)) [(0, .int x)] rfl (Nat.le_of_ble_eq_true rfl) (fun r wf h => by rcases h with ⟨rfl, -⟩ | ⟨rfl, -⟩; exact Or.inr rfl; exact Or.inl rfl) ?_
  show BX11_isPower w _ w 0 [(0, .int x)] []
  have z0 : (0 : Int32).toInt = 0 := by decide
  have zk : (nI 12).toInt = 12 := by decide
  refine g_iload_n (pc := 0) 0 dX11_isPower_0 rfl rfl ?_
  refine g_if_lt (pc := 1) 14 dX11_isPower_1 (by decide) (fun h1 => ?_) (fun h1 => ?_)
  · rw [Int32.lt_iff_toInt_lt, z0] at h1
    refine g_iconst (pc := 14) (v := nI 0) dX11_isPower_14 (by decide) ?_
    exact g_iret (pc := 15) dX11_isPower_15 (Or.inr ⟨rfl, by omega, rfl⟩)
  · rw [Int32.lt_iff_toInt_lt, z0] at h1
    refine g_iload_n (pc := 4) 0 dX11_isPower_4 rfl rfl ?_
    refine g_bipush (pc := 5) (v := nI 12) dX11_isPower_5 (by decide) ?_
    refine g_icmp_gt (pc := 7) 14 dX11_isPower_7 (by decide) (fun h2 => ?_) (fun h2 => ?_)
    · rw [Int32.lt_iff_toInt_lt, zk] at h2
      refine g_iconst (pc := 14) (v := nI 0) dX11_isPower_14 (by decide) ?_
      exact g_iret (pc := 15) dX11_isPower_15 (Or.inr ⟨rfl, by omega, rfl⟩)
    · rw [Int32.lt_iff_toInt_lt, zk] at h2
      refine g_iconst (pc := 10) (v := nI 1) dX11_isPower_10 (by decide) ?_
      refine g_goto (pc := 11) 15 dX11_isPower_11 (by decide) ?_
      exact g_iret (pc := 15) dX11_isPower_15 (Or.inl ⟨rfl, by omega, rfl⟩)
abbrev BX11_isLevel (w0 : Wd) (Post : Option Value → Wd → Prop) (w : Wd) (pc : Nat) (ls : List (Nat × Value)) (st : List Value) : Prop := GP "isLevel" RX11 cX11_isLevel 1 (some .boolean) 0 0 none w0 Post w pc ls st
abbrev EX11_isLevel (As : List Value) (w : Wd) (Post : Option Value → Wd → Prop) : Prop := EP yX11_isLevel cX11_isLevel 1 (some .boolean) 0 As w Post
theorem sp_isLevel (w : Wd) {x : Int32} : EX11_isLevel [.int x] w (fun r w' => (r = some (.int (nI 1)) ∧ (0 ≤ x.toInt ∧ x.toInt ≤ 6) ∧ w' = w) ∨ (r = some (.int (nI 0)) ∧ ¬ ((0 ≤ x.toInt ∧ x.toInt ≤ 6)) ∧ w' = w)) := by
  refine EP.of (plainFor_of_name (by decide)) [(0, .int x)] rfl (Nat.le_of_ble_eq_true rfl) (fun r wf h => by rcases h with ⟨rfl, -⟩ | ⟨rfl, -⟩; exact Or.inr rfl; exact Or.inl rfl) ?_
  show BX11_isLevel w _ w 0 [(0, .int x)] []
  have z0 : (0 : Int32).toInt = 0 := by decide
  have zk : (nI 6).toInt = 6 := by decide
  refine g_iload_n (pc := 0) 0 dX11_isLevel_0 rfl rfl ?_
  refine g_if_lt (pc := 1) 14 dX11_isLevel_1 (by decide) (fun h1 => ?_) (fun h1 => ?_)
  · rw [Int32.lt_iff_toInt_lt, z0] at h1
    refine g_iconst (pc := 14) (v := nI 0) dX11_isLevel_14 (by decide) ?_
    exact g_iret (pc := 15) dX11_isLevel_15 (Or.inr ⟨rfl, by omega, rfl⟩)
  · rw [Int32.lt_iff_toInt_lt, z0] at h1
    refine g_iload_n (pc := 4) 0 dX11_isLevel_4 rfl rfl ?_
    refine g_bipush (pc := 5) (v := nI 6) dX11_isLevel_5 (by decide) ?_
    refine g_icmp_gt (pc := 7) 14 dX11_isLevel_7 (by decide) (fun h2 => ?_) (fun h2 => ?_)
    · rw [Int32.lt_iff_toInt_lt, zk] at h2
      refine g_iconst (pc := 14) (v := nI 0) dX11_isLevel_14 (by decide) ?_
      exact g_iret (pc := 15) dX11_isLevel_15 (Or.inr ⟨rfl, by omega, rfl⟩)
    · rw [Int32.lt_iff_toInt_lt, zk] at h2
      refine g_iconst (pc := 10) (v := nI 1) dX11_isLevel_10 (by decide) ?_
      refine g_goto (pc := 11) 15 dX11_isLevel_11 (by decide) ?_
      exact g_iret (pc := 15) dX11_isLevel_15 (Or.inl ⟨rfl, by omega, rfl⟩)
