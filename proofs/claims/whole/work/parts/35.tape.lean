/-! Tape -/
/-- a byte without its sign -/
def ub (x : Int32) : Nat := x.toUInt32.toNat % 256
theorem ub_lt (x : Int32) : ub x < 256 := Nat.mod_lt _ (by decide)
theorem and255 (x : Int32) : x &&& nI 255 = nI (ub x) := by
  have e : (x &&& nI 255).toBitVec.toNat = ub x := by
    rw [Int32.toBitVec_and, BitVec.toNat_and]
    exact Nat.and_two_pow_sub_one_eq_mod (n := 8) _
  apply Int32.toInt_inj.mp
  have h := ub_lt x
  rw [nI_toInt (by omega)]
  show (x &&& nI 255).toBitVec.toInt = _
  rw [BitVec.toInt_eq_toNat_bmod, e]
  exact bmod32 (by omega) (by omega)
abbrev oT (b ln pl : Nat) : Ce := .inr (8, [.ref b, .int (nI ln), .int (nI pl)])
abbrev sb (x : Int32) : Int32 := x.toInt8.toInt32
theorem sb_sb (x : Int32) : (sb x).toInt8.toInt32 = sb x := by
  show x.toInt8.toInt32.toInt8.toInt32 = _
  rw [Int8.toInt8_toInt32]
def bAt (f : Nat → Int32) (ln i : Nat) : Int32 := if i < ln then nI (ub (f i)) else -1
/-- the number of blanks to skip -/
def skp (f : Nat → Int32) (ln : Nat) : Nat → Nat → Nat
  | 0, p => p
  | k + 1, p => if p < ln ∧ ub (f p) = 32 then skp f ln k (p + 1) else p
def skB (f : Nat → Int32) (ln p : Nat) : Nat := skp f ln (ln - p) p
theorem skp_le {f : Nat → Int32} {ln : Nat} : ∀ k p, p ≤ ln → p ≤ skp f ln k p ∧ skp f ln k p ≤ ln
  | 0, p, h => ⟨Nat.le_refl _, h⟩
  | k + 1, p, h => by
    simp only [skp]
    split
    · have := skp_le (f := f) (ln := ln) k (p + 1) (by omega); omega
    · omega
theorem skB_le {f : Nat → Int32} {ln p : Nat} (h : p ≤ ln) : p ≤ skB f ln p ∧ skB f ln p ≤ ln := skp_le _ _ h
def digA (f : Nat → Int32) (ln p : Nat) : Prop := p < ln ∧ 48 ≤ ub (f p) ∧ ub (f p) ≤ 57
/-- a number that is taken: what it is, and where it ends -/
def tkn (f : Nat → Int32) (ln : Nat) : Nat → Nat → Nat → Nat × Nat
  | 0, p, v => (v, p)
  | k + 1, p, v => if p < ln ∧ 48 ≤ ub (f p) ∧ ub (f p) ≤ 57 then tkn f ln k (p + 1) (min (v * 10 + ub (f p) - 48) 10000) else (v, p)
theorem tkn_le {f : Nat → Int32} {ln : Nat} : ∀ k p v, p ≤ ln → v ≤ 10000 → p ≤ (tkn f ln k p v).2 ∧ (tkn f ln k p v).2 ≤ ln ∧ (tkn f ln k p v).1 ≤ 10000
  | 0, p, v, h, hv => ⟨Nat.le_refl _, h, hv⟩
  | k + 1, p, v, h, hv => by
    simp only [tkn]
    split
    · have := tkn_le (f := f) (ln := ln) k (p + 1) (min (v * 10 + ub (f p) - 48) 10000) (by omega) (by omega); omega
    · exact ⟨Nat.le_refl _, h, hv⟩
/-- a byte is written -/
def wB (s : (Nat → Int32) × Nat) (x : Int32) : (Nat → Int32) × Nat := (upd s.1 s.2 (sb x), s.2 + 1)
def ush (x : Int32) (s : Nat) : Int32 := (x.toUInt32 >>> ((nI s).toUInt32 &&& Int32.toUInt32 31)).toInt32
def wW (s : (Nat → Int32) × Nat) (x : Int32) : (Nat → Int32) × Nat := wB (wB (wB (wB s (ush x 24)) (ush x 16)) (ush x 8)) (ush x 0)
def wD (s : (Nat → Int32) × Nat) (x u : Nat) : (Nat → Int32) × Nat := if u ≤ x ∨ u = 1 then wB s (nI (48 + x / u % 10)) else s
def wN (s : (Nat → Int32) × Nat) (x : Nat) : (Nat → Int32) × Nat := wD (wD (wD (wD s x 1000) x 100) x 10) x 1
theorem wD_le {s : (Nat → Int32) × Nat} {x u : Nat} : s.2 ≤ (wD s x u).2 ∧ (wD s x u).2 ≤ s.2 + 1 := by
  unfold wD
  split
  · exact ⟨Nat.le_succ _, Nat.le_refl _⟩
  · exact ⟨Nat.le_refl _, Nat.le_succ _⟩
abbrev BX8_hasRoom (w0 : Wd) (Post : Option Value → Wd → Prop) (w : Wd) (pc : Nat) (ls : List (Nat × Value)) (st : List Value) : Prop := GP "hasRoom" RX8 cX8_hasRoom 2 (some .boolean) 0 0 none w0 Post w pc ls st
abbrev EX8_hasRoom (As : List Value) (w : Wd) (Post : Option Value → Wd → Prop) : Prop := EP yX8_hasRoom cX8_hasRoom 2 (some .boolean) 0 As w Post
theorem sp_hasRoom (w : Wd) {o b ln pl x : Nat} (ho : w[o]? = some (oT b ln pl)) (hln : ln ≤ 400) (hx : x ≤ 400) : EX8_hasRoom [.ref o, .int (nI x)] w (fun r w' => (r = some (.int (nI 1)) ∧ ln + x ≤ 400 ∧ w' = w) ∨ (r = some (.int (nI 0)) ∧ ¬ (ln + x ≤ 400) ∧ w' = w)) := by
  refine EP.of (plainFor_of_name (by decide)) [(0, .ref o), (1, .int (nI x))] rfl (Nat.le_of_ble_eq_true rfl) (fun r wf h => by rcases h with ⟨rfl, -⟩ | ⟨rfl, -⟩; exact Or.inr rfl; exact Or.inl rfl) ?_
  show BX8_hasRoom w _ w 0 [(0, .ref o), (1, .int (nI x))] []
  refine g_aload_n (pc := 0) 0 dX8_hasRoom_0 rfl rfl ?_
  refine g_get (pc := 1) dX8_hasRoom_1 fk_X8_15 ho rfl ?_
  refine g_iload_n (pc := 4) 1 dX8_hasRoom_4 rfl rfl ?_
  refine n_iadd (pc := 5) dX8_hasRoom_5 ?_
  refine g_sipush (pc := 6) (v := nI 400) dX8_hasRoom_6 (by decide) ?_
  refine n_icmp_gt (pc := 9) 16 dX8_hasRoom_9 (by decide) (by omega) (by omega) (fun h1 => ?_) (fun h1 => ?_)
  · refine g_iconst (pc := 16) (v := nI 0) dX8_hasRoom_16 (by decide) ?_
    exact g_iret (pc := 17) dX8_hasRoom_17 (Or.inr ⟨rfl, by omega, rfl⟩)
  · refine g_iconst (pc := 12) (v := nI 1) dX8_hasRoom_12 (by decide) ?_
    refine g_goto (pc := 13) 17 dX8_hasRoom_13 (by decide) ?_
    exact g_iret (pc := 17) dX8_hasRoom_17 (Or.inl ⟨rfl, by omega, rfl⟩)
abbrev BX8_byteAt (w0 : Wd) (Post : Option Value → Wd → Prop) (w : Wd) (pc : Nat) (ls : List (Nat × Value)) (st : List Value) : Prop := GP "byteAt" RX8 cX8_byteAt 2 (some .int) 0 0 none w0 Post w pc ls st
abbrev EX8_byteAt (As : List Value) (w : Wd) (Post : Option Value → Wd → Prop) : Prop := EP yX8_byteAt cX8_byteAt 2 (some .int) 0 As w Post
theorem sp_byteAt (w : Wd) {x : Nat} {o b ln pl : Nat} {f : Nat → Int32} (ho : w[o]? = some (oT b ln pl)) (hb : w[b]? = some (aI 2 400 f)) (hob : o ≠ b) (hln : ln ≤ 400) (hx : x < 2147483648) : EX8_byteAt [.ref o, .int (nI x)] w (fun r w' => r = some (.int (bAt f ln x)) ∧ w' = w) := by
  refine EP.of (plainFor_of_name (by decide)) [(0, .ref o), (1, .int (nI x))] rfl (Nat.le_of_ble_eq_true rfl) (fun r wf h => by obtain ⟨rfl, -⟩ := h; trivial) ?_
  show BX8_byteAt w _ w 0 [(0, .ref o), (1, .int (nI x))] []
  refine g_iload_n (pc := 0) 1 dX8_byteAt_0 rfl rfl ?_
  refine n_if_lt (pc := 1) 25 dX8_byteAt_1 (by decide) (by omega) ?_
  refine g_iload_n (pc := 4) 1 dX8_byteAt_4 rfl rfl ?_
  refine g_aload_n (pc := 5) 0 dX8_byteAt_5 rfl rfl ?_
  refine g_get (pc := 6) dX8_byteAt_6 fk_X8_15 ho rfl ?_
  refine n_icmp_ge (pc := 9) 25 dX8_byteAt_9 (by decide) (by omega) (by omega) (fun h1 => ?_) (fun h1 => ?_)
  · refine g_iconst (pc := 25) (v := -1) dX8_byteAt_25 (by decide) ?_
    exact g_iret (pc := 26) dX8_byteAt_26 ⟨by rw [bAt, if_neg (by omega)], rfl⟩
  · refine g_aload_n (pc := 12) 0 dX8_byteAt_12 rfl rfl ?_
    refine g_get (pc := 13) dX8_byteAt_13 fk_X8_11 ho rfl ?_
    refine g_iload_n (pc := 16) 1 dX8_byteAt_16 rfl rfl ?_
    refine g_bald (pc := 17) x dX8_byteAt_17 hb (IXn (by omega) (by omega)) ?_
    refine g_sipush (pc := 18) (v := nI 255) dX8_byteAt_18 (by decide) ?_
    refine g_iand (pc := 21) dX8_byteAt_21 ?_
    refine GP.ti (nI (ub (f x))) (and255 _) ?_
    refine g_goto (pc := 22) 26 dX8_byteAt_22 (by decide) ?_
    exact g_iret (pc := 26) dX8_byteAt_26 ⟨by rw [bAt, if_pos (by omega)], rfl⟩
theorem sp_byteAtNeg (w : Wd) {o : Nat} {x : Int32} (hx : x < 0) : EX8_byteAt [.ref o, .int x] w (fun r w' => r = some (.int (-1)) ∧ w' = w) := by
  refine EP.of (plainFor_of_name (by decide)) [(0, .ref o), (1, .int x)] rfl (Nat.le_of_ble_eq_true rfl) (fun r wf h => by obtain ⟨rfl, -⟩ := h; trivial) ?_
  show BX8_byteAt w _ w 0 [(0, .ref o), (1, .int x)] []
  refine g_iload_n (pc := 0) 1 dX8_byteAt_0 rfl rfl ?_
  refine g_if_lt (pc := 1) 25 dX8_byteAt_1 (by decide) (fun h1 => ?_) (fun h1 => ?_)
  · refine g_iconst (pc := 25) (v := -1) dX8_byteAt_25 (by decide) ?_
    exact g_iret (pc := 26) dX8_byteAt_26 ⟨rfl, rfl⟩
  · exact absurd hx h1
abbrev BX8_addByte (w0 : Wd) (Post : Option Value → Wd → Prop) (w : Wd) (pc : Nat) (ls : List (Nat × Value)) (st : List Value) : Prop := GP "addByte" RX8 cX8_addByte 2 none 0 0 none w0 Post w pc ls st
abbrev EX8_addByte (As : List Value) (w : Wd) (Post : Option Value → Wd → Prop) : Prop := EP yX8_addByte cX8_addByte 2 none 0 As w Post
theorem sp_addByte (w : Wd) {o b pl : Nat} {s : (Nat → Int32) × Nat} (ho : w[o]? = some (oT b s.2 pl)) (hb : w[b]? = some (aI 2 400 s.1)) (hob : o ≠ b) {x : Int32} (hs : s.2 < 400) : EX8_addByte [.ref o, .int x] w (fun r w' => r = none ∧ w' = (w.set b (aI 2 400 (wB s x).1)).set o (oT b (wB s x).2 pl)) := by
  refine EP.of (plainFor_of_name (by decide)) [(0, .ref o), (1, .int x)] rfl (Nat.le_of_ble_eq_true rfl) (fun r wf h => by obtain ⟨rfl, -⟩ := h; trivial) ?_
  show BX8_addByte w _ w 0 [(0, .ref o), (1, .int x)] []
  refine g_aload_n (pc := 0) 0 dX8_addByte_0 rfl rfl ?_
  refine g_get (pc := 1) dX8_addByte_1 fk_X8_15 ho rfl ?_
  refine g_sipush (pc := 4) (v := nI 400) dX8_addByte_4 (by decide) ?_
  refine n_icmp_ge (pc := 7) 31 dX8_addByte_7 (by decide) (by omega) (by omega) (fun h1 => ?_) (fun h1 => ?_)
  · exact absurd h1 (by omega)
  · refine g_aload_n (pc := 10) 0 dX8_addByte_10 rfl rfl ?_
    refine g_get (pc := 11) dX8_addByte_11 fk_X8_11 ho rfl ?_
    refine g_aload_n (pc := 14) 0 dX8_addByte_14 rfl rfl ?_
    refine g_get (pc := 15) dX8_addByte_15 fk_X8_15 ho rfl ?_
    refine g_iload_n (pc := 18) 1 dX8_addByte_18 rfl rfl ?_
    refine g_i2b (pc := 19) dX8_addByte_19 ?_
    refine g_bast (pc := 20) s.2 dX8_addByte_20 hb (IXn (by omega) (by omega)) ?_
    refine g_aload_n (pc := 21) 0 dX8_addByte_21 rfl rfl ?_
    refine g_dup (pc := 22) dX8_addByte_22 rfl ?_
    refine g_get (pc := 23) dX8_addByte_23 fk_X8_15 (lk_ne (Ne.symm hob) ho) rfl ?_
    refine g_iconst (pc := 26) (v := nI 1) dX8_addByte_26 (by decide) ?_
    refine n_iadd (pc := 27) dX8_addByte_27 ?_
    refine g_put (pc := 28) [.ref b, .int (nI (s.2 + 1)), .int (nI pl)] dX8_addByte_28 fk_X8_15 (lk_ne (Ne.symm hob) ho) (Nat.le_of_ble_eq_true rfl) rfl rfl ?_
    exact g_vret (pc := 31) dX8_addByte_31 ⟨rfl, by rw [sb_sb]; rfl⟩
theorem wd_again {w : Wd} {o b pl : Nat} {s t : (Nat → Int32) × Nat} (hob : o ≠ b) : ((((w.set b (aI 2 400 s.1)).set o (oT b s.2 pl)).set b (aI 2 400 t.1)).set o (oT b t.2 pl)) = (w.set b (aI 2 400 t.1)).set o (oT b t.2 pl) := by
  rw [List.set_comm _ _ hob, List.set_set, List.set_set]
theorem wd_self {w : Wd} {o b pl : Nat} {s : (Nat → Int32) × Nat} (ho : w[o]? = some (oT b s.2 pl)) (hb : w[b]? = some (aI 2 400 s.1)) : w = (w.set b (aI 2 400 s.1)).set o (oT b s.2 pl) := by
  rw [set_same hb, set_same ho]
abbrev BX8_addWord (w0 : Wd) (Post : Option Value → Wd → Prop) (w : Wd) (pc : Nat) (ls : List (Nat × Value)) (st : List Value) : Prop := GP "addWord" RX8 cX8_addWord 3 none 1 39 none w0 Post w pc ls st
abbrev EX8_addWord (As : List Value) (w : Wd) (Post : Option Value → Wd → Prop) : Prop := EP yX8_addWord cX8_addWord 3 none 1 As w Post
theorem sp_addWord (w : Wd) {o b pl : Nat} {s : (Nat → Int32) × Nat} (ho : w[o]? = some (oT b s.2 pl)) (hb : w[b]? = some (aI 2 400 s.1)) (hob : o ≠ b) {x : Int32} (hs : s.2 + 4 ≤ 400) : EX8_addWord [.ref o, .int x] w (fun r w' => r = none ∧ w' = (w.set b (aI 2 400 (wW s x).1)).set o (oT b (wW s x).2 pl)) := by
  refine EP.of (plainFor_of_name (by decide)) [(0, .ref o), (1, .int x)] rfl (Nat.le_of_ble_eq_true rfl) (fun r wf h => by obtain ⟨rfl, -⟩ := h; trivial) ?_
  show BX8_addWord w _ w 0 [(0, .ref o), (1, .int x)] []
  refine GP.weq _ (wd_self ho hb) ?_
  refine g_bipush (pc := 0) (v := nI 24) dX8_addWord_0 (by decide) ?_
  refine g_istore_n (pc := 2) [(2, .int (nI 24)), (0, .ref o), (1, .int x)] dX8_addWord_2 rfl (by decide) rfl ?_
  refine g_iload_n (pc := 3) 0 dX8_addWord_3 rfl rfl ?_
  refine n_if_lt (pc := 4) 20 dX8_addWord_4 (by decide) (by omega) ?_
  refine g_aload_n (pc := 7) 1 dX8_addWord_7 rfl rfl ?_
  refine g_iload_n (pc := 8) 2 dX8_addWord_8 rfl rfl ?_
  refine g_iload_n (pc := 9) 0 dX8_addWord_9 rfl rfl ?_
  refine g_iushr (pc := 10) dX8_addWord_10 ?_
  refine GP.ti (ush x 24) rfl ?_
  refine g_callV (pc := 11) [.int (ush x 24)] dX8_addWord_11 cv_X8_22.1 cv_X8_22.2.1 cv_X8_22.2.2.1 cv_X8_22.2.2.2 (lk_eq (lk_ne (Ne.symm hob) ho)) rfl rfl (Nat.le_of_ble_eq_true rfl) (by decide) (by decide) (sp_addByte _ (s := s) (lk_eq (lk_ne (Ne.symm hob) ho)) (lk_ne hob (lk_eq hb)) hob (by show s.2 < 400; omega)) ?_
  rintro _ w9 ⟨rfl, e9⟩
  refine GP.weq _ (e9.trans (wd_again hob)) ?_
  refine n_idec (pc := 14) (c := 8) [(2, .int (nI (24 - 8))), (0, .ref o), (1, .int x)] 0 dX8_addWord_14 rfl (by decide) (by omega) (by decide) rfl ?_
  refine GP.lsub [(2, .int (nI 16)), (0, .ref o), (1, .int x)] (by simp) ?_
  refine g_goto (pc := 17) 3 dX8_addWord_17 (by decide) ?_
  refine g_iload_n (pc := 3) 0 dX8_addWord_3 rfl rfl ?_
  refine n_if_lt (pc := 4) 20 dX8_addWord_4 (by decide) (by omega) ?_
  refine g_aload_n (pc := 7) 1 dX8_addWord_7 rfl rfl ?_
  refine g_iload_n (pc := 8) 2 dX8_addWord_8 rfl rfl ?_
  refine g_iload_n (pc := 9) 0 dX8_addWord_9 rfl rfl ?_
  refine g_iushr (pc := 10) dX8_addWord_10 ?_
  refine GP.ti (ush x 16) rfl ?_
  refine g_callV (pc := 11) [.int (ush x 16)] dX8_addWord_11 cv_X8_22.1 cv_X8_22.2.1 cv_X8_22.2.2.1 cv_X8_22.2.2.2 (lk_eq (lk_ne (Ne.symm hob) ho)) rfl rfl (Nat.le_of_ble_eq_true rfl) (by decide) (by decide) (sp_addByte _ (s := wB (s) (ush x 24)) (lk_eq (lk_ne (Ne.symm hob) ho)) (lk_ne hob (lk_eq hb)) hob (by show s.2 + 1 < 400; omega)) ?_
  rintro _ w9 ⟨rfl, e9⟩
  refine GP.weq _ (e9.trans (wd_again hob)) ?_
  refine n_idec (pc := 14) (c := 8) [(2, .int (nI (16 - 8))), (0, .ref o), (1, .int x)] 0 dX8_addWord_14 rfl (by decide) (by omega) (by decide) rfl ?_
  refine GP.lsub [(2, .int (nI 8)), (0, .ref o), (1, .int x)] (by simp) ?_
  refine g_goto (pc := 17) 3 dX8_addWord_17 (by decide) ?_
  refine g_iload_n (pc := 3) 0 dX8_addWord_3 rfl rfl ?_
  refine n_if_lt (pc := 4) 20 dX8_addWord_4 (by decide) (by omega) ?_
  refine g_aload_n (pc := 7) 1 dX8_addWord_7 rfl rfl ?_
  refine g_iload_n (pc := 8) 2 dX8_addWord_8 rfl rfl ?_
  refine g_iload_n (pc := 9) 0 dX8_addWord_9 rfl rfl ?_
  refine g_iushr (pc := 10) dX8_addWord_10 ?_
  refine GP.ti (ush x 8) rfl ?_
  refine g_callV (pc := 11) [.int (ush x 8)] dX8_addWord_11 cv_X8_22.1 cv_X8_22.2.1 cv_X8_22.2.2.1 cv_X8_22.2.2.2 (lk_eq (lk_ne (Ne.symm hob) ho)) rfl rfl (Nat.le_of_ble_eq_true rfl) (by decide) (by decide) (sp_addByte _ (s := wB (wB (s) (ush x 24)) (ush x 16)) (lk_eq (lk_ne (Ne.symm hob) ho)) (lk_ne hob (lk_eq hb)) hob (by show s.2 + 1 + 1 < 400; omega)) ?_
  rintro _ w9 ⟨rfl, e9⟩
  refine GP.weq _ (e9.trans (wd_again hob)) ?_
  refine n_idec (pc := 14) (c := 8) [(2, .int (nI (8 - 8))), (0, .ref o), (1, .int x)] 0 dX8_addWord_14 rfl (by decide) (by omega) (by decide) rfl ?_
  refine GP.lsub [(2, .int (nI 0)), (0, .ref o), (1, .int x)] (by simp) ?_
  refine g_goto (pc := 17) 3 dX8_addWord_17 (by decide) ?_
  refine g_iload_n (pc := 3) 0 dX8_addWord_3 rfl rfl ?_
  refine n_if_lt (pc := 4) 20 dX8_addWord_4 (by decide) (by omega) ?_
  refine g_aload_n (pc := 7) 1 dX8_addWord_7 rfl rfl ?_
  refine g_iload_n (pc := 8) 2 dX8_addWord_8 rfl rfl ?_
  refine g_iload_n (pc := 9) 0 dX8_addWord_9 rfl rfl ?_
  refine g_iushr (pc := 10) dX8_addWord_10 ?_
  refine GP.ti (ush x 0) rfl ?_
  refine g_callV (pc := 11) [.int (ush x 0)] dX8_addWord_11 cv_X8_22.1 cv_X8_22.2.1 cv_X8_22.2.2.1 cv_X8_22.2.2.2 (lk_eq (lk_ne (Ne.symm hob) ho)) rfl rfl (Nat.le_of_ble_eq_true rfl) (by decide) (by decide) (sp_addByte _ (s := wB (wB (wB (s) (ush x 24)) (ush x 16)) (ush x 8)) (lk_eq (lk_ne (Ne.symm hob) ho)) (lk_ne hob (lk_eq hb)) hob (by show s.2 + 1 + 1 + 1 < 400; omega)) ?_
  rintro _ w9 ⟨rfl, e9⟩
  refine GP.weq _ (e9.trans (wd_again hob)) ?_
  refine g_iinc (pc := 14) [(2, .int ((nI 0) + Int32.ofInt (-8))), (0, .ref o), (1, .int x)] 0 dX8_addWord_14 rfl rfl (by decide) rfl ?_
  refine g_goto (pc := 17) 3 dX8_addWord_17 (by decide) ?_
  refine g_iload_n (pc := 3) 0 dX8_addWord_3 rfl rfl ?_
  refine g_if_lt (pc := 4) 20 dX8_addWord_4 (by decide) (fun h9 => ?_) (fun h9 => ?_)
  · exact g_vret (pc := 20) dX8_addWord_20 ⟨rfl, rfl⟩
  · exact absurd (by decide) h9
abbrev BX8_addNumber (w0 : Wd) (Post : Option Value → Wd → Prop) (w : Wd) (pc : Nat) (ls : List (Nat × Value)) (st : List Value) : Prop := GP "addNumber" RX8 cX8_addNumber 3 none 1 39 none w0 Post w pc ls st
abbrev EX8_addNumber (As : List Value) (w : Wd) (Post : Option Value → Wd → Prop) : Prop := EP yX8_addNumber cX8_addNumber 3 none 1 As w Post
theorem an_1000 {w0 w : Wd} {Post : Option Value → Wd → Prop} {s0 : (Nat → Int32) × Nat} {o b pl x : Nat} (ho : w[o]? = some (oT b s0.2 pl)) (hb : w[b]? = some (aI 2 400 s0.1)) (hob : o ≠ b) (hx : x ≤ 9999) {s : (Nat → Int32) × Nat} (hs : s.2 < 400) (hk : BX8_addNumber w0 Post ((w.set b (aI 2 400 (wD s x 1000).1)).set o (oT b (wD s x 1000).2 pl)) 4 [(2, .int (nI 100)), (0, .ref o), (1, .int (nI x))] []) : BX8_addNumber w0 Post ((w.set b (aI 2 400 (s).1)).set o (oT b (s).2 pl)) 4 [(2, .int (nI 1000)), (0, .ref o), (1, .int (nI x))] [] := by
  refine g_iload_n (pc := 4) 0 dX8_addNumber_4 rfl rfl ?_
  refine n_if_le (pc := 5) 39 dX8_addNumber_5 (by decide) (by omega) (fun h0 => ?_) (fun h0 => ?_)
  · exact absurd h0 (by decide)
  · refine g_iload_n (pc := 8) 2 dX8_addNumber_8 rfl rfl ?_
    refine g_iload_n (pc := 9) 0 dX8_addNumber_9 rfl rfl ?_
    refine n_icmp_ge (pc := 10) 18 dX8_addNumber_10 (by decide) (by omega) (by omega) (fun h1 => ?_) (fun h1 => ?_)
    · rw [show wD s x 1000 = wB s (nI (48 + x / 1000 % 10)) from if_pos (Or.inl (by omega))] at hk
      refine g_aload_n (pc := 18) 1 dX8_addNumber_18 rfl rfl ?_
      refine g_bipush (pc := 19) (v := nI 48) dX8_addNumber_19 (by decide) ?_
      refine g_iload_n (pc := 21) 2 dX8_addNumber_21 rfl rfl ?_
      refine g_iload_n (pc := 22) 0 dX8_addNumber_22 rfl rfl ?_
      refine n_idiv (pc := 23) dX8_addNumber_23 (by omega) (by omega) (by omega) ?_
      refine g_bipush (pc := 24) (v := nI 10) dX8_addNumber_24 (by decide) ?_
      refine n_irem (pc := 26) dX8_addNumber_26 (by omega) (by omega) (by omega) ?_
      refine n_iadd (pc := 27) dX8_addNumber_27 ?_
      refine g_callV (pc := 28) [.int (nI (48 + ((x / 1000) % 10)))] dX8_addNumber_28 cv_X8_22.1 cv_X8_22.2.1 cv_X8_22.2.2.1 cv_X8_22.2.2.2 (lk_eq (lk_ne (Ne.symm hob) ho)) rfl rfl (Nat.le_of_ble_eq_true rfl) (by decide) (by decide) (sp_addByte _ (s := s) (lk_eq (lk_ne (Ne.symm hob) ho)) (lk_ne hob (lk_eq hb)) hob hs) ?_
      rintro _ w9 ⟨rfl, e9⟩
      refine GP.weq _ (e9.trans (wd_again hob)) ?_
      refine g_iload_n (pc := 31) 0 dX8_addNumber_31 rfl rfl ?_
      refine g_bipush (pc := 32) (v := nI 10) dX8_addNumber_32 (by decide) ?_
      refine n_idiv (pc := 34) dX8_addNumber_34 (by omega) (by omega) (by omega) ?_
      refine GP.ti (nI 100) (by decide) ?_
      refine g_istore_n (pc := 35) [(2, .int (nI 100)), (0, .ref o), (1, .int (nI x))] dX8_addNumber_35 rfl (by decide) rfl ?_
      refine g_goto (pc := 36) 4 dX8_addNumber_36 (by decide) ?_
      exact GP.lsub _ (by simp) hk
    · refine g_iload_n (pc := 13) 0 dX8_addNumber_13 rfl rfl ?_
      refine g_iconst (pc := 14) (v := nI 1) dX8_addNumber_14 (by decide) ?_
      refine n_icmp_ne (pc := 15) 31 dX8_addNumber_15 (by decide) (by omega) (by omega) (fun h2 => ?_) (fun h2 => ?_)
      · rw [show wD s x 1000 = s from if_neg (by omega)] at hk
        refine g_iload_n (pc := 31) 0 dX8_addNumber_31 rfl rfl ?_
        refine g_bipush (pc := 32) (v := nI 10) dX8_addNumber_32 (by decide) ?_
        refine n_idiv (pc := 34) dX8_addNumber_34 (by omega) (by omega) (by omega) ?_
        refine GP.ti (nI 100) (by decide) ?_
        refine g_istore_n (pc := 35) [(2, .int (nI 100)), (0, .ref o), (1, .int (nI x))] dX8_addNumber_35 rfl (by decide) rfl ?_
        refine g_goto (pc := 36) 4 dX8_addNumber_36 (by decide) ?_
        exact GP.lsub _ (by simp) hk
      · exact absurd h2 (by decide)
theorem an_100 {w0 w : Wd} {Post : Option Value → Wd → Prop} {s0 : (Nat → Int32) × Nat} {o b pl x : Nat} (ho : w[o]? = some (oT b s0.2 pl)) (hb : w[b]? = some (aI 2 400 s0.1)) (hob : o ≠ b) (hx : x ≤ 9999) {s : (Nat → Int32) × Nat} (hs : s.2 < 400) (hk : BX8_addNumber w0 Post ((w.set b (aI 2 400 (wD s x 100).1)).set o (oT b (wD s x 100).2 pl)) 4 [(2, .int (nI 10)), (0, .ref o), (1, .int (nI x))] []) : BX8_addNumber w0 Post ((w.set b (aI 2 400 (s).1)).set o (oT b (s).2 pl)) 4 [(2, .int (nI 100)), (0, .ref o), (1, .int (nI x))] [] := by
  refine g_iload_n (pc := 4) 0 dX8_addNumber_4 rfl rfl ?_
  refine n_if_le (pc := 5) 39 dX8_addNumber_5 (by decide) (by omega) (fun h0 => ?_) (fun h0 => ?_)
  · exact absurd h0 (by decide)
  · refine g_iload_n (pc := 8) 2 dX8_addNumber_8 rfl rfl ?_
    refine g_iload_n (pc := 9) 0 dX8_addNumber_9 rfl rfl ?_
    refine n_icmp_ge (pc := 10) 18 dX8_addNumber_10 (by decide) (by omega) (by omega) (fun h1 => ?_) (fun h1 => ?_)
    · rw [show wD s x 100 = wB s (nI (48 + x / 100 % 10)) from if_pos (Or.inl (by omega))] at hk
      refine g_aload_n (pc := 18) 1 dX8_addNumber_18 rfl rfl ?_
      refine g_bipush (pc := 19) (v := nI 48) dX8_addNumber_19 (by decide) ?_
      refine g_iload_n (pc := 21) 2 dX8_addNumber_21 rfl rfl ?_
      refine g_iload_n (pc := 22) 0 dX8_addNumber_22 rfl rfl ?_
      refine n_idiv (pc := 23) dX8_addNumber_23 (by omega) (by omega) (by omega) ?_
      refine g_bipush (pc := 24) (v := nI 10) dX8_addNumber_24 (by decide) ?_
      refine n_irem (pc := 26) dX8_addNumber_26 (by omega) (by omega) (by omega) ?_
      refine n_iadd (pc := 27) dX8_addNumber_27 ?_
      refine g_callV (pc := 28) [.int (nI (48 + ((x / 100) % 10)))] dX8_addNumber_28 cv_X8_22.1 cv_X8_22.2.1 cv_X8_22.2.2.1 cv_X8_22.2.2.2 (lk_eq (lk_ne (Ne.symm hob) ho)) rfl rfl (Nat.le_of_ble_eq_true rfl) (by decide) (by decide) (sp_addByte _ (s := s) (lk_eq (lk_ne (Ne.symm hob) ho)) (lk_ne hob (lk_eq hb)) hob hs) ?_
      rintro _ w9 ⟨rfl, e9⟩
      refine GP.weq _ (e9.trans (wd_again hob)) ?_
      refine g_iload_n (pc := 31) 0 dX8_addNumber_31 rfl rfl ?_
      refine g_bipush (pc := 32) (v := nI 10) dX8_addNumber_32 (by decide) ?_
      refine n_idiv (pc := 34) dX8_addNumber_34 (by omega) (by omega) (by omega) ?_
      refine GP.ti (nI 10) (by decide) ?_
      refine g_istore_n (pc := 35) [(2, .int (nI 10)), (0, .ref o), (1, .int (nI x))] dX8_addNumber_35 rfl (by decide) rfl ?_
      refine g_goto (pc := 36) 4 dX8_addNumber_36 (by decide) ?_
      exact GP.lsub _ (by simp) hk
    · refine g_iload_n (pc := 13) 0 dX8_addNumber_13 rfl rfl ?_
      refine g_iconst (pc := 14) (v := nI 1) dX8_addNumber_14 (by decide) ?_
      refine n_icmp_ne (pc := 15) 31 dX8_addNumber_15 (by decide) (by omega) (by omega) (fun h2 => ?_) (fun h2 => ?_)
      · rw [show wD s x 100 = s from if_neg (by omega)] at hk
        refine g_iload_n (pc := 31) 0 dX8_addNumber_31 rfl rfl ?_
        refine g_bipush (pc := 32) (v := nI 10) dX8_addNumber_32 (by decide) ?_
        refine n_idiv (pc := 34) dX8_addNumber_34 (by omega) (by omega) (by omega) ?_
        refine GP.ti (nI 10) (by decide) ?_
        refine g_istore_n (pc := 35) [(2, .int (nI 10)), (0, .ref o), (1, .int (nI x))] dX8_addNumber_35 rfl (by decide) rfl ?_
        refine g_goto (pc := 36) 4 dX8_addNumber_36 (by decide) ?_
        exact GP.lsub _ (by simp) hk
      · exact absurd h2 (by decide)
theorem an_10 {w0 w : Wd} {Post : Option Value → Wd → Prop} {s0 : (Nat → Int32) × Nat} {o b pl x : Nat} (ho : w[o]? = some (oT b s0.2 pl)) (hb : w[b]? = some (aI 2 400 s0.1)) (hob : o ≠ b) (hx : x ≤ 9999) {s : (Nat → Int32) × Nat} (hs : s.2 < 400) (hk : BX8_addNumber w0 Post ((w.set b (aI 2 400 (wD s x 10).1)).set o (oT b (wD s x 10).2 pl)) 4 [(2, .int (nI 1)), (0, .ref o), (1, .int (nI x))] []) : BX8_addNumber w0 Post ((w.set b (aI 2 400 (s).1)).set o (oT b (s).2 pl)) 4 [(2, .int (nI 10)), (0, .ref o), (1, .int (nI x))] [] := by
  refine g_iload_n (pc := 4) 0 dX8_addNumber_4 rfl rfl ?_
  refine n_if_le (pc := 5) 39 dX8_addNumber_5 (by decide) (by omega) (fun h0 => ?_) (fun h0 => ?_)
  · exact absurd h0 (by decide)
  · refine g_iload_n (pc := 8) 2 dX8_addNumber_8 rfl rfl ?_
    refine g_iload_n (pc := 9) 0 dX8_addNumber_9 rfl rfl ?_
    refine n_icmp_ge (pc := 10) 18 dX8_addNumber_10 (by decide) (by omega) (by omega) (fun h1 => ?_) (fun h1 => ?_)
    · rw [show wD s x 10 = wB s (nI (48 + x / 10 % 10)) from if_pos (Or.inl (by omega))] at hk
      refine g_aload_n (pc := 18) 1 dX8_addNumber_18 rfl rfl ?_
      refine g_bipush (pc := 19) (v := nI 48) dX8_addNumber_19 (by decide) ?_
      refine g_iload_n (pc := 21) 2 dX8_addNumber_21 rfl rfl ?_
      refine g_iload_n (pc := 22) 0 dX8_addNumber_22 rfl rfl ?_
      refine n_idiv (pc := 23) dX8_addNumber_23 (by omega) (by omega) (by omega) ?_
      refine g_bipush (pc := 24) (v := nI 10) dX8_addNumber_24 (by decide) ?_
      refine n_irem (pc := 26) dX8_addNumber_26 (by omega) (by omega) (by omega) ?_
      refine n_iadd (pc := 27) dX8_addNumber_27 ?_
      refine g_callV (pc := 28) [.int (nI (48 + ((x / 10) % 10)))] dX8_addNumber_28 cv_X8_22.1 cv_X8_22.2.1 cv_X8_22.2.2.1 cv_X8_22.2.2.2 (lk_eq (lk_ne (Ne.symm hob) ho)) rfl rfl (Nat.le_of_ble_eq_true rfl) (by decide) (by decide) (sp_addByte _ (s := s) (lk_eq (lk_ne (Ne.symm hob) ho)) (lk_ne hob (lk_eq hb)) hob hs) ?_
      rintro _ w9 ⟨rfl, e9⟩
      refine GP.weq _ (e9.trans (wd_again hob)) ?_
      refine g_iload_n (pc := 31) 0 dX8_addNumber_31 rfl rfl ?_
      refine g_bipush (pc := 32) (v := nI 10) dX8_addNumber_32 (by decide) ?_
      refine n_idiv (pc := 34) dX8_addNumber_34 (by omega) (by omega) (by omega) ?_
      refine GP.ti (nI 1) (by decide) ?_
      refine g_istore_n (pc := 35) [(2, .int (nI 1)), (0, .ref o), (1, .int (nI x))] dX8_addNumber_35 rfl (by decide) rfl ?_
      refine g_goto (pc := 36) 4 dX8_addNumber_36 (by decide) ?_
      exact GP.lsub _ (by simp) hk
    · refine g_iload_n (pc := 13) 0 dX8_addNumber_13 rfl rfl ?_
      refine g_iconst (pc := 14) (v := nI 1) dX8_addNumber_14 (by decide) ?_
      refine n_icmp_ne (pc := 15) 31 dX8_addNumber_15 (by decide) (by omega) (by omega) (fun h2 => ?_) (fun h2 => ?_)
      · rw [show wD s x 10 = s from if_neg (by omega)] at hk
        refine g_iload_n (pc := 31) 0 dX8_addNumber_31 rfl rfl ?_
        refine g_bipush (pc := 32) (v := nI 10) dX8_addNumber_32 (by decide) ?_
        refine n_idiv (pc := 34) dX8_addNumber_34 (by omega) (by omega) (by omega) ?_
        refine GP.ti (nI 1) (by decide) ?_
        refine g_istore_n (pc := 35) [(2, .int (nI 1)), (0, .ref o), (1, .int (nI x))] dX8_addNumber_35 rfl (by decide) rfl ?_
        refine g_goto (pc := 36) 4 dX8_addNumber_36 (by decide) ?_
        exact GP.lsub _ (by simp) hk
      · exact absurd h2 (by decide)
theorem an_1 {w0 w : Wd} {Post : Option Value → Wd → Prop} {s0 : (Nat → Int32) × Nat} {o b pl x : Nat} (ho : w[o]? = some (oT b s0.2 pl)) (hb : w[b]? = some (aI 2 400 s0.1)) (hob : o ≠ b) (hx : x ≤ 9999) {s : (Nat → Int32) × Nat} (hs : s.2 < 400) (hk : BX8_addNumber w0 Post ((w.set b (aI 2 400 (wD s x 1).1)).set o (oT b (wD s x 1).2 pl)) 4 [(2, .int (nI 0)), (0, .ref o), (1, .int (nI x))] []) : BX8_addNumber w0 Post ((w.set b (aI 2 400 (s).1)).set o (oT b (s).2 pl)) 4 [(2, .int (nI 1)), (0, .ref o), (1, .int (nI x))] [] := by
  refine g_iload_n (pc := 4) 0 dX8_addNumber_4 rfl rfl ?_
  refine n_if_le (pc := 5) 39 dX8_addNumber_5 (by decide) (by omega) (fun h0 => ?_) (fun h0 => ?_)
  · exact absurd h0 (by decide)
  · refine g_iload_n (pc := 8) 2 dX8_addNumber_8 rfl rfl ?_
    refine g_iload_n (pc := 9) 0 dX8_addNumber_9 rfl rfl ?_
    refine n_icmp_ge (pc := 10) 18 dX8_addNumber_10 (by decide) (by omega) (by omega) (fun h1 => ?_) (fun h1 => ?_)
    · rw [show wD s x 1 = wB s (nI (48 + x / 1 % 10)) from if_pos (Or.inl (by omega))] at hk
      refine g_aload_n (pc := 18) 1 dX8_addNumber_18 rfl rfl ?_
      refine g_bipush (pc := 19) (v := nI 48) dX8_addNumber_19 (by decide) ?_
      refine g_iload_n (pc := 21) 2 dX8_addNumber_21 rfl rfl ?_
      refine g_iload_n (pc := 22) 0 dX8_addNumber_22 rfl rfl ?_
      refine n_idiv (pc := 23) dX8_addNumber_23 (by omega) (by omega) (by omega) ?_
      refine g_bipush (pc := 24) (v := nI 10) dX8_addNumber_24 (by decide) ?_
      refine n_irem (pc := 26) dX8_addNumber_26 (by omega) (by omega) (by omega) ?_
      refine n_iadd (pc := 27) dX8_addNumber_27 ?_
      refine g_callV (pc := 28) [.int (nI (48 + ((x / 1) % 10)))] dX8_addNumber_28 cv_X8_22.1 cv_X8_22.2.1 cv_X8_22.2.2.1 cv_X8_22.2.2.2 (lk_eq (lk_ne (Ne.symm hob) ho)) rfl rfl (Nat.le_of_ble_eq_true rfl) (by decide) (by decide) (sp_addByte _ (s := s) (lk_eq (lk_ne (Ne.symm hob) ho)) (lk_ne hob (lk_eq hb)) hob hs) ?_
      rintro _ w9 ⟨rfl, e9⟩
      refine GP.weq _ (e9.trans (wd_again hob)) ?_
      refine g_iload_n (pc := 31) 0 dX8_addNumber_31 rfl rfl ?_
      refine g_bipush (pc := 32) (v := nI 10) dX8_addNumber_32 (by decide) ?_
      refine n_idiv (pc := 34) dX8_addNumber_34 (by omega) (by omega) (by omega) ?_
      refine GP.ti (nI 0) (by decide) ?_
      refine g_istore_n (pc := 35) [(2, .int (nI 0)), (0, .ref o), (1, .int (nI x))] dX8_addNumber_35 rfl (by decide) rfl ?_
      refine g_goto (pc := 36) 4 dX8_addNumber_36 (by decide) ?_
      exact GP.lsub _ (by simp) hk
    · refine g_iload_n (pc := 13) 0 dX8_addNumber_13 rfl rfl ?_
      refine g_iconst (pc := 14) (v := nI 1) dX8_addNumber_14 (by decide) ?_
      refine n_icmp_ne (pc := 15) 31 dX8_addNumber_15 (by decide) (by omega) (by omega) (fun h2 => ?_) (fun h2 => ?_)
      · exact absurd rfl h2
      · rw [show wD s x 1 = wB s (nI (48 + x / 1 % 10)) from if_pos (Or.inr rfl)] at hk
        refine g_aload_n (pc := 18) 1 dX8_addNumber_18 rfl rfl ?_
        refine g_bipush (pc := 19) (v := nI 48) dX8_addNumber_19 (by decide) ?_
        refine g_iload_n (pc := 21) 2 dX8_addNumber_21 rfl rfl ?_
        refine g_iload_n (pc := 22) 0 dX8_addNumber_22 rfl rfl ?_
        refine n_idiv (pc := 23) dX8_addNumber_23 (by omega) (by omega) (by omega) ?_
        refine g_bipush (pc := 24) (v := nI 10) dX8_addNumber_24 (by decide) ?_
        refine n_irem (pc := 26) dX8_addNumber_26 (by omega) (by omega) (by omega) ?_
        refine n_iadd (pc := 27) dX8_addNumber_27 ?_
        refine g_callV (pc := 28) [.int (nI (48 + ((x / 1) % 10)))] dX8_addNumber_28 cv_X8_22.1 cv_X8_22.2.1 cv_X8_22.2.2.1 cv_X8_22.2.2.2 (lk_eq (lk_ne (Ne.symm hob) ho)) rfl rfl (Nat.le_of_ble_eq_true rfl) (by decide) (by decide) (sp_addByte _ (s := s) (lk_eq (lk_ne (Ne.symm hob) ho)) (lk_ne hob (lk_eq hb)) hob hs) ?_
        rintro _ w9 ⟨rfl, e9⟩
        refine GP.weq _ (e9.trans (wd_again hob)) ?_
        refine g_iload_n (pc := 31) 0 dX8_addNumber_31 rfl rfl ?_
        refine g_bipush (pc := 32) (v := nI 10) dX8_addNumber_32 (by decide) ?_
        refine n_idiv (pc := 34) dX8_addNumber_34 (by omega) (by omega) (by omega) ?_
        refine GP.ti (nI 0) (by decide) ?_
        refine g_istore_n (pc := 35) [(2, .int (nI 0)), (0, .ref o), (1, .int (nI x))] dX8_addNumber_35 rfl (by decide) rfl ?_
        refine g_goto (pc := 36) 4 dX8_addNumber_36 (by decide) ?_
        exact GP.lsub _ (by simp) hk
theorem sp_addNumber (w : Wd) {o b pl : Nat} {s : (Nat → Int32) × Nat} (ho : w[o]? = some (oT b s.2 pl)) (hb : w[b]? = some (aI 2 400 s.1)) (hob : o ≠ b) {x : Nat} (hx : x ≤ 9999) (hs : s.2 + 4 ≤ 400) : EX8_addNumber [.ref o, .int (nI x)] w (fun r w' => r = none ∧ w' = (w.set b (aI 2 400 (wN s x).1)).set o (oT b (wN s x).2 pl)) := by
  refine EP.of (plainFor_of_name (by decide)) [(0, .ref o), (1, .int (nI x))] rfl (Nat.le_of_ble_eq_true rfl) (fun r wf h => by obtain ⟨rfl, -⟩ := h; trivial) ?_
  show BX8_addNumber w _ w 0 [(0, .ref o), (1, .int (nI x))] []
  refine GP.weq _ (wd_self ho hb) ?_
  refine g_sipush (pc := 0) (v := nI 1000) dX8_addNumber_0 (by decide) ?_
  refine g_istore_n (pc := 3) [(2, .int (nI 1000)), (0, .ref o), (1, .int (nI x))] dX8_addNumber_3 rfl (by decide) rfl ?_
  have d1 := wD_le (s := s) (x := x) (u := 1000)
  have d2 := wD_le (s := wD s x 1000) (x := x) (u := 100)
  have d3 := wD_le (s := wD (wD s x 1000) x 100) (x := x) (u := 10)
  refine GP.lsub [(2, .int (nI 1000)), (0, .ref o), (1, .int (nI x))] (by simp) ?_
  refine an_1000 ho hb hob hx (by omega) ?_
  refine an_100 ho hb hob hx (by omega) ?_
  refine an_10 ho hb hob hx (by omega) ?_
  refine an_1 ho hb hob hx (by omega) ?_
  refine g_iload_n (pc := 4) 0 dX8_addNumber_4 rfl rfl ?_
  refine n_if_le (pc := 5) 39 dX8_addNumber_5 (by decide) (by omega) (fun h9 => ?_) (fun h9 => ?_)
  · exact g_vret (pc := 39) dX8_addNumber_39 ⟨rfl, rfl⟩
  · exact absurd rfl h9
