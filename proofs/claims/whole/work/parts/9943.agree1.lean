/-! the answers of both, call for call -/
theorem bxC.k30 {w : Wd} {X : Nat} {tl : Nat} {tb : Nat → Int32} {fa st : Int32} {rf : Nat → Nat} {sh : SV} {pn : Nat} {pk : Nat → Nat} {ps : Nat → SV} {im : Nat → Option SV} (hB : bxC w X tl tb fa st rf sh pn pk ps im) : sh.2.2.2.2.2.1 ≤ 30 := by
  obtain ⟨⟨s, -, ⟨p, f, g, -, -, -, -, -, ⟨e, g2, -, -, -, -, -, -, b7, -⟩⟩⟩, -⟩ := hB
  exact b7
theorem bxC.dg {w : Wd} {X : Nat} {tl : Nat} {tb : Nat → Int32} {fa st : Int32} {rf : Nat → Nat} {sh : SV} {pn : Nat} {pk : Nat → Nat} {ps : Nat → SV} {im : Nat → Option SV} (hB : bxC w X tl tb fa st rf sh pn pk ps im) : sh.2.1 ≤ 12 := by
  obtain ⟨⟨s, -, ⟨p, f, g, -, -, -, -, -, ⟨e, g2, -, -, -, -, -, b6, -, -⟩⟩⟩, -⟩ := hB
  exact b6
theorem bxC.okp {w : Wd} {X i : Nat} {tl : Nat} {tb : Nat → Int32} {fa st : Int32} {rf : Nat → Nat} {sh : SV} {pn : Nat} {pk : Nat → Nat} {ps : Nat → SV} {im : Nat → Option SV} (hB : bxC w X tl tb fa st rf sh pn pk ps im) (hi : i < 8) : okP (sh.1 i) := by
  obtain ⟨⟨s, -, ⟨p, f, g, -, -, -, -, a5, -⟩⟩, -⟩ := hB
  obtain ⟨v, -, b, c, -, -, -, -, -, ok⟩ := a5 i hi
  exact ok
theorem mdC.yc {w : Wd} {Y : Nat} {tl : Nat} {tb : Nat → Int32} {fa st : Int32} {rf : Nat → Nat} {sh : SV} {pn : Nat} {pk : Nat → Nat} {ps : Nat → SV} {im : Nat → Option SV} (hM : mdC w Y tl tb fa st rf sh pn pk ps im) : ∃ fs, w[Y]? = some (.inr (11, fs)) := by
  obtain ⟨⟨th, dg, dd, ld, be, ib, re, ig, hY⟩, -⟩ := hM
  exact ⟨_, hY⟩
theorem ag_of {n : Nat} {w1 : Wd} {X Y : Nat} {tl : Nat} {tb : Nat → Int32} {fa st : Int32} {rf : Nat → Nat} {sh : SV} {pn : Nat} {pk : Nat → Nat} {ps : Nat → SV} {im : Nat → Option SV} {r : Option Value} {y : MethodName} {cc : ByteArray} {nL : Nat} {ret : Option FieldType} {d : Nat} {As : List Value} {P2 : Option Value → Wd → Prop} (E2 : EP y cc nL ret d As w1 P2) (hM1 : mdC w1 Y tl tb fa st rf sh pn pk ps im) (K : ∃ v : Int32, r = some (.int v) ∧ ∀ r' w2, P2 r' w2 → r' = some (.int v) ∧ Inv (n + 1) w2 X Y) : ∃ v : Int32, r = some (.int v) ∧ (∃ fs, w1[Y]? = some (.inr (11, fs))) ∧ EP y cc nL ret d As w1 (fun r' w2 => r' = some (.int v) ∧ Inv (n + 1) w2 X Y) := by
  obtain ⟨v, hr, K⟩ := K
  exact ⟨v, hr, hM1.yc, EP.mono E2 K⟩
theorem ag_ofL {n : Nat} {w1 : Wd} {X Y : Nat} {tl : Nat} {tb : Nat → Int32} {fa st : Int32} {rf : Nat → Nat} {sh : SV} {pn : Nat} {pk : Nat → Nat} {ps : Nat → SV} {im : Nat → Option SV} {r : Option Value} {y : MethodName} {cc : ByteArray} {nL : Nat} {ret : Option FieldType} {d : Nat} {As : List Value} {P2 : Option Value → Wd → Prop} (E2 : EP y cc nL ret d As w1 P2) (hM1 : mdC w1 Y tl tb fa st rf sh pn pk ps im) (K : ∃ v : Int64, r = some (.long v) ∧ ∀ r' w2, P2 r' w2 → r' = some (.long v) ∧ Inv (n + 1) w2 X Y) : ∃ v : Int64, r = some (.long v) ∧ (∃ fs, w1[Y]? = some (.inr (11, fs))) ∧ EP y cc nL ret d As w1 (fun r' w2 => r' = some (.long v) ∧ Inv (n + 1) w2 X Y) := by
  obtain ⟨v, hr, K⟩ := K
  exact ⟨v, hr, hM1.yc, EP.mono E2 K⟩
theorem plo {x : Int32} {i : Nat} (hx : x = nI i) (hi : i < 8) : isPl x := hx ▸ isPl_n hi
theorem rgI {x : Int32} {i : Nat} {b : Int} (hx : x = nI i) (hi : (i : Int) ≤ b) (hb : b < 2147483648) : 0 ≤ x.toInt ∧ x.toInt ≤ b := by
  rw [hx, nI_toInt (by omega)]
  omega
theorem lvo {x : Int32} {i : Nat} (hx : x = nI i) (hi : i < 7) : isLv x := rgI hx (by omega) (by omega)
theorem or01 {x : Int32} (h : x = nI 0 ∨ x = nI 1) : 0 ≤ x.toInt ∧ x.toInt ≤ 1 := by
  rcases h with e | e
  · exact rgI e (by omega) (by omega)
  · exact rgI e (by omega) (by omega)
theorem nIe {x : Int32} {i j : Nat} (e : x = nI i) (f : x = nI j) (hi : i < 2147483648) (hj : j < 2147483648) : i = j := (nI_inj hi hj).mp (e.symm.trans f)
theorem t32 {x y : Int32} {a : Int} (e : x.toInt = a) (f : y.toInt = a) : x = y := Int32.toInt_inj.mp (e.trans f.symm)
theorem t64 {x y : Int64} {a : Int} (e : x.toInt = a) (f : y.toInt = a) : x = y := Int64.toInt_inj.mp (e.trans f.symm)
theorem noLv_no {sh : SV} {x y : Int32} {i k : Nat} (h : noLv sh x y) (hx : x = nI i) (hi : i < 8) (hy : y = nI k) (hk : k < 7) (ht : topL (sh.1 i).2 (sh.1 i).1 k k) : False := by
  rcases h with g | ⟨i', k', T, hx', hi', hy', hk', ht', hT⟩
  · exact g ⟨plo hx hi, lvo hy hk⟩
  · obtain rfl := nIe hx hx' (by omega) (by omega)
    obtain rfl := nIe hy hy' (by omega) (by omega)
    exact hT (topL_uq ht' ht)
theorem ag_feed {n : Nat} {w : Wd} {X Y : Nat} (h : Inv n w X Y) {xa xb xc xd xe : Int32} : EX11_feed [.ref X, .int xa, .int xb, .int xc, .int xd, .int xe] w (fun r w1 => ∃ v : Int32, r = some (.int v) ∧ (∃ fs, w1[Y]? = some (.inr (11, fs))) ∧ EX12_feed [.ref Y, .int xa, .int xb, .int xc, .int xd, .int xe] w1 (fun r' w2 => r' = some (.int v) ∧ Inv (n + 1) w2 X Y)) := by
  obtain ⟨hXY, hn0, hroom, tl, tb, fa, st, rf, sh, pn, pk, ps, im, hB, hM⟩ := id h
  have tl400 := hB.2.1.1
  have k30 := hB.k30
  have okp := fun i hi => hB.okp (i := i) hi
  refine EP.mono (sp_feed w hB) ?_
  rintro r w1 (⟨hc, rfl, hB1, hE⟩ | ⟨hc, rfl, hB1, hE⟩)
  · have hM1 := hM.ex hE hXY
    refine ag_of (mq_feed w1 hM1) hM1 ?_
    refine ⟨_, rfl, ?_⟩
    rintro r' w2 (⟨hc', rfl, hB1', hE'⟩ | ⟨hc', rfl, hB1', hE'⟩)
    · exact ⟨rfl, h.s hE (by omega) (by omega) hB1 hM1 hB1' hE'⟩
    · exact absurd hc hc'
  · have hM1 := hM.ex hE hXY
    refine ag_of (mq_feed w1 hM1) hM1 ?_
    refine ⟨_, rfl, ?_⟩
    rintro r' w2 (⟨hc', rfl, hB1', hE'⟩ | ⟨hc', rfl, hB1', hE'⟩)
    · exact absurd hc' hc
    · exact ⟨rfl, h.s hE (by omega) (by omega) hB1 hM1 hB1' hE'⟩
theorem ag_end {n : Nat} {w : Wd} {X Y : Nat} (h : Inv n w X Y) {x : Int32} : EX11_end [.ref X, .int x] w (fun r w1 => ∃ v : Int32, r = some (.int v) ∧ (∃ fs, w1[Y]? = some (.inr (11, fs))) ∧ EX12_end [.ref Y, .int x] w1 (fun r' w2 => r' = some (.int v) ∧ Inv (n + 1) w2 X Y)) := by
  obtain ⟨hXY, hn0, hroom, tl, tb, fa, st, rf, sh, pn, pk, ps, im, hB, hM⟩ := id h
  have tl400 := hB.2.1.1
  have k30 := hB.k30
  have okp := fun i hi => hB.okp (i := i) hi
  refine EP.mono (sp_end w hB) ?_
  rintro r w1 (⟨m, hx, hm, rfl, hB1, hE⟩ | ⟨hn, rfl, hB1, hE⟩)
  · have hM1 := hM.ex hE hXY
    refine ag_of (mq_end w1 hM1) hM1 ?_
    refine ⟨_, rfl, ?_⟩
    rintro r' w2 (⟨m', hx', hm', rfl, hB1', hE'⟩ | ⟨hn', rfl, hB1', hE'⟩)
    · obtain rfl := nIe hx hx' (by omega) (by omega)
      exact ⟨rfl, h.s hE (by omega) (by omega) hB1 hM1 hB1' hE'⟩
    · exact absurd (rgI hx (by omega) (by omega)) hn'
  · have hM1 := hM.ex hE hXY
    refine ag_of (mq_end w1 hM1) hM1 ?_
    refine ⟨_, rfl, ?_⟩
    rintro r' w2 (⟨m', hx', hm', rfl, hB1', hE'⟩ | ⟨hn', rfl, hB1', hE'⟩)
    · exact absurd (rgI hx' (by omega) (by omega)) hn
    · exact ⟨rfl, h.s hE (by omega) (by omega) hB1 hM1 hB1' hE'⟩
theorem ag_tape {n : Nat} {w : Wd} {X Y : Nat} (h : Inv n w X Y) {x : Int32} : EX11_tape [.ref X, .int x] w (fun r w1 => ∃ v : Int32, r = some (.int v) ∧ (∃ fs, w1[Y]? = some (.inr (11, fs))) ∧ EX12_tape [.ref Y, .int x] w1 (fun r' w2 => r' = some (.int v) ∧ Inv (n + 1) w2 X Y)) := by
  obtain ⟨hXY, hn0, hroom, tl, tb, fa, st, rf, sh, pn, pk, ps, im, hB, hM⟩ := id h
  have tl400 := hB.2.1.1
  have k30 := hB.k30
  have okp := fun i hi => hB.okp (i := i) hi
  refine EP.mono (sp_tape w hB) ?_
  rintro r w1 (⟨rfl, hB1, hE⟩)
  have hM1 := hM.ex hE hXY
  refine ag_of (mq_tape w1 hM1) hM1 ?_
  refine ⟨_, rfl, ?_⟩
  rintro r' w2 (⟨rfl, hB1', hE'⟩)
  exact ⟨rfl, h.s hE (by omega) (by omega) hB1 hM1 hB1' hE'⟩
theorem ag_fault {n : Nat} {w : Wd} {X Y : Nat} (h : Inv n w X Y) : EX11_fault [.ref X] w (fun r w1 => ∃ v : Int32, r = some (.int v) ∧ (∃ fs, w1[Y]? = some (.inr (11, fs))) ∧ EX12_fault [.ref Y] w1 (fun r' w2 => r' = some (.int v) ∧ Inv (n + 1) w2 X Y)) := by
  obtain ⟨hXY, hn0, hroom, tl, tb, fa, st, rf, sh, pn, pk, ps, im, hB, hM⟩ := id h
  have tl400 := hB.2.1.1
  have k30 := hB.k30
  have okp := fun i hi => hB.okp (i := i) hi
  refine EP.mono (sp_fault w hB) ?_
  rintro r w1 (⟨rfl, hB1, hE⟩)
  have hM1 := hM.ex hE hXY
  refine ag_of (mq_fault w1 hM1) hM1 ?_
  refine ⟨_, rfl, ?_⟩
  rintro r' w2 (⟨rfl, hB1', hE'⟩)
  exact ⟨rfl, h.s hE (by omega) (by omega) hB1 hM1 hB1' hE'⟩
theorem ag_status {n : Nat} {w : Wd} {X Y : Nat} (h : Inv n w X Y) : EX11_status [.ref X] w (fun r w1 => ∃ v : Int32, r = some (.int v) ∧ (∃ fs, w1[Y]? = some (.inr (11, fs))) ∧ EX12_status [.ref Y] w1 (fun r' w2 => r' = some (.int v) ∧ Inv (n + 1) w2 X Y)) := by
  obtain ⟨hXY, hn0, hroom, tl, tb, fa, st, rf, sh, pn, pk, ps, im, hB, hM⟩ := id h
  have tl400 := hB.2.1.1
  have k30 := hB.k30
  have okp := fun i hi => hB.okp (i := i) hi
  refine EP.mono (sp_status w hB) ?_
  rintro r w1 (⟨rfl, hB1, hE⟩)
  have hM1 := hM.ex hE hXY
  refine ag_of (mq_status w1 hM1) hM1 ?_
  refine ⟨_, rfl, ?_⟩
  rintro r' w2 (⟨rfl, hB1', hE'⟩)
  exact ⟨rfl, h.s hE (by omega) (by omega) hB1 hM1 hB1' hE'⟩
theorem ag_read {n : Nat} {w : Wd} {X Y : Nat} (h : Inv n w X Y) {x : Int32} : EX11_read [.ref X, .int x] w (fun r w1 => ∃ v : Int32, r = some (.int v) ∧ (∃ fs, w1[Y]? = some (.inr (11, fs))) ∧ EX12_read [.ref Y, .int x] w1 (fun r' w2 => r' = some (.int v) ∧ Inv (n + 1) w2 X Y)) := by
  obtain ⟨hXY, hn0, hroom, tl, tb, fa, st, rf, sh, pn, pk, ps, im, hB, hM⟩ := id h
  have tl400 := hB.2.1.1
  have k30 := hB.k30
  have okp := fun i hi => hB.okp (i := i) hi
  refine EP.mono (sp_read w hB) ?_
  rintro r w1 (⟨hn, hP⟩ | ⟨i, er, hx, hi, hp, hP⟩ | ⟨i, Ge, c, hx, hi, hp, ht, hf, hP⟩ | ⟨i, Ge, c, hx, hi, hp, ht, hf, hP⟩)
  · have hM1 := hM.ex hP.2.2 hXY
    refine ag_of (mq_read w1 hM1) hM1 ?_
    obtain ⟨rr, K⟩ := rf_ag h hM1 hP
    refine ⟨_, rr, ?_⟩
    rintro r' w2 (⟨hn', hP'⟩ | ⟨i', er', hx', hi', hp', hP'⟩ | ⟨i', Ge', c', hx', hi', hp', ht', hf', hP'⟩ | ⟨i', Ge', c', hx', hi', hp', ht', hf', hP'⟩)
    · exact K _ _ hP'
    · exact absurd (plo hx' hi') hn
    · exact absurd (plo hx' hi') hn
    · exact absurd (plo hx' hi') hn
  · have hM1 := hM.ex hP.2.2 hXY
    refine ag_of (mq_read w1 hM1) hM1 ?_
    obtain ⟨rr, K⟩ := rf_ag h hM1 hP
    refine ⟨_, rr, ?_⟩
    rintro r' w2 (⟨hn', hP'⟩ | ⟨i', er', hx', hi', hp', hP'⟩ | ⟨i', Ge', c', hx', hi', hp', ht', hf', hP'⟩ | ⟨i', Ge', c', hx', hi', hp', ht', hf', hP'⟩)
    · exact absurd (plo hx hi) hn'
    · obtain rfl := Sum.inl.inj (hp.symm.trans hp')
      exact K _ _ hP'
    · cases hp.symm.trans hp'
    · cases hp.symm.trans hp'
  · have hM1 := hM.ex hP.ex hXY
    refine ag_of (mq_read w1 hM1) hM1 ?_
    obtain ⟨v9, rr, K⟩ := pp_ag h hM1 hP
    refine ⟨_, rr, ?_⟩
    rintro r' w2 (⟨hn', hP'⟩ | ⟨i', er', hx', hi', hp', hP'⟩ | ⟨i', Ge', c', hx', hi', hp', ht', hf', hP'⟩ | ⟨i', Ge', c', hx', hi', hp', ht', hf', hP'⟩)
    · exact absurd (plo hx hi) hn'
    · cases hp'.symm.trans hp
    · obtain rfl := nIe hx hx' (by omega) (by omega)
      obtain rfl := Sum.inr.inj (hp.symm.trans hp')
      exact K _ _ hP'
    · obtain rfl := Sum.inr.inj (hp.symm.trans hp')
      obtain rfl := topI_uq ht ht'
      exact absurd hf hf'
  · have hM1 := hM.ex hP.2.2 hXY
    refine ag_of (mq_read w1 hM1) hM1 ?_
    obtain ⟨rr, K⟩ := rf_ag h hM1 hP
    refine ⟨_, rr, ?_⟩
    rintro r' w2 (⟨hn', hP'⟩ | ⟨i', er', hx', hi', hp', hP'⟩ | ⟨i', Ge', c', hx', hi', hp', ht', hf', hP'⟩ | ⟨i', Ge', c', hx', hi', hp', ht', hf', hP'⟩)
    · exact absurd (plo hx hi) hn'
    · cases hp'.symm.trans hp
    · obtain rfl := Sum.inr.inj (hp'.symm.trans hp)
      obtain rfl := topI_uq ht' ht
      exact absurd hf' hf
    · exact K _ _ hP'
theorem ag_listing {n : Nat} {w : Wd} {X Y : Nat} (h : Inv n w X Y) {x : Int32} : EX11_listing [.ref X, .int x] w (fun r w1 => ∃ v : Int32, r = some (.int v) ∧ (∃ fs, w1[Y]? = some (.inr (11, fs))) ∧ EX12_listing [.ref Y, .int x] w1 (fun r' w2 => r' = some (.int v) ∧ Inv (n + 1) w2 X Y)) := by
  obtain ⟨hXY, hn0, hroom, tl, tb, fa, st, rf, sh, pn, pk, ps, im, hB, hM⟩ := id h
  have tl400 := hB.2.1.1
  have k30 := hB.k30
  have okp := fun i hi => hB.okp (i := i) hi
  refine EP.mono (sp_listing w hB) ?_
  rintro r w1 (⟨hn, hP⟩ | ⟨i, hx, hi, rfl, hB1, hE⟩)
  · have hM1 := hM.ex hP.2.2 hXY
    refine ag_of (mq_listing w1 hM1) hM1 ?_
    obtain ⟨rr, K⟩ := rf_ag h hM1 hP
    refine ⟨_, rr, ?_⟩
    rintro r' w2 (⟨hn', hP'⟩ | ⟨i', hx', hi', rfl, hB1', hE'⟩)
    · exact K _ _ hP'
    · exact absurd (plo hx' hi') hn
  · have hM1 := hM.ex hE hXY
    refine ag_of (mq_listing w1 hM1) hM1 ?_
    refine ⟨_, rfl, ?_⟩
    rintro r' w2 (⟨hn', hP'⟩ | ⟨i', hx', hi', rfl, hB1', hE'⟩)
    · exact absurd (plo hx hi) hn'
    · obtain rfl := nIe hx hx' (by omega) (by omega)
      exact ⟨rfl, h.s hE (by omega) (by omega) hB1 hM1 hB1' hE'⟩
theorem ag_times {n : Nat} {w : Wd} {X Y : Nat} (h : Inv n w X Y) {x y z : Int32} : EX11_times [.ref X, .int x, .int y, .int z] w (fun r w1 => ∃ v : Int32, r = some (.int v) ∧ (∃ fs, w1[Y]? = some (.inr (11, fs))) ∧ EX12_times_ [.ref Y, .int x, .int y, .int z] w1 (fun r' w2 => r' = some (.int v) ∧ Inv (n + 1) w2 X Y)) := by
  obtain ⟨hXY, hn0, hroom, tl, tb, fa, st, rf, sh, pn, pk, ps, im, hB, hM⟩ := id h
  have tl400 := hB.2.1.1
  have k30 := hB.k30
  have okp := fun i hi => hB.okp (i := i) hi
  refine EP.mono (sp_times w hB) ?_
  rintro r w1 (⟨hn, hP⟩ | ⟨i, j, k, hx, hi, hy, hj, hz, hk, hP⟩)
  · have hM1 := hM.ex hP.2.2 hXY
    refine ag_of (mq_times w1 hM1) hM1 ?_
    obtain ⟨rr, K⟩ := rf_ag h hM1 hP
    refine ⟨_, rr, ?_⟩
    rintro r' w2 (⟨hn', hP'⟩ | ⟨i', j', k', hx', hi', hy', hj', hz', hk', hP'⟩)
    · exact K _ _ hP'
    · exact absurd ⟨plo hx' hi', plo hy' hj', plo hz' hk'⟩ hn
  · have hM1 := hM.ex hP.ex hXY
    refine ag_of (mq_times w1 hM1) hM1 ?_
    obtain ⟨v9, rr, K⟩ := pp_ag h hM1 hP
    refine ⟨_, rr, ?_⟩
    rintro r' w2 (⟨hn', hP'⟩ | ⟨i', j', k', hx', hi', hy', hj', hz', hk', hP'⟩)
    · exact absurd ⟨plo hx hi, plo hy hj, plo hz hk⟩ hn'
    · obtain rfl := nIe hx hx' (by omega) (by omega)
      obtain rfl := nIe hy hy' (by omega) (by omega)
      obtain rfl := nIe hz hz' (by omega) (by omega)
      exact K _ _ hP'
theorem ag_plus {n : Nat} {w : Wd} {X Y : Nat} (h : Inv n w X Y) {x y z u : Int32} : EX11_plus [.ref X, .int x, .int y, .int z, .int u] w (fun r w1 => ∃ v : Int32, r = some (.int v) ∧ (∃ fs, w1[Y]? = some (.inr (11, fs))) ∧ EX12_plus_ [.ref Y, .int x, .int y, .int z, .int u] w1 (fun r' w2 => r' = some (.int v) ∧ Inv (n + 1) w2 X Y)) := by
  obtain ⟨hXY, hn0, hroom, tl, tb, fa, st, rf, sh, pn, pk, ps, im, hB, hM⟩ := id h
  have tl400 := hB.2.1.1
  have k30 := hB.k30
  have okp := fun i hi => hB.okp (i := i) hi
  refine EP.mono (sp_plus w hB) ?_
  rintro r w1 (⟨hn, hP⟩ | ⟨hx, hn, hP⟩ | ⟨i, j, k, hx, hy, hi, hz, hj, hu, hk, hP⟩)
  · have hM1 := hM.ex hP.2.2 hXY
    refine ag_of (mq_plus w1 hM1) hM1 ?_
    obtain ⟨rr, K⟩ := rf_ag h hM1 hP
    refine ⟨_, rr, ?_⟩
    rintro r' w2 (⟨hn', hP'⟩ | ⟨hx', hn', hP'⟩ | ⟨i', j', k', hx', hy', hi', hz', hj', hu', hk', hP'⟩)
    · exact K _ _ hP'
    · exact absurd (or01 hx') hn
    · exact absurd (or01 hx') hn
  · have hM1 := hM.ex hP.2.2 hXY
    refine ag_of (mq_plus w1 hM1) hM1 ?_
    obtain ⟨rr, K⟩ := rf_ag h hM1 hP
    refine ⟨_, rr, ?_⟩
    rintro r' w2 (⟨hn', hP'⟩ | ⟨hx', hn', hP'⟩ | ⟨i', j', k', hx', hy', hi', hz', hj', hu', hk', hP'⟩)
    · exact absurd (or01 hx) hn'
    · exact K _ _ hP'
    · exact absurd ⟨plo hy' hi', plo hz' hj', plo hu' hk'⟩ hn
  · have hM1 := hM.ex hP.ex hXY
    refine ag_of (mq_plus w1 hM1) hM1 ?_
    obtain ⟨v9, rr, K⟩ := pp_ag h hM1 hP
    refine ⟨_, rr, ?_⟩
    rintro r' w2 (⟨hn', hP'⟩ | ⟨hx', hn', hP'⟩ | ⟨i', j', k', hx', hy', hi', hz', hj', hu', hk', hP'⟩)
    · exact absurd (or01 hx) hn'
    · exact absurd ⟨plo hy hi, plo hz hj, plo hu hk⟩ hn'
    · obtain rfl := nIe hy hy' (by omega) (by omega)
      obtain rfl := nIe hz hz' (by omega) (by omega)
      obtain rfl := nIe hu hu' (by omega) (by omega)
      exact K _ _ hP'
theorem ag_turn {n : Nat} {w : Wd} {X Y : Nat} (h : Inv n w X Y) {x y z : Int32} : EX11_turn [.ref X, .int x, .int y, .int z] w (fun r w1 => ∃ v : Int32, r = some (.int v) ∧ (∃ fs, w1[Y]? = some (.inr (11, fs))) ∧ EX12_turn [.ref Y, .int x, .int y, .int z] w1 (fun r' w2 => r' = some (.int v) ∧ Inv (n + 1) w2 X Y)) := by
  obtain ⟨hXY, hn0, hroom, tl, tb, fa, st, rf, sh, pn, pk, ps, im, hB, hM⟩ := id h
  have tl400 := hB.2.1.1
  have k30 := hB.k30
  have okp := fun i hi => hB.okp (i := i) hi
  refine EP.mono (sp_turn w hB) ?_
  rintro r w1 (⟨hn, hP⟩ | ⟨t, hx, ht, hn, hP⟩ | ⟨t, i, k, hx, ht, hy, hi, hz, hk, hP⟩ | ⟨i, k, hx, hy, hi, hz, hk, hs, hP⟩ | ⟨i, k, hx, hy, hi, hz, hk, hs, hP⟩)
  · have hM1 := hM.ex hP.2.2 hXY
    refine ag_of (mq_turn w1 hM1) hM1 ?_
    obtain ⟨rr, K⟩ := rf_ag h hM1 hP
    refine ⟨_, rr, ?_⟩
    rintro r' w2 (⟨hn', hP'⟩ | ⟨t', hx', ht', hn', hP'⟩ | ⟨t', i', k', hx', ht', hy', hi', hz', hk', hP'⟩ | ⟨i', k', hx', hy', hi', hz', hk', hs', hP'⟩ | ⟨i', k', hx', hy', hi', hz', hk', hs', hP'⟩)
    · exact K _ _ hP'
    · exact absurd (rgI hx' (by omega) (by omega)) hn
    · exact absurd (rgI hx' (by omega) (by omega)) hn
    · exact absurd (rgI hx' (by omega) (by omega)) hn
    · exact absurd (rgI hx' (by omega) (by omega)) hn
  · have hM1 := hM.ex hP.2.2 hXY
    refine ag_of (mq_turn w1 hM1) hM1 ?_
    obtain ⟨rr, K⟩ := rf_ag h hM1 hP
    refine ⟨_, rr, ?_⟩
    rintro r' w2 (⟨hn', hP'⟩ | ⟨t', hx', ht', hn', hP'⟩ | ⟨t', i', k', hx', ht', hy', hi', hz', hk', hP'⟩ | ⟨i', k', hx', hy', hi', hz', hk', hs', hP'⟩ | ⟨i', k', hx', hy', hi', hz', hk', hs', hP'⟩)
    · exact absurd (rgI hx (by omega) (by omega)) hn'
    · exact K _ _ hP'
    · exact absurd ⟨plo hy' hi', plo hz' hk'⟩ hn
    · exact absurd ⟨plo hy' hi', plo hz' hk'⟩ hn
    · exact absurd ⟨plo hy' hi', plo hz' hk'⟩ hn
  · have hM1 := hM.ex hP.ex hXY
    refine ag_of (mq_turn w1 hM1) hM1 ?_
    obtain ⟨v9, rr, K⟩ := pp_ag h hM1 hP
    refine ⟨_, rr, ?_⟩
    rintro r' w2 (⟨hn', hP'⟩ | ⟨t', hx', ht', hn', hP'⟩ | ⟨t', i', k', hx', ht', hy', hi', hz', hk', hP'⟩ | ⟨i', k', hx', hy', hi', hz', hk', hs', hP'⟩ | ⟨i', k', hx', hy', hi', hz', hk', hs', hP'⟩)
    · exact absurd (rgI hx (by omega) (by omega)) hn'
    · exact absurd ⟨plo hy hi, plo hz hk⟩ hn'
    · obtain rfl := nIe hx hx' (by omega) (by omega)
      obtain rfl := nIe hy hy' (by omega) (by omega)
      obtain rfl := nIe hz hz' (by omega) (by omega)
      exact K _ _ hP'
    · exact absurd (nIe hx hx' (by omega) (by omega)) (by omega)
    · exact absurd (nIe hx hx' (by omega) (by omega)) (by omega)
  · have hM1 := hM.ex hP.2.2 hXY
    refine ag_of (mq_turn w1 hM1) hM1 ?_
    obtain ⟨rr, K⟩ := rf_ag h hM1 hP
    refine ⟨_, rr, ?_⟩
    rintro r' w2 (⟨hn', hP'⟩ | ⟨t', hx', ht', hn', hP'⟩ | ⟨t', i', k', hx', ht', hy', hi', hz', hk', hP'⟩ | ⟨i', k', hx', hy', hi', hz', hk', hs', hP'⟩ | ⟨i', k', hx', hy', hi', hz', hk', hs', hP'⟩)
    · exact absurd (rgI hx (by omega) (by omega)) hn'
    · exact absurd ⟨plo hy hi, plo hz hk⟩ hn'
    · exact absurd (nIe hx' hx (by omega) (by omega)) (by omega)
    · exact K _ _ hP'
    · obtain rfl := nIe hy hy' (by omega) (by omega)
      exact absurd hs' hs
  · have hM1 := hM.ex hP.ex hXY
    refine ag_of (mq_turn w1 hM1) hM1 ?_
    obtain ⟨v9, rr, K⟩ := pp_ag h hM1 hP
    refine ⟨_, rr, ?_⟩
    rintro r' w2 (⟨hn', hP'⟩ | ⟨t', hx', ht', hn', hP'⟩ | ⟨t', i', k', hx', ht', hy', hi', hz', hk', hP'⟩ | ⟨i', k', hx', hy', hi', hz', hk', hs', hP'⟩ | ⟨i', k', hx', hy', hi', hz', hk', hs', hP'⟩)
    · exact absurd (rgI hx (by omega) (by omega)) hn'
    · exact absurd ⟨plo hy hi, plo hz hk⟩ hn'
    · exact absurd (nIe hx' hx (by omega) (by omega)) (by omega)
    · obtain rfl := nIe hy' hy (by omega) (by omega)
      exact absurd hs hs'
    · obtain rfl := nIe hy hy' (by omega) (by omega)
      obtain rfl := nIe hz hz' (by omega) (by omega)
      exact K _ _ hP'
theorem ag_cyclotomic {n : Nat} {w : Wd} {X Y : Nat} (h : Inv n w X Y) {x z : Int32} : EX11_cyclotomic [.ref X, .int x, .int z] w (fun r w1 => ∃ v : Int32, r = some (.int v) ∧ (∃ fs, w1[Y]? = some (.inr (11, fs))) ∧ EX12_cyclotomic [.ref Y, .int x, .int z] w1 (fun r' w2 => r' = some (.int v) ∧ Inv (n + 1) w2 X Y)) := by
  obtain ⟨hXY, hn0, hroom, tl, tb, fa, st, rf, sh, pn, pk, ps, im, hB, hM⟩ := id h
  have tl400 := hB.2.1.1
  have k30 := hB.k30
  have okp := fun i hi => hB.okp (i := i) hi
  refine EP.mono (sp_cyclotomic w hB) ?_
  rintro r w1 (⟨hn, hP⟩ | ⟨c, hx, hc, h1, hcy, hn, hP⟩ | ⟨c, k, hx, hc, h1, hcy, hz, hk, hP⟩)
  · have hM1 := hM.ex hP.2.2 hXY
    refine ag_of (mq_cyclotomic w1 hM1) hM1 ?_
    obtain ⟨rr, K⟩ := rf_ag h hM1 hP
    refine ⟨_, rr, ?_⟩
    rintro r' w2 (⟨hn', hP'⟩ | ⟨c', hx', hc', h1', hcy', hn', hP'⟩ | ⟨c', k', hx', hc', h1', hcy', hz', hk', hP'⟩)
    · exact K _ _ hP'
    · exact absurd ⟨_, hx', hc', h1', hcy'⟩ hn
    · exact absurd ⟨_, hx', hc', h1', hcy'⟩ hn
  · have hM1 := hM.ex hP.2.2 hXY
    refine ag_of (mq_cyclotomic w1 hM1) hM1 ?_
    obtain ⟨rr, K⟩ := rf_ag h hM1 hP
    refine ⟨_, rr, ?_⟩
    rintro r' w2 (⟨hn', hP'⟩ | ⟨c', hx', hc', h1', hcy', hn', hP'⟩ | ⟨c', k', hx', hc', h1', hcy', hz', hk', hP'⟩)
    · exact absurd ⟨_, hx, hc, h1, hcy⟩ hn'
    · exact K _ _ hP'
    · exact absurd (plo hz' hk') hn
  · have hM1 := hM.ex hP.ex hXY
    refine ag_of (mq_cyclotomic w1 hM1) hM1 ?_
    obtain ⟨v9, rr, K⟩ := pp_ag h hM1 hP
    refine ⟨_, rr, ?_⟩
    rintro r' w2 (⟨hn', hP'⟩ | ⟨c', hx', hc', h1', hcy', hn', hP'⟩ | ⟨c', k', hx', hc', h1', hcy', hz', hk', hP'⟩)
    · exact absurd ⟨_, hx, hc, h1, hcy⟩ hn'
    · exact absurd (plo hz hk) hn'
    · obtain rfl := nIe hx hx' (by omega) (by omega)
      obtain rfl := nIe hz hz' (by omega) (by omega)
      exact K _ _ hP'
theorem ag_take {n : Nat} {w : Wd} {X Y : Nat} (h : Inv n w X Y) {x z : Int32} : EX11_take [.ref X, .int x, .int z] w (fun r w1 => ∃ v : Int32, r = some (.int v) ∧ (∃ fs, w1[Y]? = some (.inr (11, fs))) ∧ EX12_take_ [.ref Y, .int x, .int z] w1 (fun r' w2 => r' = some (.int v) ∧ Inv (n + 1) w2 X Y)) := by
  obtain ⟨hXY, hn0, hroom, tl, tb, fa, st, rf, sh, pn, pk, ps, im, hB, hM⟩ := id h
  have tl400 := hB.2.1.1
  have k30 := hB.k30
  have okp := fun i hi => hB.okp (i := i) hi
  refine EP.mono (sp_take w hB) ?_
  rintro r w1 (⟨hn, hP⟩ | ⟨i, k, hx, hi, hz, hk, hP⟩)
  · have hM1 := hM.ex hP.2.2 hXY
    refine ag_of (mq_take w1 hM1) hM1 ?_
    obtain ⟨rr, K⟩ := rf_ag h hM1 hP
    refine ⟨_, rr, ?_⟩
    rintro r' w2 (⟨hn', hP'⟩ | ⟨i', k', hx', hi', hz', hk', hP'⟩)
    · exact K _ _ hP'
    · exact absurd ⟨(rgI hx' (b := 30) (by omega) (by omega)).1, by rw [hx', nI_toInt (by omega)]; omega, plo hz' hk'⟩ hn
  · have hM1 := hM.ex hP.ex hXY
    refine ag_of (mq_take w1 hM1) hM1 ?_
    obtain ⟨v9, rr, K⟩ := pp_ag h hM1 hP
    refine ⟨_, rr, ?_⟩
    rintro r' w2 (⟨hn', hP'⟩ | ⟨i', k', hx', hi', hz', hk', hP'⟩)
    · exact absurd ⟨(rgI hx (b := 30) (by omega) (by omega)).1, by rw [hx, nI_toInt (by omega)]; omega, plo hz hk⟩ hn'
    · obtain rfl := nIe hx hx' (by omega) (by omega)
      obtain rfl := nIe hz hz' (by omega) (by omega)
      exact K _ _ hP'
theorem ag_undo {n : Nat} {w : Wd} {X Y : Nat} (h : Inv n w X Y) : EX11_undo [.ref X] w (fun r w1 => ∃ v : Int32, r = some (.int v) ∧ (∃ fs, w1[Y]? = some (.inr (11, fs))) ∧ EX12_undo [.ref Y] w1 (fun r' w2 => r' = some (.int v) ∧ Inv (n + 1) w2 X Y)) := by
  obtain ⟨hXY, hn0, hroom, tl, tb, fa, st, rf, sh, pn, pk, ps, im, hB, hM⟩ := id h
  have tl400 := hB.2.1.1
  have k30 := hB.k30
  have okp := fun i hi => hB.okp (i := i) hi
  refine EP.mono (sp_undo w hB) ?_
  rintro r w1 (⟨hp, rfl, hB1, hE⟩ | ⟨hp, rfl, hB1, hE⟩)
  · have hM1 := hM.ex hE hXY
    refine ag_of (mq_undo w1 hM1) hM1 ?_
    refine ⟨_, rfl, ?_⟩
    rintro r' w2 (⟨hp', rfl, hB1', hE'⟩ | ⟨hp', rfl, hB1', hE'⟩)
    · exact ⟨rfl, h.s hE (by omega) (by omega) hB1 hM1 hB1' hE'⟩
    · exact absurd hp hp'
  · have hM1 := hM.ex hE hXY
    refine ag_of (mq_undo w1 hM1) hM1 ?_
    refine ⟨_, rfl, ?_⟩
    rintro r' w2 (⟨hp', rfl, hB1', hE'⟩ | ⟨hp', rfl, hB1', hE'⟩)
    · exact absurd hp' hp
    · exact ⟨rfl, h.s hE (by omega) (by omega) hB1 hM1 hB1' hE'⟩
theorem ag_image {n : Nat} {w : Wd} {X Y : Nat} (h : Inv n w X Y) {x : Int32} : EX11_image [.ref X, .int x] w (fun r w1 => ∃ v : Int32, r = some (.int v) ∧ (∃ fs, w1[Y]? = some (.inr (11, fs))) ∧ EX12_image [.ref Y, .int x] w1 (fun r' w2 => r' = some (.int v) ∧ Inv (n + 1) w2 X Y)) := by
  obtain ⟨hXY, hn0, hroom, tl, tb, fa, st, rf, sh, pn, pk, ps, im, hB, hM⟩ := id h
  have tl400 := hB.2.1.1
  have k30 := hB.k30
  have okp := fun i hi => hB.okp (i := i) hi
  refine EP.mono (sp_image w hB) ?_
  rintro r w1 (⟨hn, rfl, hB1, hE⟩ | ⟨k, hx, hk, rfl, hB1, hE⟩)
  · have hM1 := hM.ex hE hXY
    refine ag_of (mq_image w1 hM1) hM1 ?_
    refine ⟨_, rfl, ?_⟩
    rintro r' w2 (⟨hn', rfl, hB1', hE'⟩ | ⟨k', hx', hk', rfl, hB1', hE'⟩)
    · exact ⟨rfl, h.s hE (by omega) (by omega) hB1 hM1 hB1' hE'⟩
    · exact absurd (rgI hx' (by omega) (by omega)) hn
  · have hM1 := hM.ex hE hXY
    refine ag_of (mq_image w1 hM1) hM1 ?_
    refine ⟨_, rfl, ?_⟩
    rintro r' w2 (⟨hn', rfl, hB1', hE'⟩ | ⟨k', hx', hk', rfl, hB1', hE'⟩)
    · exact absurd (rgI hx (by omega) (by omega)) hn'
    · obtain rfl := nIe hx hx' (by omega) (by omega)
      exact ⟨rfl, h.s hE (by omega) (by omega) hB1 hM1 hB1' hE'⟩
theorem ag_back {n : Nat} {w : Wd} {X Y : Nat} (h : Inv n w X Y) {x : Int32} : EX11_back [.ref X, .int x] w (fun r w1 => ∃ v : Int32, r = some (.int v) ∧ (∃ fs, w1[Y]? = some (.inr (11, fs))) ∧ EX12_back [.ref Y, .int x] w1 (fun r' w2 => r' = some (.int v) ∧ Inv (n + 1) w2 X Y)) := by
  obtain ⟨hXY, hn0, hroom, tl, tb, fa, st, rf, sh, pn, pk, ps, im, hB, hM⟩ := id h
  have tl400 := hB.2.1.1
  have k30 := hB.k30
  have okp := fun i hi => hB.okp (i := i) hi
  refine EP.mono (sp_back w hB) ?_
  rintro r w1 (⟨hn, rfl, hB1, hE⟩ | ⟨k, hx, hk, hi, rfl, hB1, hE⟩ | ⟨k, V, hx, hk, hi, rfl, hB1, hE⟩)
  · have hM1 := hM.ex hE hXY
    refine ag_of (mq_back w1 hM1) hM1 ?_
    refine ⟨_, rfl, ?_⟩
    rintro r' w2 (⟨hn', rfl, hB1', hE'⟩ | ⟨k', hx', hk', hi', rfl, hB1', hE'⟩ | ⟨k', V', hx', hk', hi', rfl, hB1', hE'⟩)
    · exact ⟨rfl, h.s hE (by omega) (by omega) hB1 hM1 hB1' hE'⟩
    · exact absurd (rgI hx' (by omega) (by omega)) hn
    · exact absurd (rgI hx' (by omega) (by omega)) hn
  · have hM1 := hM.ex hE hXY
    refine ag_of (mq_back w1 hM1) hM1 ?_
    refine ⟨_, rfl, ?_⟩
    rintro r' w2 (⟨hn', rfl, hB1', hE'⟩ | ⟨k', hx', hk', hi', rfl, hB1', hE'⟩ | ⟨k', V', hx', hk', hi', rfl, hB1', hE'⟩)
    · exact absurd (rgI hx (by omega) (by omega)) hn'
    · exact ⟨rfl, h.s hE (by omega) (by omega) hB1 hM1 hB1' hE'⟩
    · obtain rfl := nIe hx hx' (by omega) (by omega)
      cases hi.symm.trans hi'
  · have hM1 := hM.ex hE hXY
    refine ag_of (mq_back w1 hM1) hM1 ?_
    refine ⟨_, rfl, ?_⟩
    rintro r' w2 (⟨hn', rfl, hB1', hE'⟩ | ⟨k', hx', hk', hi', rfl, hB1', hE'⟩ | ⟨k', V', hx', hk', hi', rfl, hB1', hE'⟩)
    · exact absurd (rgI hx (by omega) (by omega)) hn'
    · obtain rfl := nIe hx' hx (by omega) (by omega)
      cases hi'.symm.trans hi
    · obtain rfl := nIe hx hx' (by omega) (by omega)
      obtain rfl := Option.some.inj (hi.symm.trans hi')
      exact ⟨rfl, h.s hE (by omega) (by omega) hB1 hM1 hB1' hE'⟩
theorem ag_coefficient {n : Nat} {w : Wd} {X Y : Nat} (h : Inv n w X Y) {x y : Int32} : EX11_coefficient [.ref X, .int x, .int y] w (fun r w1 => ∃ v : Int32, r = some (.int v) ∧ (∃ fs, w1[Y]? = some (.inr (11, fs))) ∧ EX12_coefficient [.ref Y, .int x, .int y] w1 (fun r' w2 => r' = some (.int v) ∧ Inv (n + 1) w2 X Y)) := by
  obtain ⟨hXY, hn0, hroom, tl, tb, fa, st, rf, sh, pn, pk, ps, im, hB, hM⟩ := id h
  have tl400 := hB.2.1.1
  have k30 := hB.k30
  have okp := fun i hi => hB.okp (i := i) hi
  refine EP.mono (sp_coefficient w hB) ?_
  rintro r w1 (⟨hn, rfl, hB1, hE⟩ | ⟨i, j, v, hx, hi, hy, hj, rfl, hv, hB1, hE⟩)
  · have hM1 := hM.ex hE hXY
    refine ag_of (mq_coefficient w1 hM1) hM1 ?_
    refine ⟨_, rfl, ?_⟩
    rintro r' w2 (⟨hn', rfl, hB1', hE'⟩ | ⟨i', j', v', hx', hi', hy', hj', rfl, hv', hB1', hE'⟩)
    · exact ⟨rfl, h.s hE (by omega) (by omega) hB1 hM1 hB1' hE'⟩
    · exact absurd ⟨plo hx' hi', rgI hy' (by omega) (by omega)⟩ hn
  · have hM1 := hM.ex hE hXY
    refine ag_of (mq_coefficient w1 hM1) hM1 ?_
    refine ⟨_, rfl, ?_⟩
    rintro r' w2 (⟨hn', rfl, hB1', hE'⟩ | ⟨i', j', v', hx', hi', hy', hj', rfl, hv', hB1', hE'⟩)
    · exact absurd ⟨plo hx hi, rgI hy (by omega) (by omega)⟩ hn'
    · obtain rfl := nIe hx hx' (by omega) (by omega)
      obtain rfl := nIe hy hy' (by omega) (by omega)
      obtain rfl := t32 hv hv'
      exact ⟨rfl, h.s hE (by omega) (by omega) hB1 hM1 hB1' hE'⟩
theorem ag_found {n : Nat} {w : Wd} {X Y : Nat} (h : Inv n w X Y) {x y : Int32} : EX11_found [.ref X, .int x, .int y] w (fun r w1 => ∃ v : Int32, r = some (.int v) ∧ (∃ fs, w1[Y]? = some (.inr (11, fs))) ∧ EX12_found [.ref Y, .int x, .int y] w1 (fun r' w2 => r' = some (.int v) ∧ Inv (n + 1) w2 X Y)) := by
  obtain ⟨hXY, hn0, hroom, tl, tb, fa, st, rf, sh, pn, pk, ps, im, hB, hM⟩ := id h
  have tl400 := hB.2.1.1
  have k30 := hB.k30
  have okp := fun i hi => hB.okp (i := i) hi
  refine EP.mono (sp_found w hB) ?_
  rintro r w1 (⟨hn, rfl, hB1, hE⟩ | ⟨i, k, v, hx, hi, hy, hk, rfl, hv, hB1, hE⟩)
  · have hM1 := hM.ex hE hXY
    refine ag_of (mq_found w1 hM1) hM1 ?_
    refine ⟨_, rfl, ?_⟩
    rintro r' w2 (⟨hn', rfl, hB1', hE'⟩ | ⟨i', k', v', hx', hi', hy', hk', rfl, hv', hB1', hE'⟩)
    · exact ⟨rfl, h.s hE (by omega) (by omega) hB1 hM1 hB1' hE'⟩
    · have dg9 := hB.dg
      have e1 := nI_toInt (show k' < 2147483648 by omega)
      have e2 := nI_toInt (show i' < 2147483648 by omega)
      rw [← hy'] at e1
      rw [← hx'] at e2
      exact absurd ⟨by omega, by omega, by omega⟩ hn
  · have hM1 := hM.ex hE hXY
    refine ag_of (mq_found w1 hM1) hM1 ?_
    refine ⟨_, rfl, ?_⟩
    rintro r' w2 (⟨hn', rfl, hB1', hE'⟩ | ⟨i', k', v', hx', hi', hy', hk', rfl, hv', hB1', hE'⟩)
    · have dg9 := hB.dg
      have e1 := nI_toInt (show k < 2147483648 by omega)
      have e2 := nI_toInt (show i < 2147483648 by omega)
      rw [← hy] at e1
      rw [← hx] at e2
      exact absurd ⟨by omega, by omega, by omega⟩ hn'
    · have dg9 := hB.dg
      obtain rfl := nIe hx hx' (by omega) (by omega)
      obtain rfl := nIe hy hy' (by omega) (by omega)
      obtain rfl := t32 hv hv'
      exact ⟨rfl, h.s hE (by omega) (by omega) hB1 hM1 hB1' hE'⟩
theorem ag_smallest {n : Nat} {w : Wd} {X Y : Nat} (h : Inv n w X Y) {x : Int32} : EX11_smallest [.ref X, .int x] w (fun r w1 => ∃ v : Int32, r = some (.int v) ∧ (∃ fs, w1[Y]? = some (.inr (11, fs))) ∧ EX12_smallest [.ref Y, .int x] w1 (fun r' w2 => r' = some (.int v) ∧ Inv (n + 1) w2 X Y)) := by
  obtain ⟨hXY, hn0, hroom, tl, tb, fa, st, rf, sh, pn, pk, ps, im, hB, hM⟩ := id h
  have tl400 := hB.2.1.1
  have k30 := hB.k30
  have okp := fun i hi => hB.okp (i := i) hi
  refine EP.mono (sp_smallest w hB) ?_
  rintro r w1 (⟨hn, rfl, hB1, hE⟩ | ⟨t, v, hx, hh, h0, rfl, ho, hB1, hE⟩)
  · have hM1 := hM.ex hE hXY
    refine ag_of (mq_smallest w1 hM1) hM1 ?_
    refine ⟨_, rfl, ?_⟩
    rintro r' w2 (⟨hn', rfl, hB1', hE'⟩ | ⟨t', v', hx', hh', h0', rfl, ho', hB1', hE'⟩)
    · exact ⟨rfl, h.s hE (by omega) (by omega) hB1 hM1 hB1' hE'⟩
    · exact absurd ⟨h0', rgI hx' (by omega) (by omega)⟩ hn
  · have hM1 := hM.ex hE hXY
    refine ag_of (mq_smallest w1 hM1) hM1 ?_
    refine ⟨_, rfl, ?_⟩
    rintro r' w2 (⟨hn', rfl, hB1', hE'⟩ | ⟨t', v', hx', hh', h0', rfl, ho', hB1', hE'⟩)
    · exact absurd ⟨h0, rgI hx (by omega) (by omega)⟩ hn'
    · obtain rfl := nIe hx hx' (by omega) (by omega)
      have ev : v = v' := by
        rcases ho with ⟨e1, e2⟩ | ⟨e1, e2⟩ | ⟨e1, e2⟩ <;> rcases ho' with ⟨f1, f2⟩ | ⟨f1, f2⟩ | ⟨f1, f2⟩ <;> first | exact e2.trans f2.symm | exact t32 e2 f2 | exact absurd (e1.symm.trans f1) (by decide)
      subst ev
      exact ⟨rfl, h.s hE (by omega) (by omega) hB1 hM1 hB1' hE'⟩
theorem ag_count {n : Nat} {w : Wd} {X Y : Nat} (h : Inv n w X Y) {x : Int32} : EX11_count [.ref X, .int x] w (fun r w1 => ∃ v : Int32, r = some (.int v) ∧ (∃ fs, w1[Y]? = some (.inr (11, fs))) ∧ EX12_count [.ref Y, .int x] w1 (fun r' w2 => r' = some (.int v) ∧ Inv (n + 1) w2 X Y)) := by
  obtain ⟨hXY, hn0, hroom, tl, tb, fa, st, rf, sh, pn, pk, ps, im, hB, hM⟩ := id h
  have tl400 := hB.2.1.1
  have k30 := hB.k30
  have okp := fun i hi => hB.okp (i := i) hi
  refine EP.mono (sp_count w hB) ?_
  rintro r w1 (⟨i, hx, hi, rfl, hB1, hE⟩ | ⟨t, v, hx, hh, hc, rfl, hB1, hE⟩ | ⟨hn, rfl, hB1, hE⟩)
  · have hM1 := hM.ex hE hXY
    refine ag_of (mq_count w1 hM1) hM1 ?_
    refine ⟨_, rfl, ?_⟩
    rintro r' w2 (⟨i', hx', hi', rfl, hB1', hE'⟩ | ⟨t', v', hx', hh', hc', rfl, hB1', hE'⟩ | ⟨hn', rfl, hB1', hE'⟩)
    · obtain rfl := nIe hx hx' (by omega) (by omega)
      exact ⟨rfl, h.s hE (by omega) (by omega) hB1 hM1 hB1' hE'⟩
    · exact absurd (nIe hx hx' (by omega) (by omega)) (by omega)
    · exact absurd (rgI hx (by omega) (by omega)) hn'
  · have hM1 := hM.ex hE hXY
    refine ag_of (mq_count w1 hM1) hM1 ?_
    refine ⟨_, rfl, ?_⟩
    rintro r' w2 (⟨i', hx', hi', rfl, hB1', hE'⟩ | ⟨t', v', hx', hh', hc', rfl, hB1', hE'⟩ | ⟨hn', rfl, hB1', hE'⟩)
    · exact absurd (nIe hx' hx (by omega) (by omega)) (by omega)
    · obtain rfl := nIe hx hx' (by omega) (by omega)
      have ev : v = v' := by
        rcases hc with ⟨e1, e2⟩ | ⟨e1, e2⟩ | ⟨e1, e2⟩ | ⟨e1, e2⟩ | ⟨e1, e2⟩ | ⟨e1, e2⟩ | ⟨e1, e2⟩ <;> rcases hc' with ⟨f1, f2⟩ | ⟨f1, f2⟩ | ⟨f1, f2⟩ | ⟨f1, f2⟩ | ⟨f1, f2⟩ | ⟨f1, f2⟩ | ⟨f1, f2⟩ <;> first | exact e2.trans f2.symm | (exfalso; omega)
      subst ev
      exact ⟨rfl, h.s hE (by omega) (by omega) hB1 hM1 hB1' hE'⟩
    · exact absurd (rgI hx (by omega) (by omega)) hn'
  · have hM1 := hM.ex hE hXY
    refine ag_of (mq_count w1 hM1) hM1 ?_
    refine ⟨_, rfl, ?_⟩
    rintro r' w2 (⟨i', hx', hi', rfl, hB1', hE'⟩ | ⟨t', v', hx', hh', hc', rfl, hB1', hE'⟩ | ⟨hn', rfl, hB1', hE'⟩)
    · exact absurd (rgI hx' (by omega) (by omega)) hn
    · exact absurd (rgI hx' (by omega) (by omega)) hn
    · exact ⟨rfl, h.s hE (by omega) (by omega) hB1 hM1 hB1' hE'⟩
theorem ag_value {n : Nat} {w : Wd} {X Y : Nat} (h : Inv n w X Y) {x y : Int32} : EX11_value [.ref X, .int x, .int y] w (fun r w1 => ∃ v : Int64, r = some (.long v) ∧ (∃ fs, w1[Y]? = some (.inr (11, fs))) ∧ EX12_value [.ref Y, .int x, .int y] w1 (fun r' w2 => r' = some (.long v) ∧ Inv (n + 1) w2 X Y)) := by
  obtain ⟨hXY, hn0, hroom, tl, tb, fa, st, rf, sh, pn, pk, ps, im, hB, hM⟩ := id h
  have tl400 := hB.2.1.1
  have k30 := hB.k30
  have okp := fun i hi => hB.okp (i := i) hi
  refine EP.mono (sp_value w hB) ?_
  rintro r w1 (⟨hn, rfl, hB1, hE⟩ | ⟨i, v, hx, hi, h1, h2, rfl, ho, hB1, hE⟩)
  · have hM1 := hM.ex hE hXY
    refine ag_ofL (mq_value w1 hM1) hM1 ?_
    refine ⟨_, rfl, ?_⟩
    rintro r' w2 (⟨hn', rfl, hB1', hE'⟩ | ⟨i', v', hx', hi', h1', h2', rfl, ho', hB1', hE'⟩)
    · exact ⟨rfl, h.s hE (by omega) (by omega) hB1 hM1 hB1' hE'⟩
    · exact absurd ⟨plo hx' hi', h1', h2'⟩ hn
  · have hM1 := hM.ex hE hXY
    refine ag_ofL (mq_value w1 hM1) hM1 ?_
    refine ⟨_, rfl, ?_⟩
    rintro r' w2 (⟨hn', rfl, hB1', hE'⟩ | ⟨i', v', hx', hi', h1', h2', rfl, ho', hB1', hE'⟩)
    · exact absurd ⟨plo hx hi, h1, h2⟩ hn'
    · obtain rfl := nIe hx hx' (by omega) (by omega)
      have ev : v = v' := by
        rcases ho with ⟨e1, e2⟩ | ⟨e1, e2⟩ <;> rcases ho' with ⟨f1, f2⟩ | ⟨f1, f2⟩ <;> first | exact t64 e2 f2 | exact absurd e1 f1 | exact absurd f1 e1
      subst ev
      exact ⟨rfl, h.s hE (by omega) (by omega) hB1 hM1 hB1' hE'⟩
theorem ag_roots {n : Nat} {w : Wd} {X Y : Nat} (h : Inv n w X Y) {x y : Int32} : EX11_roots [.ref X, .int x, .int y] w (fun r w1 => ∃ v : Int32, r = some (.int v) ∧ (∃ fs, w1[Y]? = some (.inr (11, fs))) ∧ EX12_roots [.ref Y, .int x, .int y] w1 (fun r' w2 => r' = some (.int v) ∧ Inv (n + 1) w2 X Y)) := by
  obtain ⟨hXY, hn0, hroom, tl, tb, fa, st, rf, sh, pn, pk, ps, im, hB, hM⟩ := id h
  have tl400 := hB.2.1.1
  have k30 := hB.k30
  have okp := fun i hi => hB.okp (i := i) hi
  refine EP.mono (sp_roots w hB) ?_
  rintro r w1 (⟨hn, rfl, hB1, hE⟩ | ⟨i, t, v, hx, hi, hy, hh, rfl, ho, hB1, hE⟩)
  · have hM1 := hM.ex hE hXY
    refine ag_of (mq_roots w1 hM1) hM1 ?_
    refine ⟨_, rfl, ?_⟩
    rintro r' w2 (⟨hn', rfl, hB1', hE'⟩ | ⟨i', t', v', hx', hi', hy', hh', rfl, ho', hB1', hE'⟩)
    · exact ⟨rfl, h.s hE (by omega) (by omega) hB1 hM1 hB1' hE'⟩
    · exact absurd ⟨plo hx' hi', rgI hy' (by omega) (by omega)⟩ hn
  · have hM1 := hM.ex hE hXY
    refine ag_of (mq_roots w1 hM1) hM1 ?_
    refine ⟨_, rfl, ?_⟩
    rintro r' w2 (⟨hn', rfl, hB1', hE'⟩ | ⟨i', t', v', hx', hi', hy', hh', rfl, ho', hB1', hE'⟩)
    · exact absurd ⟨plo hx hi, rgI hy (by omega) (by omega)⟩ hn'
    · obtain rfl := nIe hx hx' (by omega) (by omega)
      obtain rfl := nIe hy hy' (by omega) (by omega)
      have ev : v = v' := by
        rcases ho with ⟨e1, e2⟩ | ⟨e1, e2⟩ | ⟨e1, e2⟩ <;> rcases ho' with ⟨f1, f2⟩ | ⟨f1, f2⟩ | ⟨f1, f2⟩ <;> first | exact e2.trans f2.symm | exact t32 e2 f2 | exact absurd (e1.symm.trans f1) (by decide)
      subst ev
      exact ⟨rfl, h.s hE (by omega) (by omega) hB1 hM1 hB1' hE'⟩
theorem ag_level {n : Nat} {w : Wd} {X Y : Nat} (h : Inv n w X Y) {x y z : Int32} : EX11_level [.ref X, .int x, .int y, .int z] w (fun r w1 => ∃ v : Int64, r = some (.long v) ∧ (∃ fs, w1[Y]? = some (.inr (11, fs))) ∧ EX12_level [.ref Y, .int x, .int y, .int z] w1 (fun r' w2 => r' = some (.long v) ∧ Inv (n + 1) w2 X Y)) := by
  obtain ⟨hXY, hn0, hroom, tl, tb, fa, st, rf, sh, pn, pk, ps, im, hB, hM⟩ := id h
  have tl400 := hB.2.1.1
  have k30 := hB.k30
  have okp := fun i hi => hB.okp (i := i) hi
  refine EP.mono (sp_level w hB) ?_
  rintro r w1 (⟨hn, rfl, hB1, hE⟩ | ⟨i, k, j, v, hx, hi, hy, hk, hz, hj, ht, rfl, hv, hB1, hE⟩)
  · have hM1 := hM.ex hE hXY
    refine ag_ofL (mq_level w1 hM1) hM1 ?_
    refine ⟨_, rfl, ?_⟩
    rintro r' w2 (⟨hn', rfl, hB1', hE'⟩ | ⟨i', k', j', v', hx', hi', hy', hk', hz', hj', ht', rfl, hv', hB1', hE'⟩)
    · exact ⟨rfl, h.s hE (by omega) (by omega) hB1 hM1 hB1' hE'⟩
    · rcases hn with g | g
      · exact absurd (rgI hz' (by omega) (by omega)) g
      · exact (noLv_no g hx' hi' hy' hk' ht').elim
  · have hM1 := hM.ex hE hXY
    refine ag_ofL (mq_level w1 hM1) hM1 ?_
    refine ⟨_, rfl, ?_⟩
    rintro r' w2 (⟨hn', rfl, hB1', hE'⟩ | ⟨i', k', j', v', hx', hi', hy', hk', hz', hj', ht', rfl, hv', hB1', hE'⟩)
    · rcases hn' with g | g
      · exact absurd (rgI hz (by omega) (by omega)) g
      · exact (noLv_no g hx hi hy hk ht).elim
    · obtain rfl := nIe hx hx' (by omega) (by omega)
      obtain rfl := nIe hy hy' (by omega) (by omega)
      obtain rfl := nIe hz hz' (by omega) (by omega)
      obtain rfl := t64 hv hv'
      exact ⟨rfl, h.s hE (by omega) (by omega) hB1 hM1 hB1' hE'⟩
theorem ag_low {n : Nat} {w : Wd} {X Y : Nat} (h : Inv n w X Y) {x y : Int32} : EX11_low [.ref X, .int x, .int y] w (fun r w1 => ∃ v : Int32, r = some (.int v) ∧ (∃ fs, w1[Y]? = some (.inr (11, fs))) ∧ EX12_low [.ref Y, .int x, .int y] w1 (fun r' w2 => r' = some (.int v) ∧ Inv (n + 1) w2 X Y)) := by
  obtain ⟨hXY, hn0, hroom, tl, tb, fa, st, rf, sh, pn, pk, ps, im, hB, hM⟩ := id h
  have tl400 := hB.2.1.1
  have k30 := hB.k30
  have okp := fun i hi => hB.okp (i := i) hi
  refine EP.mono (sp_low w hB) ?_
  rintro r w1 (⟨hn, rfl, hB1, hE⟩ | ⟨i, k, t, hx, hi, hy, hk, ht, hl, hb, rfl, hB1, hE⟩)
  · have hM1 := hM.ex hE hXY
    refine ag_of (mq_low w1 hM1) hM1 ?_
    refine ⟨_, rfl, ?_⟩
    rintro r' w2 (⟨hn', rfl, hB1', hE'⟩ | ⟨i', k', t', hx', hi', hy', hk', ht', hl', hb', rfl, hB1', hE'⟩)
    · exact ⟨rfl, h.s hE (by omega) (by omega) hB1 hM1 hB1' hE'⟩
    · exact (noLv_no hn hx' hi' hy' hk' ht').elim
  · have hM1 := hM.ex hE hXY
    refine ag_of (mq_low w1 hM1) hM1 ?_
    refine ⟨_, rfl, ?_⟩
    rintro r' w2 (⟨hn', rfl, hB1', hE'⟩ | ⟨i', k', t', hx', hi', hy', hk', ht', hl', hb', rfl, hB1', hE'⟩)
    · exact (noLv_no hn' hx hi hy hk ht).elim
    · obtain rfl := nIe hx hx' (by omega) (by omega)
      obtain rfl := nIe hy hy' (by omega) (by omega)
      have o9 := okp _ hi
      obtain rfl := lowF_uq o9.1 o9.2.1 hl hl'
      exact ⟨rfl, h.s hE (by omega) (by omega) hB1 hM1 hB1' hE'⟩
theorem ag_high {n : Nat} {w : Wd} {X Y : Nat} (h : Inv n w X Y) {x y : Int32} : EX11_high [.ref X, .int x, .int y] w (fun r w1 => ∃ v : Int32, r = some (.int v) ∧ (∃ fs, w1[Y]? = some (.inr (11, fs))) ∧ EX12_high [.ref Y, .int x, .int y] w1 (fun r' w2 => r' = some (.int v) ∧ Inv (n + 1) w2 X Y)) := by
  obtain ⟨hXY, hn0, hroom, tl, tb, fa, st, rf, sh, pn, pk, ps, im, hB, hM⟩ := id h
  have tl400 := hB.2.1.1
  have k30 := hB.k30
  have okp := fun i hi => hB.okp (i := i) hi
  refine EP.mono (sp_high w hB) ?_
  rintro r w1 (⟨hn, rfl, hB1, hE⟩ | ⟨i, k, t, hx, hi, hy, hk, ht, hl, hb, rfl, hB1, hE⟩)
  · have hM1 := hM.ex hE hXY
    refine ag_of (mq_high w1 hM1) hM1 ?_
    refine ⟨_, rfl, ?_⟩
    rintro r' w2 (⟨hn', rfl, hB1', hE'⟩ | ⟨i', k', t', hx', hi', hy', hk', ht', hl', hb', rfl, hB1', hE'⟩)
    · exact ⟨rfl, h.s hE (by omega) (by omega) hB1 hM1 hB1' hE'⟩
    · exact (noLv_no hn hx' hi' hy' hk' ht').elim
  · have hM1 := hM.ex hE hXY
    refine ag_of (mq_high w1 hM1) hM1 ?_
    refine ⟨_, rfl, ?_⟩
    rintro r' w2 (⟨hn', rfl, hB1', hE'⟩ | ⟨i', k', t', hx', hi', hy', hk', ht', hl', hb', rfl, hB1', hE'⟩)
    · exact (noLv_no hn' hx hi hy hk ht).elim
    · obtain rfl := nIe hx hx' (by omega) (by omega)
      obtain rfl := nIe hy hy' (by omega) (by omega)
      have o9 := okp _ hi
      obtain rfl := highF_uq o9.1 o9.2.1 o9.2.2.1 hl hl'
      exact ⟨rfl, h.s hE (by omega) (by omega) hB1 hM1 hB1' hE'⟩
