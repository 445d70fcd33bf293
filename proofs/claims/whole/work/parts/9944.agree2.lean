theorem bestLow_uq {F : Nat → Int} {n T kb t kb' t' : Nat} (hn : n ≤ 12) (hF : ∀ j, j ≤ n → -9999 ≤ F j ∧ F j ≤ 9999) (h1 : bestLow F n T kb t) (h2 : bestLow F n T kb' t') : kb = kb' ∧ t = t' := by
  obtain ⟨L, a1, a2, a3, a4, a5⟩ := h1
  obtain ⟨M, b1, b2, b3, b4, b5⟩ := h2
  have E : ∀ j, j ≤ T → L j = M j := fun j hj => lowF_uq hn hF (a1 j hj) (b1 j hj)
  have k1 := E kb a2
  have k2 := E kb' b2
  have g1 := a4 kb' b2
  have g2 := b4 kb a2
  have ek : kb = kb' := by
    rcases Nat.lt_trichotomy kb kb' with g | g | g
    · have := b5 kb g; omega
    · exact g
    · have := a5 kb' g; omega
  subst ek
  exact ⟨rfl, by rw [a3, b3, k1]⟩
theorem bestHigh_uq {F : Nat → Int} {n T kb t kb' t' : Nat} (hn : n ≤ 12) (hF : ∀ j, j ≤ n → -9999 ≤ F j ∧ F j ≤ 9999) (h0 : F n ≠ 0) (h1 : bestHigh F n T kb t) (h2 : bestHigh F n T kb' t') : kb = kb' ∧ t = t' := by
  obtain ⟨L, a1, a2, a3, a4, a5⟩ := h1
  obtain ⟨M, b1, b2, b3, b4, b5⟩ := h2
  have E : ∀ j, j ≤ T → L j = M j := fun j hj => highF_uq hn hF h0 (a1 j hj) (b1 j hj)
  have k1 := E kb a2
  have k2 := E kb' b2
  have g1 := a4 kb' b2
  have g2 := b4 kb a2
  have ek : kb = kb' := by
    rcases Nat.lt_trichotomy kb kb' with g | g | g
    · have := b5 kb g; omega
    · exact g
    · have := a5 kb' g; omega
  subst ek
  exact ⟨rfl, by rw [a3, b3, k1]⟩
theorem ag_compare {n : Nat} {w : Wd} {X Y : Nat} (h : Inv n w X Y) {x y z : Int32} : EX11_compare [.ref X, .int x, .int y, .int z] w (fun r w1 => ∃ v : Int32, r = some (.int v) ∧ (∃ fs, w1[Y]? = some (.inr (11, fs))) ∧ EX12_compare [.ref Y, .int x, .int y, .int z] w1 (fun r' w2 => r' = some (.int v) ∧ Inv (n + 1) w2 X Y)) := by
  obtain ⟨hXY, hn0, hroom, tl, tb, fa, st, rf, sh, pn, pk, ps, im, hB, hM⟩ := id h
  have tl400 := hB.2.1.1
  have k30 := hB.k30
  have okp := fun i hi => hB.okp (i := i) hi
  refine EP.mono (sp_compare w hB) ?_
  rintro r w1 (⟨hn, rfl, hB1, hE⟩ | ⟨i, j, k, T, S, la, ub, lc, ud, v, hx, hi, hy, hj, hz, hk, hT, hS, hla, hub, hlc, hud, rfl, ho, hB1, hE⟩)
  · have hM1 := hM.ex hE hXY
    refine ag_of (mq_compare w1 hM1) hM1 ?_
    refine ⟨_, rfl, ?_⟩
    rintro r' w2 (⟨hn', rfl, hB1', hE'⟩ | ⟨i', j', k', T', S', la', ud', v', hx', hi', hy', hj', hz', hk', hT', hS', hla', hud', rfl, ho', hB1', hE'⟩)
    · exact ⟨rfl, h.s hE (by omega) (by omega) hB1 hM1 hB1' hE'⟩
    · exact absurd ⟨plo hx' hi', plo hy' hj', lvo hz' hk'⟩ hn
  · have hM1 := hM.ex hE hXY
    refine ag_of (mq_compare w1 hM1) hM1 ?_
    refine ⟨_, rfl, ?_⟩
    rintro r' w2 (⟨hn', rfl, hB1', hE'⟩ | ⟨i', j', k', T', S', la', ud', v', hx', hi', hy', hj', hz', hk', hT', hS', hla', hud', rfl, ho', hB1', hE'⟩)
    · exact absurd ⟨plo hx hi, plo hy hj, lvo hz hk⟩ hn'
    · obtain rfl := nIe hx hx' (by omega) (by omega)
      obtain rfl := nIe hy hy' (by omega) (by omega)
      obtain rfl := nIe hz hz' (by omega) (by omega)
      obtain rfl := topL_uq hT hT'
      obtain rfl := topL_uq hS hS'
      have o1 := okp _ hi
      have o2 := okp _ hj
      obtain rfl := lowF_uq o1.1 o1.2.1 hla hla'
      obtain rfl := highF_uq o2.1 o2.2.1 o2.2.2.1 hud hud'
      have ev : v = v' := by
        rcases ho' with ⟨f1, f2⟩ | ⟨f1, ub9, lc9, g1, g2, f2⟩
        · rcases ho with ⟨e1, e2⟩ | ⟨e1, e2, e3⟩ | ⟨e1, e2, e3⟩
          · exact e2.trans f2.symm
          · exact absurd f1 e1
          · exact absurd f1 e1
        · obtain rfl := highF_uq o1.1 o1.2.1 o1.2.2.1 g1 hub
          obtain rfl := lowF_uq o2.1 o2.2.1 g2 hlc
          rcases ho with ⟨e1, e2⟩ | ⟨e1, e2, e3⟩ | ⟨e1, e2, e3⟩ <;> rcases f2 with ⟨f2, f3⟩ | ⟨f2, f3⟩ <;> first | exact absurd e1 f1 | exact e3.trans f3.symm | exact absurd e2 f2 | exact absurd f2 e2
      subst ev
      exact ⟨rfl, h.s hE (by omega) (by omega) hB1 hM1 hB1' hE'⟩
theorem ag_surely {n : Nat} {w : Wd} {X Y : Nat} (h : Inv n w X Y) {x y z : Int32} : EX11_surely [.ref X, .int x, .int y, .int z] w (fun r w1 => ∃ v : Int32, r = some (.int v) ∧ (∃ fs, w1[Y]? = some (.inr (11, fs))) ∧ EX12_surely [.ref Y, .int x, .int y, .int z] w1 (fun r' w2 => r' = some (.int v) ∧ Inv (n + 1) w2 X Y)) := by
  obtain ⟨hXY, hn0, hroom, tl, tb, fa, st, rf, sh, pn, pk, ps, im, hB, hM⟩ := id h
  have tl400 := hB.2.1.1
  have k30 := hB.k30
  have okp := fun i hi => hB.okp (i := i) hi
  refine EP.mono (sp_surely w hB) ?_
  rintro r w1 (⟨hn, rfl, hB1, hE⟩ | ⟨i, k, T, t, u, v, hx, hi, hy, hk, hz, hT, ht, hu, rfl, ho, hB1, hE⟩)
  · have hM1 := hM.ex hE hXY
    refine ag_of (mq_surely w1 hM1) hM1 ?_
    refine ⟨_, rfl, ?_⟩
    rintro r' w2 (⟨hn', rfl, hB1', hE'⟩ | ⟨i', k', m', T', t', v', hx', hi', hy', hk', hz', hm', hT', ht', rfl, ho', hB1', hE'⟩)
    · exact ⟨rfl, h.s hE (by omega) (by omega) hB1 hM1 hB1' hE'⟩
    · exact absurd ⟨plo hx' hi', lvo hy' hk', rgI hz' (by omega) (by omega)⟩ hn
  · have hM1 := hM.ex hE hXY
    refine ag_of (mq_surely w1 hM1) hM1 ?_
    refine ⟨_, rfl, ?_⟩
    rintro r' w2 (⟨hn', rfl, hB1', hE'⟩ | ⟨i', k', m', T', t', v', hx', hi', hy', hk', hz', hm', hT', ht', rfl, ho', hB1', hE'⟩)
    · exact absurd ⟨plo hx hi, lvo hy hk, hz⟩ hn'
    · obtain rfl := nIe hx hx' (by omega) (by omega)
      obtain rfl := nIe hy hy' (by omega) (by omega)
      obtain rfl := topL_uq hT hT'
      have o1 := okp _ hi
      obtain rfl := highF_uq o1.1 o1.2.1 o1.2.2.1 ht ht'
      have zm : z.toInt = (m' : Int) := by rw [hz', nI_toInt (by omega)]
      have ev : v = v' := by
        rcases ho' with ⟨f1, f2⟩ | ⟨f1, u9, g1, f2⟩
        · rcases ho with ⟨e1, e2⟩ | ⟨e1, e2, e3⟩ | ⟨e1, e2, e3⟩
          · exact e2.trans f2.symm
          · omega
          · omega
        · obtain rfl := lowF_uq o1.1 o1.2.1 g1 hu
          rcases ho with ⟨e1, e2⟩ | ⟨e1, e2, e3⟩ | ⟨e1, e2, e3⟩ <;> rcases f2 with ⟨f2, f3⟩ | ⟨f2, f3⟩ <;> first | exact e3.trans f3.symm | (exfalso; omega)
      subst ev
      exact ⟨rfl, h.s hE (by omega) (by omega) hB1 hM1 hB1' hE'⟩
theorem ag_enclosed {n : Nat} {w : Wd} {X Y : Nat} (h : Inv n w X Y) {x y : Int32} : EX11_enclosed [.ref X, .int x, .int y] w (fun r w1 => ∃ v : Int32, r = some (.int v) ∧ (∃ fs, w1[Y]? = some (.inr (11, fs))) ∧ EX12_enclosed [.ref Y, .int x, .int y] w1 (fun r' w2 => r' = some (.int v) ∧ Inv (n + 1) w2 X Y)) := by
  obtain ⟨hXY, hn0, hroom, tl, tb, fa, st, rf, sh, pn, pk, ps, im, hB, hM⟩ := id h
  have tl400 := hB.2.1.1
  have k30 := hB.k30
  have okp := fun i hi => hB.okp (i := i) hi
  refine EP.mono (sp_enclosed w hB) ?_
  rintro r w1 (⟨hn, rfl, hB1, hE⟩ | ⟨i, q, T, kb, t, v, hx, hi, hy, hh, hT, ho, rfl, hv, hB1, hE⟩)
  · have hM1 := hM.ex hE hXY
    refine ag_of (mq_enclosed w1 hM1) hM1 ?_
    refine ⟨_, rfl, ?_⟩
    rintro r' w2 (⟨hn', rfl, hB1', hE'⟩ | ⟨i', q', T', kb', t', v', hx', hi', hy', hh', hT', ho', rfl, hv', hB1', hE'⟩)
    · exact ⟨rfl, h.s hE (by omega) (by omega) hB1 hM1 hB1' hE'⟩
    · exact absurd ⟨plo hx' hi', rgI hy' (by omega) (by omega)⟩ hn
  · have hM1 := hM.ex hE hXY
    refine ag_of (mq_enclosed w1 hM1) hM1 ?_
    refine ⟨_, rfl, ?_⟩
    rintro r' w2 (⟨hn', rfl, hB1', hE'⟩ | ⟨i', q', T', kb', t', v', hx', hi', hy', hh', hT', ho', rfl, hv', hB1', hE'⟩)
    · exact absurd ⟨plo hx hi, rgI hy (by omega) (by omega)⟩ hn'
    · obtain rfl := nIe hx hx' (by omega) (by omega)
      obtain rfl := nIe hy hy' (by omega) (by omega)
      obtain rfl := topL_uq hT hT'
      have o1 := okp _ hi
      have ev : v = v' := by
        rcases ho with ⟨e1, e2⟩ | ⟨e1, e2⟩ <;> rcases ho' with ⟨f1, f2⟩ | ⟨f1, f2⟩
        · obtain ⟨k1, k2⟩ := bestLow_uq o1.1 o1.2.1 e2 f2
          rw [hv, hv', k1, k2]
        · exact absurd e1 f1
        · exact absurd f1 e1
        · obtain ⟨k1, k2⟩ := bestHigh_uq o1.1 o1.2.1 o1.2.2.1 e2 f2
          rw [hv, hv', k1, k2]
      rw [← ev]
      exact ⟨rfl, h.s hE (by omega) (by omega) hB1 hM1 hB1' hE'⟩
