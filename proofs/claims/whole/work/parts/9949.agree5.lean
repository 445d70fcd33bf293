theorem ag_search {n : Nat} {w : Wd} {X Y : Nat} (h : Inv n w X Y) {x y z u : Int32} : EX11_search [.ref X, .int x, .int y, .int z, .int u] w (fun r w1 => ∃ v : Int32, r = some (.int v) ∧ (∃ fs, w1[Y]? = some (.inr (11, fs))) ∧ EX12_search [.ref Y, .int x, .int y, .int z, .int u] w1 (fun r' w2 => r' = some (.int v) ∧ Inv (n + 1) w2 X Y)) := by
  obtain ⟨hXY, hn0, hroom, tl, tb, fa, st, rf, sh, pn, pk, ps, im, hB, hM⟩ := id h
  have tl400 := hB.2.1.1
  have k30 := hB.k30
  have okp := fun i hi => hB.okp (i := i) hi
  refine EP.mono (sp_search2 w hB) ?_
  rintro r w1 (⟨hn, hP⟩ | ⟨d, g9, lv, v, hx, hy, hz, hu, hok, hb, hbig, hP⟩ | ⟨d, g9, lv, v, sz, ia, on, E, hx, hy, hz, hu, hok, hb, hsz, hs, hS, rfl, hB1, hE⟩)
  · have hM1 := hM.ex hP.2.2 hXY
    refine ag_of (mq_search2 w1 hM1) hM1 ?_
    obtain ⟨rr, K⟩ := rf_ag h hM1 hP
    refine ⟨_, rr, ?_⟩
    rintro r' w2 (⟨hn', hP'⟩ | ⟨d', g9', lv', v', hx', hy', hz', hu', hok', hb', hbig', hP'⟩ | ⟨d', g9', lv', v', sz', ia', on', E', hx', hy', hz', hu', hok', hb', hsz', hs', hS', rfl, hB1', hE'⟩)
    · exact K _ _ hP'
    · exact absurd hok' hn
    · exact absurd hok' hn
  · have hM1 := hM.ex hP.2.2 hXY
    refine ag_of (mq_search2 w1 hM1) hM1 ?_
    obtain ⟨rr, K⟩ := rf_ag h hM1 hP
    refine ⟨_, rr, ?_⟩
    rintro r' w2 (⟨hn', hP'⟩ | ⟨d', g9', lv', v', hx', hy', hz', hu', hok', hb', hbig', hP'⟩ | ⟨d', g9', lv', v', sz', ia', on', E', hx', hy', hz', hu', hok', hb', hsz', hs', hS', rfl, hB1', hE'⟩)
    · exact absurd hok hn'
    · exact K _ _ hP'
    · obtain rfl := nIe hx hx' (by omega) (by omega)
      obtain rfl := nIe hy hy' (by omega) (by omega)
      rw [hsz'] at hbig
      exact absurd hbig (by omega)
  · have hM1 := hM.ex hE hXY
    refine ag_of (mq_search2 w1 hM1) hM1 ?_
    refine ⟨_, rfl, ?_⟩
    rintro r' w2 (⟨hn', hP'⟩ | ⟨d', g9', lv', v', hx', hy', hz', hu', hok', hb', hbig', hP'⟩ | ⟨d', g9', lv', v', sz', ia', on', E', hx', hy', hz', hu', hok', hb', hsz', hs', hS', rfl, hB1', hE'⟩)
    · exact absurd hok hn'
    · obtain rfl := nIe hx' hx (by omega) (by omega)
      obtain rfl := nIe hy' hy (by omega) (by omega)
      rw [hsz] at hbig'
      exact absurd hbig' (by omega)
    · obtain rfl := nIe hx hx' (by omega) (by omega)
      obtain rfl := nIe hy hy' (by omega) (by omega)
      obtain rfl := nIe hz hz' (by omega) (by omega)
      obtain rfl := nIe hu hu' (by omega) (by omega)
      have es := hsz.symm.trans hsz'
      subst es
      obtain ⟨e1, e2, e3⟩ := sr_ag hb.1 hb.2.1 _ _ _ _ _ _ _ hS hS'
      subst e1
      subst e2
      have hB1' := hB1'.ent (fun j hj => (e3 j hj).symm)
      exact ⟨rfl, h.s hE (by omega) (by omega) hB1 hM1 hB1' hE'⟩
