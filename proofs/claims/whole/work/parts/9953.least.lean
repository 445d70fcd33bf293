/-! least, where no LOW is above a HIGH of the same polynomial -/
def LHP : Prop := ∀ P : PV, okP P → ∀ k k' a b : Nat, lowF P.2 P.1 k a → highF P.2 P.1 k' b → a ≤ b
theorem hiB_uq {sh : SV} {j t u : Nat} (ok : okP (sh.1 j)) (h1 : hiB sh j t) (h2 : hiB sh j u) : t = u := by
  obtain ⟨T, kb, a1, a2⟩ := h1
  obtain ⟨S, kc, b1, b2⟩ := h2
  obtain rfl := topL_uq a1 b1
  exact (bestHigh_uq ok.1 ok.2.1 ok.2.2.1 a2 b2).2
theorem loB_uq {sh : SV} {j t u : Nat} (ok : okP (sh.1 j)) (h1 : loB sh j t) (h2 : loB sh j u) : t = u := by
  obtain ⟨T, kb, a1, a2⟩ := h1
  obtain ⟨S, kc, b1, b2⟩ := h2
  obtain rfl := topL_uq a1 b1
  exact (bestLow_uq ok.1 ok.2.1 a2 b2).2
theorem lo_hi (LH : LHP) {sh : SV} {j t u : Nat} (ok : okP (sh.1 j)) (h1 : loB sh j t) (h2 : hiB sh j u) : t ≤ u := by
  obtain ⟨T, kb, a1, L, a2, a3, a4, -⟩ := h1
  obtain ⟨S, kc, b1, M, b2, b3, b4, -⟩ := h2
  rw [a4, b4]
  exact LH (sh.1 j) ok kb kc _ _ (a2 kb a3) (b2 kc b3)
theorem le_ag (LH : LHP) {sh : SV} {q : Nat} {v v' : Int32} (ok : ∀ j, j < 8 → okP (sh.1 j)) (h1 : leP sh q v) (h2 : leM sh q v') : v = v' := by
  obtain ⟨H, p, a1, a2, a3, a4, -, a6⟩ := h1
  obtain ⟨Lo, Hi, b1, b2⟩ := h2
  have eH : ∀ j, j < 8 → bitS q j → H j = Hi j := fun j hj hb => hiB_uq (ok j hj) (a1 j hj hb) (b1 j hj hb).2
  have eL : ∀ j l, j < 8 → bitS q j → loB sh j l → l = Lo j := fun j l hj hb hl => loB_uq (ok j hj) hl (b1 j hj hb).1
  have LHp : Lo p ≤ Hi p := lo_hi LH (ok p a2) (b1 p a2 a3).1 (b1 p a2 a3).2
  have Hp := eH p a2 a3
  have only : ∀ u, u < 8 → lsQ Lo Hi q u → u = p := fun u hu hq => by
    by_cases g : u = p
    · exact g
    · have g1 := hq.2 p a2 (fun e => g e.symm) a3
      have g2 := a4 u hu hq.1
      have g3 := eH u hu hq.1
      omega
  rcases a6 with ⟨e1, c1⟩ | ⟨e1, j, l, j1, j2, j3, j4, j5⟩
  · have hp : lsQ Lo Hi q p := ⟨a3, fun j hj hn hb => by
      obtain ⟨l, g1, g2⟩ := c1 j hj hb hn
      rw [← eL j l hj hb g1, ← Hp]
      exact g2⟩
    rcases b2 with ⟨-, f2⟩ | ⟨p', f1, f2, f3, -⟩
    · exact absurd hp (f2 p a2)
    · rw [e1, f1, only p' f2 f3]
  · rcases b2 with ⟨f1, -⟩ | ⟨p', -, f2, f3, -⟩
    · rw [e1, f1]
    · have ep := only p' f2 f3
      subst ep
      have g1 := f3.2 j j1 j3 j2
      have g2 := eL j l j1 j2 j4
      omega
theorem ag_least {n : Nat} {w : Wd} {X Y : Nat} (h : Inv n w X Y) {x : Int32} (LH : LHP) : EX11_least [.ref X, .int x] w (fun r w1 => ∃ v : Int32, r = some (.int v) ∧ (∃ fs, w1[Y]? = some (.inr (11, fs))) ∧ EX12_least [.ref Y, .int x] w1 (fun r' w2 => r' = some (.int v) ∧ Inv (n + 1) w2 X Y)) := by
  obtain ⟨hXY, hn0, hroom, tl, tb, fa, st, rf, sh, pn, pk, ps, im, hB, hM⟩ := id h
  have tl400 := hB.2.1.1
  have k30 := hB.k30
  have okp := fun i hi => hB.okp (i := i) hi
  refine EP.mono (sp_least w hB) ?_
  rintro r w1 (⟨hn, rfl, hB1, hE⟩ | ⟨q, v, hx, h0, hq, rfl, ho, hB1, hE⟩)
  · have hM1 := hM.ex hE hXY
    refine ag_of (mq_least w1 hM1) hM1 ?_
    refine ⟨_, rfl, ?_⟩
    rintro r' w2 (⟨hn', rfl, hB1', hE'⟩ | ⟨q', v', hx', h0', hq', rfl, ho', hB1', hE'⟩)
    · exact ⟨rfl, h.s hE (by omega) (by omega) hB1 hM1 hB1' hE'⟩
    · have e9 := nI_toInt (show q' < 2147483648 by omega)
      rw [← hx'] at e9
      exact absurd ⟨by omega, by omega⟩ hn
  · have hM1 := hM.ex hE hXY
    refine ag_of (mq_least w1 hM1) hM1 ?_
    refine ⟨_, rfl, ?_⟩
    rintro r' w2 (⟨hn', rfl, hB1', hE'⟩ | ⟨q', v', hx', h0', hq', rfl, ho', hB1', hE'⟩)
    · have e9 := nI_toInt (show q < 2147483648 by omega)
      rw [← hx] at e9
      exact absurd ⟨by omega, by omega⟩ hn'
    · obtain rfl := nIe hx hx' (by omega) (by omega)
      obtain rfl := le_ag LH (fun j hj => okp j hj) ho ho'
      exact ⟨rfl, h.s hE (by omega) (by omega) hB1 hM1 hB1' hE'⟩
theorem AGL_of (LH : LHP) : AGL := fun _ _ _ _ h _ => ag_least h LH
