/-! the chain: four levels up against the sixteenth power -/
def p2L (A : LPo) : LPo := mlP A A
def pwL : Nat → LPo → LPo
  | 0, A => A
  | t + 1, A => p2L (pwL t A)
def leL (A B : LPo) : Prop := ∃ K, psd K ∧ alk B (A ++ K)
theorem ap_ass (A B C : LPo) : alk (A ++ B ++ C) (A ++ (B ++ C)) := fun g => by rw [List.append_assoc]
theorem leL.tr {A B C : LPo} (h1 : leL A B) (h2 : leL B C) : leL A C := by
  obtain ⟨K, k1, k2⟩ := h1
  obtain ⟨M, m1, m2⟩ := h2
  exact ⟨K ++ M, k1.ap m1, m2.tr ((k2.ap alk.rf).tr (ap_ass A K M))⟩
theorem leL.cg {A A' B B' : LPo} (h : leL A B) (e1 : alk A A') (e2 : alk B B') : leL A' B' := by
  obtain ⟨K, k1, k2⟩ := h
  exact ⟨K, k1, e2.sm.tr (k2.tr (e1.ap alk.rf))⟩
theorem psd.ct {K : LPo} (h : psd K) : 0 ≤ CT K := by
  have h1 := h unL
  have e : alk (mlP K (mlP unL (stL unL))) K := (alk.ml alk.rf ((ml_one _).tr (fun g => rfl))).tr ((ml_com K unL).tr (ml_one K))
  rw [e.ct] at h1
  exact h1
theorem leL.ct {A B : LPo} (h : leL A B) : CT A ≤ CT B := by
  obtain ⟨K, k1, k2⟩ := h
  have h1 := k1.ct
  have h2 := k2.ct
  unfold CT at h1 h2 ⊢
  rw [lsu_app] at h2
  omega
theorem st_stL (A : LPo) : alk (stL (stL A)) A := fun g => by
  rw [lsu_st, lsu_st]
  exact lsu_ext (fun d => by rw [Int.neg_neg]) A
abbrev symL (A : LPo) : Prop := alk A (stL A)
theorem symL.ml {A B : LPo} (h1 : symL A) (h2 : symL B) : symL (mlP A B) := (alk.ml h1 h2).tr (st_ml A B).sm
theorem symL.pw {A : LPo} (h : symL A) : ∀ t, symL (pwL t A)
  | 0 => h
  | t + 1 => (symL.pw h t).ml (symL.pw h t)
theorem symL.gq {A : LPo} (h : symL A) : symL (Gq A) := (Gq_cg h).tr (Gq_st A)
theorem p2_sq {A : LPo} (h : symL A) : alk (p2L A) (mlP A (stL A)) := alk.ml alk.rf h
theorem alk.p2 {A B : LPo} (h : alk A B) : alk (p2L A) (p2L B) := alk.ml h h
theorem alk.pw {A B : LPo} (h : alk A B) : ∀ t, alk (pwL t A) (pwL t B)
  | 0 => h
  | t + 1 => (alk.pw h t).p2
theorem pw_p2 (A : LPo) : ∀ t, pwL t (p2L A) = pwL (t + 1) A
  | 0 => rfl
  | t + 1 => congrArg p2L (pw_p2 A t)
theorem Gq_pw (A : LPo) : ∀ t, alk (Gq (pwL t A)) (pwL t (Gq A))
  | 0 => alk.rf
  | t + 1 => (Gq_ml _ _).tr (Gq_pw A t).p2
theorem sqL_le {X Y K : LPo} (h : alk Y (X ++ K)) (h1 : psd (mlP X K)) (h2 : psd (mlP K Y)) : ∃ K', psd K' ∧ alk (p2L Y) (p2L X ++ K') :=
  ⟨mlP X K ++ mlP K Y, h1.ap h2, (alk.ml h alk.rf).tr ((ml_addl X K Y).tr ((((alk.ml alk.rf h).tr (ml_addr X X K)).ap alk.rf).tr (ap_ass _ _ _)))⟩
theorem pw_le {x y c h g : LPo} (hx : psd x) (sx : symL x) (sh : symL h) (ey : alk y (p2L h)) (ec : alk c (mlP g (stL g))) (e : alk y (x ++ c)) : ∀ t, ∃ k, psd k ∧ alk (pwL (t + 1) y) (pwL (t + 1) x ++ k)
  | 0 => sqL_le e (psd.cg (alk.ml alk.rf ec.sm) (hx.sq g)) (psd.cg (alk.ml ec.sm (ey.sm)) (psd.cg (alk.ml alk.rf (p2_sq sh).sm) ((psd_sq g).sq h)))
  | t + 1 => by
    obtain ⟨k, k1, k2⟩ := pw_le hx sx sh ey ec e t
    have sy : symL y := ey.tr ((sh.ml sh).tr (alk.st ey.sm))
    exact sqL_le k2 (psd.cg ((ml_com _ _).tr (alk.ml (p2_sq (sx.pw t)).sm alk.rf)) (k1.sq (pwL t x))) (psd.cg (alk.ml alk.rf (p2_sq (sy.pw t)).sm) (k1.sq (pwL t y)))
theorem ev_ap (A B : LPo) : alk (evL (A ++ B)) (evL A ++ evL B) := fun g => by rw [lsu_ev, lsu_app, lsu_app, lsu_ev, lsu_ev]
theorem mn_ap (A B : LPo) : alk (mnL (A ++ B)) (mnL A ++ mnL B) := fun g => by rw [lsu_mn, lsu_app, lsu_app, lsu_mn, lsu_mn]
theorem G_step {r b k : LPo} (hb : symL b) (hk : psd k) (e : alk (p2L b) (mlP r (stL r) ++ k)) : leL (mlP (Gq r) (stL (Gq r))) (p2L (Gq b)) := by
  have e1 : alk (mlP (p2L b) (mnL (p2L b))) (mlP (mlP r (stL r)) (mnL (mlP r (stL r))) ++ (mlP (mlP r (stL r)) (mnL k) ++ mlP k (mnL (p2L b)))) :=
    (alk.ml e alk.rf).tr ((ml_addl _ k _).tr ((((alk.ml alk.rf (e.mn.tr (mn_ap _ k))).tr (ml_addr _ _ _)).ap alk.rf).tr (ap_ass _ _ _)))
  have p1 : psd (mlP (mlP r (stL r)) (mnL k)) := psd.cg (ml_com _ _) (hk.mn.sq r)
  have e2 : alk (mnL (p2L b)) (mlP (mnL b) (stL (mnL b))) := (mn_ml b b).tr (alk.ml alk.rf (hb.mn.tr (mn_st b)))
  have pp : psd (mlP k (mnL (p2L b))) := psd.cg (alk.ml alk.rf e2.sm) (hk.sq (mnL b))
  have e3 : alk (Gq (mlP r (stL r))) (mlP (Gq r) (stL (Gq r))) := (Gq_ml _ _).tr (alk.ml alk.rf (Gq_st r))
  refine ⟨evL (mlP (mlP r (stL r)) (mnL k) ++ mlP k (mnL (p2L b))), (p1.ap pp).ev, ?_⟩
  exact (Gq_ml b b).sm.tr ((Gq_ev _).tr (e1.ev.tr ((ev_ap _ _).tr (((Gq_ev _).sm.tr e3).ap alk.rf))))
def hLv (f : LPo) : Nat → LPo
  | 0 => f
  | r + 1 => evL (hLv f r)
def qLv (Q : LPo) : Nat → LPo
  | 0 => Q
  | r + 1 => Gq (qLv Q r)
theorem hLv_sym {f : LPo} (h : symL f) : ∀ r, symL (hLv f r)
  | 0 => h
  | r + 1 => ev_st (hLv_sym h r)
theorem hLv_sos {f : LPo} {gs : List LPo} (h : alk f (sosL gs)) : ∀ r, ∃ hs, alk (hLv f r) (sosL hs)
  | 0 => ⟨gs, h⟩
  | r + 1 => by
    obtain ⟨hs, h1⟩ := hLv_sos h r
    obtain ⟨ks, h2⟩ := ev_sos hs
    exact ⟨ks, h1.ev.tr h2⟩
theorem chain (Q : LPo) : ∀ r, leL (mlP (qLv Q (r + 1)) (stL (qLv Q (r + 1)))) (pwL (r + 1) (hLv (mlP Q (stL Q)) (r + 1)))
  | 0 => by
    have sf : symL (mlP Q (stL Q)) := ((ml_com _ _).tr (alk.ml alk.rf (st_stL Q).sm)).tr (st_ml _ _).sm
    have e3 : alk (Gq (mlP Q (stL Q))) (mlP (Gq Q) (stL (Gq Q))) := (Gq_ml _ _).tr (alk.ml alk.rf (Gq_st Q))
    exact ⟨ddL (mlP Q (stL Q)), psd_sq _, (ev_sq sf).tr (e3.ap alk.rf)⟩
  | r + 1 => by
    have sf : symL (mlP Q (stL Q)) := ((ml_com _ _).tr (alk.ml alk.rf (st_stL Q).sm)).tr (st_ml _ _).sm
    obtain ⟨k, k1, k2⟩ := chain Q r
    have sh := hLv_sym sf (r + 1)
    obtain ⟨gs, hs⟩ := hLv_sos (f := mlP Q (stL Q)) (gs := [Q]) (fun g => by show _ = lsu g (mlP Q (stL Q) ++ []); rw [List.append_nil]) (r + 1)
    have s1 := G_step (b := pwL r (hLv (mlP Q (stL Q)) (r + 1))) (sh.pw r) k1 k2
    have s2 := s1.cg alk.rf ((Gq_pw (hLv (mlP Q (stL Q)) (r + 1)) r).p2)
    obtain ⟨m, m1, m2⟩ := pw_le (x := Gq (hLv (mlP Q (stL Q)) (r + 1))) (y := p2L (hLv (mlP Q (stL Q)) (r + 2))) (Gq_psd hs) sh.gq (hLv_sym sf (r + 2)) alk.rf alk.rf (ev_sq sh) r
    rw [pw_p2] at m2
    exact s2.tr ⟨m, m1, m2⟩
