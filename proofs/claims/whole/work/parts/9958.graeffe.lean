/-! halves, and the next level of a Laurent polynomial -/
def isO (d : Int) : Int := if d % 2 = 0 then 0 else 1
def odL (A : LPo) : LPo := mpL (fun d => (d - 1) / 2) isO A
def z1L : LPo := [(1, 1)]
theorem lsu_z1 (g : Int → Int) (B : LPo) : lsu g (mlP z1L B) = lsu (fun b => g (1 + b)) B := by
  rw [lsu_ml]
  show 1 * lsu (fun b => g (1 + b)) B + 0 = _
  omega
theorem lsu_ev (g : Int → Int) (A : LPo) : lsu g (evL A) = lsu (fun d => isE d * g (d / 2)) A := lsu_mp _ _ _ A
theorem lsu_od (g : Int → Int) (A : LPo) : lsu g (odL A) = lsu (fun d => isO d * g ((d - 1) / 2)) A := lsu_mp _ _ _ A
theorem ev_u2 (A : LPo) : alk (evL (u2L A)) A := fun g => by
  rw [lsu_ev, lsu_u2]
  refine lsu_ext (fun d => ?_) A
  have e1 : isE (2 * d) = 1 := if_pos (by omega)
  rw [e1, Int.one_mul, show 2 * d / 2 = d by omega]
theorem halves (A : LPo) : alk A (u2L (evL A) ++ mlP z1L (u2L (odL A))) := fun g => by
  rw [lsu_app, lsu_u2, lsu_ev, lsu_z1, lsu_u2, lsu_od, ← lsu_add]
  refine lsu_ext (fun d => ?_) A
  unfold isE isO
  by_cases h : d % 2 = 0
  · rw [if_pos h, if_pos h, Int.one_mul, Int.zero_mul, show 2 * (d / 2) = d by omega]; omega
  · rw [if_neg h, if_neg h, Int.one_mul, Int.zero_mul, show 1 + 2 * ((d - 1) / 2) = d by omega]; omega
theorem halvesN (A : LPo) : alk (mnL A) (u2L (evL A) ++ ngL (mlP z1L (u2L (odL A)))) := fun g => by
  rw [lsu_app, lsu_ng, lsu_u2, lsu_ev, lsu_z1, lsu_u2, lsu_od, lsu_mn]
  have e1 : -lsu (fun d => isO d * g (1 + 2 * ((d - 1) / 2))) A = lsu (fun d => -1 * (isO d * g (1 + 2 * ((d - 1) / 2)))) A := by rw [lsu_mul]; omega
  rw [e1, ← lsu_add]
  refine lsu_ext (fun d => ?_) A
  unfold isE isO sgE
  by_cases h : d % 2 = 0
  · rw [if_pos h, if_pos h, if_pos h, Int.one_mul, Int.one_mul, Int.zero_mul, show 2 * (d / 2) = d by omega]; omega
  · rw [if_neg h, if_neg h, if_neg h, Int.one_mul, Int.zero_mul, show 1 + 2 * ((d - 1) / 2) = d by omega]; omega
theorem diff_sq (P R : LPo) : alk (mlP (P ++ R) (P ++ ngL R)) (mlP P P ++ ngL (mlP R R)) := fun g => by
  rw [lsu_app, lsu_ng, lsu_ml, lsu_ml, lsu_ml, lsu_app]
  have e : ∀ X : LPo, lsu (fun a => lsu (fun b => g (a + b)) (P ++ ngL R)) X = lsu (fun a => lsu (fun b => g (a + b)) P) X - lsu (fun a => lsu (fun b => g (a + b)) R) X := fun X => by
    have e2 : lsu (fun a => lsu (fun b => g (a + b)) R) X * -1 = lsu (fun a => -1 * lsu (fun b => g (a + b)) R) X := by rw [lsu_mul]; omega
    have e3 : lsu (fun a => lsu (fun b => g (a + b)) (P ++ ngL R)) X = lsu (fun a => lsu (fun b => g (a + b)) P + -1 * lsu (fun b => g (a + b)) R) X := lsu_ext (fun a => by rw [lsu_app, lsu_ng]; omega) X
    rw [e3, lsu_add, ← e2]
    omega
  rw [e P, e R]
  have sw : lsu (fun a => lsu (fun b => g (a + b)) R) P = lsu (fun a => lsu (fun b => g (a + b)) P) R := by
    rw [lsu_swap]
    exact lsu_ext (fun b => lsu_ext (fun a => by rw [Int.add_comm]) P) R
  omega
/-- the next level -/
def Gq (A : LPo) : LPo := mlP (evL A) (evL A) ++ ngL (mlP z1L (mlP (odL A) (odL A)))
theorem u2_ap (A B : LPo) : alk (u2L (A ++ B)) (u2L A ++ u2L B) := fun g => by rw [lsu_u2, lsu_app, lsu_app, lsu_u2, lsu_u2]
theorem u2_ng (A : LPo) : alk (u2L (ngL A)) (ngL (u2L A)) := fun g => by rw [lsu_u2, lsu_ng, lsu_ng, lsu_u2]
theorem alk.ng {A B : LPo} (h : alk A B) : alk (ngL A) (ngL B) := fun g => by rw [lsu_ng, lsu_ng, h]
theorem alk.u2 {A B : LPo} (h : alk A B) : alk (u2L A) (u2L B) := h.mp _ _
theorem alk.ev {A B : LPo} (h : alk A B) : alk (evL A) (evL B) := h.mp _ _
theorem alk.od {A B : LPo} (h : alk A B) : alk (odL A) (odL B) := h.mp _ _
theorem alk.mn {A B : LPo} (h : alk A B) : alk (mnL A) (mnL B) := h.mp _ _
theorem z_z (B : LPo) : alk (mlP (mlP z1L (u2L B)) (mlP z1L (u2L B))) (u2L (mlP z1L (mlP B B))) := fun g => by
  rw [lsu_ml, lsu_z1, lsu_u2, lsu_u2, lsu_z1, lsu_ml]
  refine lsu_ext (fun a => ?_) B
  rw [lsu_z1, lsu_u2]
  exact lsu_ext (fun b => by rw [show 1 + 2 * a + (1 + 2 * b) = 2 * (1 + (a + b)) by omega]) B
theorem Gq_up (A : LPo) : alk (mlP A (mnL A)) (u2L (Gq A)) :=
  (alk.ml (halves A) (halvesN A)).tr ((diff_sq _ _).tr ((alk.ap ((u2_ml _ _).sm) ((z_z (odL A)).ng.tr (u2_ng _).sm)).tr (u2_ap _ _).sm))
theorem Gq_ev (A : LPo) : alk (Gq A) (evL (mlP A (mnL A))) := ((ev_u2 (Gq A)).sm).tr ((Gq_up A).sm.ev)
theorem Gq_cg {A B : LPo} (h : alk A B) : alk (Gq A) (Gq B) := (Gq_ev A).tr (((alk.ml h h.mn).ev).tr (Gq_ev B).sm)
theorem Gq_ml (A B : LPo) : alk (Gq (mlP A B)) (mlP (Gq A) (Gq B)) :=
  (Gq_ev _).tr ((((alk.ml alk.rf (mn_ml A B)).tr ((ml_4 A B (mnL A) (mnL B)).tr ((alk.ml (Gq_up A) (Gq_up B)).tr (u2_ml _ _).sm))).ev).tr (ev_u2 _))
theorem Gq_st (A : LPo) : alk (Gq (stL A)) (stL (Gq A)) :=
  (Gq_ev _).tr ((((alk.ml alk.rf (mn_st A)).tr ((st_ml A (mnL A)).sm.tr (((Gq_up A).st).tr (u2_st _).sm))).ev).tr (ev_u2 _))
/-- for what is its own mirror, half by half -/
theorem od_st {A : LPo} (h : alk A (stL A)) : alk (stL (odL A)) (mlP z1L (odL A)) := fun g => by
  rw [lsu_st, lsu_od, lsu_z1, lsu_od, h, lsu_st]
  refine lsu_ext (fun d => ?_) A
  unfold isO
  by_cases k : d % 2 = 0
  · rw [if_pos k, if_pos (by omega), Int.zero_mul, Int.zero_mul]
  · rw [if_neg k, if_neg (by omega), Int.one_mul, Int.one_mul, show -((-d - 1) / 2) = 1 + (d - 1) / 2 by omega]
theorem ev_st {A : LPo} (h : alk A (stL A)) : alk (evL A) (stL (evL A)) := fun g => by
  rw [lsu_st, lsu_ev, lsu_ev, h, lsu_st]
  refine lsu_ext (fun d => ?_) A
  unfold isE
  by_cases k : d % 2 = 0
  · rw [if_pos k, if_pos (by omega), show -d / 2 = -(d / 2) by omega]
  · rw [if_neg k, if_neg (by omega), Int.zero_mul, Int.zero_mul]
def ddL (A : LPo) : LPo := mlP (odL A) (stL (odL A))
theorem ev_sq {A : LPo} (h : alk A (stL A)) : alk (mlP (evL A) (evL A)) (Gq A ++ ddL A) := fun g => by
  have e : alk (ddL A) (mlP z1L (mlP (odL A) (odL A))) := (alk.ml alk.rf (od_st h)).tr ((ml_com _ _).tr (ml_ass z1L (odL A) (odL A)))
  unfold Gq
  rw [lsu_app, lsu_app, lsu_ng, e]
  omega
/-- sums of squares -/
def sosL : List LPo → LPo
  | [] => []
  | g :: gs => mlP g (stL g) ++ sosL gs
theorem ev_gg (g : LPo) : alk (evL (mlP g (stL g))) (mlP (evL g) (stL (evL g)) ++ mlP (odL g) (stL (odL g))) := fun F => by
  rw [lsu_ev, lsu_ml, lsu_app, lsu_ml, lsu_ml, lsu_ev, lsu_od, ← lsu_add]
  refine lsu_ext (fun a => ?_) g
  rw [lsu_st, lsu_st, lsu_st, lsu_ev, lsu_od, ← lsu_mul, ← lsu_mul, ← lsu_add]
  refine lsu_ext (fun b => ?_) g
  unfold isE isO
  by_cases h : a % 2 = 0 <;> by_cases k : b % 2 = 0
  · rw [if_pos h, if_pos k, if_pos h, if_pos k, if_pos (by omega), Int.one_mul, Int.one_mul, Int.one_mul, Int.zero_mul, show (a + -b) / 2 = a / 2 + -(b / 2) by omega]; omega
  · rw [if_pos h, if_neg k, if_pos h, if_neg k, if_neg (by omega)]; simp
  · rw [if_neg h, if_pos k, if_neg h, if_pos k, if_neg (by omega)]; simp
  · rw [if_neg h, if_neg k, if_neg h, if_neg k, if_pos (by omega), Int.one_mul, Int.one_mul, Int.one_mul, Int.zero_mul, show (a + -b) / 2 = (a - 1) / 2 + -((b - 1) / 2) by omega]; omega
theorem ev_sos : ∀ gs : List LPo, ∃ hs : List LPo, alk (evL (sosL gs)) (sosL hs)
  | [] => ⟨[], alk.rf⟩
  | g :: gs => by
    obtain ⟨hs, h⟩ := ev_sos gs
    refine ⟨evL g :: odL g :: hs, fun F => ?_⟩
    show lsu F (evL (mlP g (stL g) ++ sosL gs)) = lsu F (mlP (evL g) (stL (evL g)) ++ (mlP (odL g) (stL (odL g)) ++ sosL hs))
    have e1 := ev_gg g F
    have e2 := h F
    rw [lsu_app] at e1
    rw [lsu_app, lsu_app, lsu_ev, lsu_app, ← lsu_ev, ← lsu_ev]
    omega
theorem psd_nil : psd [] := fun v => Int.le_refl _
theorem psd.sos {K : LPo} (hK : psd K) : ∀ gs : List LPo, psd (mlP (sosL gs) K)
  | [] => psd_nil
  | g :: gs => psd.cg (ml_addl (mlP g (stL g)) (sosL gs) K).sm (((hK.sq g).cg (ml_com _ _)).ap (psd.sos hK gs))
theorem sos_psd (gs : List LPo) : psd (sosL gs) := psd.cg ((ml_com _ _).tr (ml_one _)) (psd_un.sos gs)
theorem Gq_psd {h : LPo} {gs : List LPo} (e : alk h (sosL gs)) : psd (Gq h) :=
  psd.cg (Gq_ev h).sm (psd.ev (psd.cg (alk.ml e.sm alk.rf) (((psd.cg e.sm (sos_psd gs)).mn).sos gs)))
