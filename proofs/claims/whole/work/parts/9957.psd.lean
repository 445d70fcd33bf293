/-! what keeps a form from being negative -/
theorem alk.rf {A : LPo} : alk A A := fun _ => rfl
theorem alk.sm {A B : LPo} (h : alk A B) : alk B A := fun g => (h g).symm
theorem alk.tr {A B C : LPo} (h : alk A B) (h2 : alk B C) : alk A C := fun g => (h g).trans (h2 g)
theorem alk.ap {A A' B B' : LPo} (h1 : alk A A') (h2 : alk B B') : alk (A ++ B) (A' ++ B') := fun g => by rw [lsu_app, lsu_app, h1, h2]
theorem alk.st {A B : LPo} (h : alk A B) : alk (stL A) (stL B) := fun g => by rw [lsu_st, lsu_st, h]
theorem alk.ct {A B : LPo} (h : alk A B) : CT A = CT B := h _
def mpL (p s : Int → Int) (A : LPo) : LPo := A.map (fun x => (p x.1, s x.1 * x.2))
theorem lsu_mp (p s g : Int → Int) : ∀ A : LPo, lsu g (mpL p s A) = lsu (fun d => s d * g (p d)) A
  | [] => rfl
  | x :: A => by
    show s x.1 * x.2 * g (p x.1) + lsu g (mpL p s A) = x.2 * (s x.1 * g (p x.1)) + lsu (fun d => s d * g (p d)) A
    rw [lsu_mp p s g A, Int.mul_comm (s x.1) x.2, Int.mul_assoc]
theorem alk.mp {A B : LPo} (h : alk A B) (p s : Int → Int) : alk (mpL p s A) (mpL p s B) := fun g => by rw [lsu_mp, lsu_mp, h]
def isE (d : Int) : Int := if d % 2 = 0 then 1 else 0
def sgE (d : Int) : Int := if d % 2 = 0 then 1 else -1
def evL (A : LPo) : LPo := mpL (fun d => d / 2) isE A
def mnL (A : LPo) : LPo := mpL (fun d => d) sgE A
def u2L (A : LPo) : LPo := mpL (fun d => 2 * d) (fun _ => 1) A
theorem lsu_u2 (g : Int → Int) (A : LPo) : lsu g (u2L A) = lsu (fun d => g (2 * d)) A := by
  unfold u2L
  rw [lsu_mp]
  exact lsu_ext (fun d => Int.one_mul _) A
theorem u2_ml (A B : LPo) : alk (u2L (mlP A B)) (mlP (u2L A) (u2L B)) := fun g => by
  rw [lsu_u2, lsu_ml, lsu_ml, lsu_u2]
  refine lsu_ext (fun a => ?_) A
  rw [lsu_u2]
  exact lsu_ext (fun b => by rw [Int.mul_add]) B
theorem u2_st (A : LPo) : alk (u2L (stL A)) (stL (u2L A)) := fun g => by
  rw [lsu_u2, lsu_st, lsu_st, lsu_u2]
  exact lsu_ext (fun a => by rw [Int.mul_neg]) A
theorem ev_ct (K u : LPo) : CT (mlP (evL K) u) = CT (mlP K (u2L u)) := by
  unfold CT evL
  rw [lsu_ml, lsu_ml, lsu_mp]
  refine lsu_ext (fun d => ?_) K
  rw [lsu_u2, ← lsu_mul]
  refine lsu_ext (fun b => ?_) u
  unfold isE dlt
  by_cases h : d % 2 = 0
  · rw [if_pos h, Int.one_mul]
    by_cases h2 : d / 2 + b = 0
    · rw [if_pos h2, if_pos (by omega)]
    · rw [if_neg h2, if_neg (by omega)]
  · rw [if_neg h, Int.zero_mul, if_neg (by omega)]
theorem sgE_add (a b : Int) : sgE (a + b) = sgE a * sgE b := by
  unfold sgE
  by_cases h : a % 2 = 0 <;> by_cases h2 : b % 2 = 0
  · rw [if_pos h, if_pos h2, if_pos (by omega)]; rfl
  · rw [if_pos h, if_neg h2, if_neg (by omega)]; rfl
  · rw [if_neg h, if_pos h2, if_neg (by omega)]; rfl
  · rw [if_neg h, if_neg h2, if_pos (by omega)]; rfl
theorem sgE_ng (a : Int) : sgE (-a) = sgE a := by
  unfold sgE
  by_cases h : a % 2 = 0
  · rw [if_pos h, if_pos (by omega)]
  · rw [if_neg h, if_neg (by omega)]
theorem sgE_sq (a : Int) : sgE a * sgE a = 1 := by
  unfold sgE
  by_cases h : a % 2 = 0
  · rw [if_pos h]; rfl
  · rw [if_neg h]; rfl
theorem lsu_mn (g : Int → Int) (A : LPo) : lsu g (mnL A) = lsu (fun d => sgE d * g d) A := lsu_mp _ _ _ A
theorem mn_ml (A B : LPo) : alk (mnL (mlP A B)) (mlP (mnL A) (mnL B)) := fun g => by
  rw [lsu_mn, lsu_ml, lsu_ml, lsu_mn]
  refine lsu_ext (fun a => ?_) A
  rw [lsu_mn, ← lsu_mul]
  exact lsu_ext (fun b => by rw [sgE_add, Int.mul_assoc]) B
theorem mn_mn (A : LPo) : alk (mnL (mnL A)) A := fun g => by
  rw [lsu_mn, lsu_mn]
  exact lsu_ext (fun d => by rw [← Int.mul_assoc, sgE_sq, Int.one_mul]) A
theorem mn_st (A : LPo) : alk (mnL (stL A)) (stL (mnL A)) := fun g => by
  rw [lsu_mn, lsu_st, lsu_st, lsu_mn]
  exact lsu_ext (fun d => by rw [sgE_ng]) A
theorem mn_ct (A : LPo) : CT (mnL A) = CT A := by
  unfold CT
  rw [lsu_mn]
  refine lsu_ext (fun d => ?_) A
  unfold dlt
  by_cases h : d = 0
  · rw [if_pos h, h]; rfl
  · rw [if_neg h, Int.mul_zero]
theorem psd.cg {A B : LPo} (h : alk A B) (hA : psd A) : psd B := fun v => by
  rw [← (alk.ml h (alk.rf (A := mlP v (stL v)))).ct]
  exact hA v
theorem psd.ap {A B : LPo} (hA : psd A) (hB : psd B) : psd (A ++ B) := fun v => by
  rw [(ml_addl A B (mlP v (stL v))).ct]
  unfold CT
  rw [lsu_app]
  exact Int.add_nonneg (hA v) (hB v)
theorem psd.ev {A : LPo} (hA : psd A) : psd (evL A) := fun v => by
  rw [ev_ct, (alk.ml (alk.rf (A := A)) ((u2_ml v (stL v)).tr (alk.ml alk.rf (u2_st v)))).ct]
  exact hA (u2L v)
theorem psd.mn {A : LPo} (hA : psd A) : psd (mnL A) := fun v => by
  rw [← mn_ct, ((mn_ml (mnL A) (mlP v (stL v))).tr (alk.ml (mn_mn A) ((mn_ml v (stL v)).tr (alk.ml alk.rf (mn_st v))))).ct]
  exact hA (mnL v)
theorem ml_4 (a b c d : LPo) : alk (mlP (mlP a b) (mlP c d)) (mlP (mlP a c) (mlP b d)) :=
  (ml_ass a b (mlP c d)).tr ((alk.ml alk.rf (((ml_ass b c d).sm).tr ((alk.ml (ml_com b c) alk.rf).tr (ml_ass c b d)))).tr (ml_ass a c (mlP b d)).sm)
/-- a square times such a form -/
theorem psd.sq {A : LPo} (hA : psd A) (g : LPo) : psd (mlP A (mlP g (stL g))) := fun v => by
  have h := hA (mlP g v)
  rw [← (((ml_ass A (mlP g (stL g)) (mlP v (stL v))).tr (alk.ml alk.rf ((ml_4 g (stL g) v (stL v)).tr (alk.ml alk.rf (st_ml g v).sm))))).ct] at h
  exact h
theorem cf_fl (A : LPo) (e d : Int) : cf (A.filter (fun x => decide (x.1 ≠ e))) d = if d = e then 0 else cf A d := by
  have h := lsu_cut (dlt d) e A
  show lsu (dlt d) _ = _
  have h2 : cf A d = lsu (dlt d) A := rfl
  unfold dlt at h
  by_cases g : d = e
  · rw [if_pos g]
    rw [if_pos g.symm, Int.mul_one] at h
    have h3 : cf A e = lsu (fun x => if x = d then 1 else 0) A := by rw [g]; rfl
    show lsu (fun x => if x = d then 1 else 0) _ = 0
    omega
  · rw [if_neg g]
    rw [if_neg (fun x => g x.symm), Int.mul_zero, Int.zero_add] at h
    show lsu (fun x => if x = d then 1 else 0) _ = lsu (fun x => if x = d then 1 else 0) A
    exact h.symm
theorem lsu_fl (g h : Int → Int) (e : Int) (hg : ∀ d, d ≠ e → g d = h d) : ∀ A : LPo, lsu g (A.filter (fun x => decide (x.1 ≠ e))) = lsu h (A.filter (fun x => decide (x.1 ≠ e)))
  | [] => rfl
  | x :: A => by
    by_cases k : x.1 = e
    · rw [List.filter_cons_of_neg (by simp [k])]
      exact lsu_fl g h e hg A
    · rw [List.filter_cons_of_pos (by simp [k])]
      show x.2 * g x.1 + lsu g _ = x.2 * h x.1 + lsu h _
      rw [hg _ k, lsu_fl g h e hg A]
theorem sq_sum : ∀ (m : Nat) (A : LPo), A.length ≤ m → 0 ≤ lsu (cf A) A
  | _, [], _ => Int.le_refl _
  | 0, x :: A, h => by simp at h
  | m + 1, x :: A, h => by
    rw [lsu_cut (cf (x :: A)) x.1 (x :: A)]
    refine Int.add_nonneg (sq_nn9 _) ?_
    rw [lsu_fl (cf (x :: A)) (cf ((x :: A).filter (fun y => decide (y.1 ≠ x.1)))) x.1 (fun d hd => by rw [cf_fl, if_neg hd])]
    refine sq_sum m _ ?_
    rw [List.filter_cons_of_neg (by simp)]
    have h1 := List.length_filter_le (fun y => decide (y.1 ≠ x.1)) A
    have h2 : A.length + 1 ≤ m + 1 := h
    omega
theorem CT_sq (A : LPo) : CT (mlP A (stL A)) = lsu (cf A) A := by
  unfold CT
  rw [lsu_ml]
  refine lsu_ext (fun a => ?_) A
  rw [lsu_st]
  unfold cf
  refine lsu_ext (fun b => ?_) A
  unfold dlt
  by_cases h : b = a
  · rw [if_pos h, if_pos (by omega)]
  · rw [if_neg h, if_neg (by omega)]
theorem psd_un : psd unL := fun v => by
  rw [(ml_one _).ct, CT_sq]
  exact sq_sum v.length v (Nat.le_refl _)
theorem psd_sq (g : LPo) : psd (mlP g (stL g)) := psd.cg (ml_one _) (psd_un.sq g)
