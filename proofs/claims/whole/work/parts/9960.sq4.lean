/-! rows as Laurent polynomials; SQ4 -/
def toL (q : Nat → Int) : Nat → LPo
  | 0 => []
  | m + 1 => toL q m ++ [((m : Int), q m)]
theorem lsu_to (q : Nat → Int) (g : Int → Int) : ∀ m, lsu g (toL q m) = sgm (fun j => q j * g j) m
  | 0 => rfl
  | m + 1 => by
    show lsu g (toL q m ++ [((m : Int), q m)]) = sgm (fun j => q j * g j) m + q m * g m
    rw [lsu_app, lsu_to q g m]
    show _ + (q m * g m + 0) = _
    omega
def scL (s : Int) (A : LPo) : LPo := mpL (fun d => d) (fun _ => s) A
theorem lsu_sc (s : Int) (g : Int → Int) (A : LPo) : lsu g (scL s A) = s * lsu g A := by
  unfold scL
  rw [lsu_mp, lsu_mul]
theorem sgm_swap (F : Nat → Nat → Int) (N : Nat) : ∀ M, sgm (fun a => sgm (fun b => F a b) N) M = sgm (fun b => sgm (fun a => F a b) M) N
  | 0 => (sgm_z (fun _ _ => rfl)).symm
  | M + 1 => by
    show sgm (fun a => sgm (fun b => F a b) N) M + sgm (fun b => F M b) N = sgm (fun b => sgm (fun a => F a b) M + F M b) N
    rw [sgm_swap F N M, sgm_add]
theorem Gq_sc {s : Int} (hs : s * s = 1) (A : LPo) : alk (Gq (scL s A)) (Gq A) := fun g => by
  rw [Gq_ev, Gq_ev A, lsu_ev, lsu_ev, lsu_ml, lsu_ml, lsu_sc, ← lsu_mul]
  refine lsu_ext (fun a => ?_) A
  rw [lsu_mn, lsu_mn, lsu_sc, ← Int.mul_assoc, hs, Int.one_mul]
theorem Gq_to (q : Nat → Int) (n : Nat) : alk (Gq (toL q (n + 1))) (scL (sgE n) (toL (gco q n) (n + 1))) := fun g => by
  rw [Gq_ev, lsu_ev, lsu_ml, lsu_to, lsu_sc, lsu_to, ← sgm_mul]
  have e1 : ∀ k, k < n + 1 → sgE n * (gco q n k * g k) = sgm (fun a => sgm (fun b => sgE n * (q a * ((if a + b = 2 * k then (if (b + n) % 2 = 0 then 1 else -1) else 0) * q b) * g k)) (n + 1)) (n + 1) := fun k hk => by
    rw [gco_qf (by omega)]
    unfold gM
    rw [qf_ls, Int.mul_comm _ (g k), ← sgm_mul, ← sgm_mul]
    refine sgm_ext (fun a _ => ?_)
    rw [ln_ls, ← sgm_mul, ← sgm_mul, ← sgm_mul]
    exact sgm_ext (fun b _ => by rw [Int.mul_comm (g k)])
  rw [sgm_ext e1, sgm_swap]
  refine sgm_ext (fun a ha => ?_)
  rw [sgm_swap, lsu_mn, lsu_to, ← sgm_mul]
  refine sgm_ext (fun b hb => ?_)
  by_cases h : (a + b) % 2 = 0
  · rw [sgm_pick (j := (a + b) / 2) (by omega) (fun k hk hn => by rw [if_neg (by omega)]; simp), if_pos (by omega)]
    have e2 : isE ((a : Int) + b) = 1 := if_pos (by omega)
    have e3 : ((a : Int) + b) / 2 = (((a + b) / 2 : Nat) : Int) := by omega
    rw [e2, e3, Int.one_mul]
    have e4 : sgE n * (if (b + n) % 2 = 0 then 1 else -1) = sgE b := by
      unfold sgE
      by_cases k1 : (n : Int) % 2 = 0 <;> by_cases k2 : (b : Int) % 2 = 0
      · rw [if_pos k1, if_pos k2, if_pos (by omega)]; rfl
      · rw [if_pos k1, if_neg k2, if_neg (by omega)]; rfl
      · rw [if_neg k1, if_pos k2, if_neg (by omega)]; rfl
      · rw [if_neg k1, if_neg k2, if_pos (by omega)]; rfl
    rw [← e4]
    generalize (if (b + n) % 2 = 0 then (1 : Int) else -1) = t
    grind
  · rw [sgm_z (fun k hk => by rw [if_neg (by omega)]; simp)]
    have e2 : isE ((a : Int) + b) = 0 := if_neg (by omega)
    rw [e2]
    simp
theorem sgE_n (n : Int) : sgE n * sgE n = 1 := sgE_sq n
theorem q_lv (q : Nat → Int) (n : Nat) : ∀ r, ∃ s : Int, s * s = 1 ∧ alk (qLv (toL q (n + 1)) r) (scL s (toL (lvs q n r) (n + 1)))
  | 0 => ⟨1, rfl, fun g => by rw [lsu_sc, Int.one_mul]; rfl⟩
  | r + 1 => by
    obtain ⟨s, h1, h2⟩ := q_lv q n r
    exact ⟨sgE n, sgE_n n, (Gq_cg h2).tr ((Gq_sc h1 _).tr (Gq_to _ n))⟩
theorem ct_to {a : Nat → Int} {m : Nat} {s : Int} (hs : s * s = 1) {A : LPo} (h : alk A (scL s (toL a m))) : CT (mlP A (stL A)) = sqI2 a m := by
  rw [(alk.ml h h.st).ct]
  unfold CT
  rw [lsu_ml, lsu_sc, lsu_to, ← sgm_mul]
  have e : ∀ m, sqI2 a m = sgm (fun j => a j * a j) m := fun m => by
    induction m with
    | zero => rfl
    | succ m ih => show sqI2 a m + a m * a m = sgm _ m + a m * a m; rw [ih]
  rw [e]
  refine sgm_ext (fun i hi => ?_)
  rw [lsu_st, lsu_sc, lsu_to, sgm_pick (j := i) hi (fun k hk hn => by unfold dlt; rw [if_neg (by omega), Int.mul_zero])]
  have e1 : dlt 0 ((i : Int) + -(i : Int)) = 1 := if_pos (by omega)
  rw [e1, Int.mul_one, Int.mul_left_comm (a i) s, ← Int.mul_assoc, hs, Int.one_mul]
theorem h4_to {q : Nat → Int} {n : Nat} (hn : n ≤ 12) : alk (hLv (mlP (toL q (n + 1)) (stL (toL q (n + 1)))) 4) [(0, CT (mlP (toL q (n + 1)) (stL (toL q (n + 1)))))] := fun g => by
  show lsu g (evL (evL (evL (evL (mlP (toL q (n + 1)) (stL (toL q (n + 1)))))))) = CT (mlP (toL q (n + 1)) (stL (toL q (n + 1)))) * g 0 + 0
  unfold CT
  rw [lsu_ev, lsu_ev, lsu_ev, lsu_ev, lsu_ml, lsu_ml, lsu_to, lsu_to, Int.add_zero, Int.mul_comm _ (g 0), ← sgm_mul]
  refine sgm_ext (fun a ha => ?_)
  rw [lsu_st, lsu_st, lsu_to, lsu_to, Int.mul_left_comm]
  have e9 : g 0 * sgm (fun j => q j * dlt 0 ((a : Int) + -(j : Int))) (n + 1) = sgm (fun j => g 0 * (q j * dlt 0 ((a : Int) + -(j : Int)))) (n + 1) := (sgm_mul _ _ _).symm
  rw [e9]
  refine congrArg (q a * ·) (sgm_ext (fun b hb => ?_))
  by_cases h : a = b
  · subst h
    have e0 : (a : Int) + -(a : Int) = 0 := by omega
    rw [e0]
    show q a * (1 * (1 * (1 * (1 * g 0)))) = g 0 * (q a * 1)
    rw [Int.one_mul, Int.one_mul, Int.one_mul, Int.one_mul, Int.mul_one, Int.mul_comm]
  · have e0 : dlt 0 ((a : Int) + -(b : Int)) = 0 := if_neg (by omega)
    rw [e0, Int.mul_zero, Int.mul_zero]
    generalize hd : (a : Int) + -(b : Int) = d
    unfold isE
    by_cases k1 : d % 2 = 0
    · by_cases k2 : d / 2 % 2 = 0
      · by_cases k3 : d / 2 / 2 % 2 = 0
        · rw [if_neg (show ¬ d / 2 / 2 / 2 % 2 = 0 by omega)]; simp
        · rw [if_neg k3]; simp
      · rw [if_neg k2]; simp
    · rw [if_neg k1]; simp
theorem ct_pw (s : Int) : CT (pwL 4 [(0, s)]) = s ^ 16 := by
  show s * s * (s * s) * (s * s * (s * s)) * (s * s * (s * s) * (s * s * (s * s))) * 1 + 0 = s ^ 16
  grind
theorem sq4 : SQ4 := fun q n hn => by
  have h := (chain (toL q (n + 1)) 3).ct
  obtain ⟨s, h1, h2⟩ := q_lv q n 4
  rw [ct_to h1 h2, ((h4_to (q := q) hn).pw 4).ct, ct_pw, ct_to (s := 1) rfl (fun g => by rw [lsu_sc, Int.one_mul])] at h
  rw [← sqN_I, ← sqN_I] at h
  have h5 : ((sqN (fun j => (lvs q n 4 j).natAbs) (n + 1) : Nat) : Int) ≤ ((sqN (fun j => (q j).natAbs) (n + 1) ^ 16 : Nat) : Int) := by
    rw [Int.natCast_pow]
    exact h
  exact Int.ofNat_le.mp h5
theorem LHP_ok : LHP := LHP_of sq4
theorem AGL_ok : AGL := AGL_of LHP_ok
