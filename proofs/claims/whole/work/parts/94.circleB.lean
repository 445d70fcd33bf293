/-! Circle: the table is right -/
def cyGood (n : Nat) : Bool := let r := cyE1 n n; if (cyL.getD n []).isEmpty then decide (12 < r.1) else decide (r.1 = (cyDg n : Nat)) && (List.range (cyDg n + 1)).all (fun j => (r.2.getD j 0).toInt == cyG n j)
theorem cy_test : cyGood 6 = true := by decide +kernel
theorem cy_all : ∀ n : Fin 43, n.1 = 0 ∨ cyGood n.1 = true := by decide +kernel
theorem wc_table {n : Nat} (h1 : 1 ≤ n) (h2 : n ≤ 42) {dg : Int} {f : Nat → Int64} (h : wcR n n dg f) : (¬ cyIs n → 12 < dg) ∧ (cyIs n → dg = (cyDg n : Nat) ∧ ∀ j, j ≤ cyDg n → (f j).toInt = cyG n j) := by
  obtain ⟨a, b⟩ := wcR_E h
  have hg : cyGood n = true := (cy_all ⟨n, by omega⟩).resolve_left (show ¬ n = 0 by omega)
  unfold cyGood at hg
  refine ⟨fun hc => ?_, fun hc => ?_⟩
  · have he : cyL.getD n [] = [] := Decidable.not_not.mp hc
    rw [if_pos (by rw [he]; rfl)] at hg
    rw [a]
    exact of_decide_eq_true hg
  · rw [if_neg (by intro h9; exact hc (List.isEmpty_iff.mp h9))] at hg
    obtain ⟨g1, g2⟩ := Bool.and_eq_true_iff.mp hg
    refine ⟨by rw [a]; exact of_decide_eq_true g1, fun j hj => ?_⟩
    have hdg := (cy_dg ⟨n, by omega⟩ hc).2.1
    have hdg2 : cyDg n ≤ 12 := hdg
    rw [b j (by omega)]
    have g3 := List.all_eq_true.mp g2 j (List.mem_range.mpr (by omega))
    exact eq_of_beq g3
