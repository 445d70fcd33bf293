/-! Circle: the table is right -/
def cyGood (n : Nat) : Bool := let r := cyE1 n n; if (cyL.getD n []).isEmpty then decide (12 < r.1) else decide (r.1 = (cyDg n : Nat)) && (List.range (cyDg n + 1)).all (fun j => (r.2.getD j 0).toInt == cyG n j)
theorem cy_test : cyGood 6 = true := by decide +kernel
theorem cy_all : ∀ n : Fin 43, n.1 = 0 ∨ cyGood n.1 = true := by decide +kernel
