/-! search: what is found -/
theorem mdC.ent {w : Wd} {Y : Nat} {tl : Nat} {tb : Nat → Int32} {fa st : Int32} {rf : Nat → Nat} {S : Nat → PV} {d ia lk on kp : Nat} {E E2 : Nat → Int} {pn : Nat} {pk : Nat → Nat} {ps : Nat → SV} {im : Nat → Option SV} (hM : mdC w Y tl tb fa st rf (S, (d, ia, lk, on, kp, E)) pn pk ps im) (h : ∀ j, j < 16 * kp → E j = E2 j) : mdC w Y tl tb fa st rf (S, (d, ia, lk, on, kp, E2)) pn pk ps im := by
  obtain ⟨hO, ⟨a1, ⟨g2, a2, r1, r2, r3, r4⟩, a3, a5, a11, a17⟩, hK, hT⟩ := hM
  refine ⟨hO, ⟨a1, ⟨g2, a2, r1, r2, r3, fun i hi => ?_⟩, a3, a5, a11, a17⟩, hK, hT⟩
  have hi' : i < kp := hi
  obtain ⟨q1, q2, q3⟩ := r4 i hi
  refine ⟨q1, fun j hj => ?_, fun p h1 h2 => ?_⟩
  · show _ = E2 (i * 16 + j)
    rw [← h _ (by omega)]
    exact q2 j hj
  · show E2 (i * 16 + p) = 0
    rw [← h _ (by omega)]
    exact q3 p h1 h2
theorem lim_iff {F : Nat → Int} {d b v : Nat} : (sqI2 (lvs F d b) (d + 1) ≤ (limV v b : Nat)) ↔ higS F d b ≤ v ^ (2 ^ (b + 1)) := by
  have e1 : sqI2 (lvs F d b) (d + 1) = ((sqN (lvN F d b) (d + 1) : Nat) : Int) := (sqN_I (F := lvs F d b) (d + 1)).symm
  have e2 : 1000000 ^ (2 ^ b) = 1000 ^ (2 ^ (b + 1)) := by
    rw [show (1000000 : Nat) = 1000 ^ 2 by decide, ← Nat.pow_mul, Nat.pow_succ, Nat.mul_comm (2 ^ b) 2]
  rw [e1]
  unfold limV higS
  rw [e2]
  have hp : 0 < 1000 ^ (2 ^ (b + 1)) := Nat.pow_pos (by decide)
  constructor
  · intro h
    rw [Nat.mul_comm]
    exact (Nat.le_div_iff_mul_le hp).mp (Int.ofNat_le.mp h)
  · intro h
    rw [Nat.mul_comm] at h
    exact Int.ofNat_le.mpr ((Nat.le_div_iff_mul_le hp).mpr h)
theorem ent_uq {d h i b k : Nat} {E0 E E0' E' : Nat → Int} (hd : d ≤ 12) (hh : h ≤ 3) (h0 : ∀ j, j < k * 16 → E0 j = E0' j) (h1 : entI d h i b k E0 E) (h2 : entI d h i b k E0' E') : ∀ j, j < 16 * (k + 1) → E j = E' j := by
  obtain ⟨a1, a2, hi, lw, a3, a4, a5, a6, a7⟩ := h1
  obtain ⟨b1, b2, hi', lw', b3, b4, b5, b6, b7⟩ := h2
  have o : okP (d, bxc d h i) := bxc_ok hd hh
  obtain rfl : hi = hi' := highF_uq o.1 o.2.1 o.2.2.1 a3 b3
  obtain rfl : lw = lw' := lowF_uq o.1 o.2.1 a4 b4
  intro j hj
  by_cases g : j < k * 16
  · rw [a1 j g, b1 j g, h0 j g]
  · obtain ⟨p, rfl⟩ : ∃ p, j = k * 16 + p := ⟨j - k * 16, by omega⟩
    by_cases g2 : p < 13
    · rw [a2 p g2, b2 p g2]
    · rcases (show p = 13 ∨ p = 14 ∨ p = 15 by omega) with rfl | rfl | rfl
      · rw [a5, b5]
      · rw [a6, b6]
      · rw [a7, b7]
theorem sr_ag {d h lv v : Nat} (hd : d ≤ 12) (hh : h ≤ 3) : ∀ (i ia on ia' on' : Nat) (E E' : Nat → Int), srS d h lv v i ia on E → srM d h lv v i ia' on' E' → ia = ia' ∧ on = on' ∧ ∀ j, j < 16 * min ia 30 → E j = E' j
  | 0, ia, on, ia', on', E, E', h1, h2 => by
    have a1 : ia = 0 ∧ on = 0 := h1
    have a2 : ia' = 0 ∧ on' = 0 := h2
    exact ⟨by omega, by omega, fun j hj => by omega⟩
  | i + 1, ia, on, ia', on', E, E', h1, h2 => by
    have W : wgt (bxc d h i) d ≤ 60000000000000000 := okP.w (bxc_ok (i := i) hd hh)
    obtain ⟨ia0, on0, E0, m1, m2⟩ := h2
    rcases h1 with ⟨s1, on1, rfl, s2⟩ | ⟨s1, b, s2, ⟨s3, s4⟩ | ⟨s3, ia1, E1, rfl, s4, s5⟩⟩
    · obtain ⟨q1, q2, q3⟩ := sr_ag hd hh i _ _ _ _ _ _ s2 m1
      rcases m2 with ⟨-, rfl, rfl, rfl⟩ | ⟨t1, -⟩
      · exact ⟨q1, by omega, q3⟩
      · exact (one_no s1 (non_MC W t1)).elim
    · obtain ⟨q1, q2, q3⟩ := sr_ag hd hh i _ _ _ _ _ _ s4 m1
      rcases m2 with ⟨t1, -⟩ | ⟨-, b', t2, ⟨t3, rfl, rfl, rfl⟩ | ⟨t3, -⟩⟩
      · exact (one_no (one_MC W t1) s1).elim
      · exact ⟨q1, q2, q3⟩
      · obtain rfl := topL_uq s2 t2
        exact absurd (lim_iff.mpr t3) s3
    · obtain ⟨q1, q2, q3⟩ := sr_ag hd hh i _ _ _ _ _ _ s4 m1
      rcases m2 with ⟨t1, -⟩ | ⟨-, b', t2, ⟨t3, -⟩ | ⟨t3, rfl, rfl, t4⟩⟩
      · exact (one_no (one_MC W t1) s1).elim
      · obtain rfl := topL_uq s2 t2
        exact absurd (lim_iff.mp s3) t3
      · obtain rfl := topL_uq s2 t2
        subst q1
        refine ⟨rfl, q2, ?_⟩
        rcases s5 with ⟨g1, g2⟩ | ⟨g1, g2⟩ <;> rcases t4 with ⟨f1, f2⟩ | ⟨f1, f2⟩
        · intro j hj
          exact ent_uq hd hh (fun j hj => q3 j (by omega)) g2 f2 j (by omega)
        · exact absurd g1 f1
        · exact absurd f1 g1
        · rw [g2, f2]
          exact fun j hj => q3 j (by omega)
theorem okSe_b {x y z u : Int32} {d h lv v : Nat} (hd : x = nI d) (hh : y = nI h) (hl : z = nI lv) (hv : u = nI v) (h1 : okSe x y z u) (b1 : d < 2147483648) (b2 : h < 2147483648) : d ≤ 12 ∧ h ≤ 3 := by
  obtain ⟨⟨-, a1, -⟩, ⟨-, a2⟩, -⟩ := h1
  rw [hd, nI_toInt b1] at a1
  rw [hh, nI_toInt b2] at a2
  omega
