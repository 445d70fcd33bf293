/-! LOW and HIGH: how great they can be; what the reference finds is what the class finds -/
theorem grp_b {a : Nat → Int} {n j B : Nat} (hj : j ≤ n) (h : ∀ i, i ≤ n → 13 * (a i).natAbs ≤ B) : ∀ c, c ≤ gcnt n j → 169 * (grp a n j c).natAbs ≤ c * (B * B)
  | 0, _ => by show 169 * (0 : Int).natAbs ≤ _; simp
  | c + 1, hc => by
    have h1 := grp_b hj h c (by omega)
    have hg : gcnt n j = min n (2 * j) + 1 - (2 * j - n) := rfl
    have h2 := h (2 * j - n + c) (by omega)
    have h3 := h (2 * j - (2 * j - n + c)) (by omega)
    have h4 : 169 * (grt a n j (2 * j - n + c)).natAbs ≤ B * B := by
      have e : (grt a n j (2 * j - n + c)).natAbs = (a (2 * j - n + c)).natAbs * (a (2 * j - (2 * j - n + c))).natAbs := by
        unfold grt
        split
        · exact Int.natAbs_mul _ _
        · rw [Int.natAbs_neg]; exact Int.natAbs_mul _ _
      rw [e]
      have h5 := Nat.mul_le_mul h2 h3
      generalize (a (2 * j - n + c)).natAbs = x at *
      generalize (a (2 * j - (2 * j - n + c))).natAbs = y at *
      have e2 : 13 * x * (13 * y) = 169 * (x * y) := by
        rw [Nat.mul_mul_mul_comm]
      omega
    show 169 * (grp a n j c + grt a n j (2 * j - n + c)).natAbs ≤ _
    have h6 := Int.natAbs_add_le (grp a n j c) (grt a n j (2 * j - n + c))
    rw [Nat.add_mul]
    omega
theorem gco_b {a : Nat → Int} {n j B : Nat} (hn : n ≤ 12) (hj : j ≤ n) (h : ∀ i, i ≤ n → 13 * (a i).natAbs ≤ B) : 13 * (gco a n j).natAbs ≤ B * B := by
  have h1 := grp_b hj h (gcnt n j) (Nat.le_refl _)
  have hg : gcnt n j ≤ 13 := by show min n (2 * j) + 1 - (2 * j - n) ≤ 13; omega
  have h2 : gcnt n j * (B * B) ≤ 13 * (B * B) := Nat.mul_le_mul_right _ hg
  show 13 * (grp a n j (gcnt n j)).natAbs ≤ _
  omega
theorem lv_b {F : Nat → Int} {n : Nat} (hn : n ≤ 12) (h : ∀ j, j ≤ n → -9999 ≤ F j ∧ F j ≤ 9999) : ∀ k j, j ≤ n → 13 * (lvs F n k j).natAbs ≤ 129987 ^ (2 ^ k)
  | 0, j, hj => by
    have := h j hj
    show 13 * (F j).natAbs ≤ _
    rw [Nat.pow_zero, Nat.pow_one]
    omega
  | k + 1, j, hj => by
    have h1 := gco_b (j := j) hn hj (lv_b hn h k)
    rw [Nat.pow_succ 2 k, Nat.pow_mul, Nat.pow_two]
    exact h1
abbrev lvN (F : Nat → Int) (n k : Nat) : Nat → Nat := fun j => (lvs F n k j).natAbs
theorem low_bd {A : Nat → Nat} {n k t : Nat} (hn : n ≤ 12) (hA : ∀ j, j ≤ n → 13 * A j ≤ 129987 ^ (2 ^ k)) (h : lowQ A n k t) : t ≤ 129987000 := by
  obtain ⟨i, hi, h1⟩ := h
  have h2 := (bin_b n (by omega) i (by omega) hi).1
  have h3 : t ^ (2 ^ k) ≤ t ^ (2 ^ k) * binI n i := Nat.le_mul_of_pos_right _ h2
  have h4 : A i ≤ 129987 ^ (2 ^ k) := by have := hA i hi; omega
  have h5 : 1000 ^ (2 ^ k) * A i ≤ 1000 ^ (2 ^ k) * 129987 ^ (2 ^ k) := Nat.mul_le_mul_left _ h4
  rw [← Nat.mul_pow] at h5
  have h6 : t ^ (2 ^ k) ≤ 129987000 ^ (2 ^ k) := Nat.le_trans h3 (Nat.le_trans h1 h5)
  exact Nat.le_of_not_lt (fun g => absurd (Nat.pow_lt_pow_left g (Nat.ne_of_gt (Nat.pow_pos (by decide)))) (Nat.not_lt.mpr h6))
theorem sqN_bd {A : Nat → Nat} {B : Nat} : ∀ m : Nat, (∀ j, j < m → 13 * A j ≤ B) → 169 * sqN A m ≤ m * (B * B)
  | 0, _ => by show 169 * 0 ≤ _; omega
  | m + 1, h => by
    have h1 := sqN_bd m (fun j hj => h j (by omega))
    have h2 := Nat.mul_le_mul (h m (by omega)) (h m (by omega))
    have e2 : 13 * A m * (13 * A m) = 169 * (A m * A m) := by rw [Nat.mul_mul_mul_comm]
    show 169 * (sqN A m + A m * A m) ≤ _
    rw [Nat.add_mul]
    omega
theorem high_bd {A : Nat → Nat} {n k : Nat} (hn : n ≤ 12) (hA : ∀ j, j ≤ n → 13 * A j ≤ 129987 ^ (2 ^ k)) : 1000 ^ (2 ^ (k + 1)) * sqN A (n + 1) ≤ 129987000 ^ (2 ^ (k + 1)) := by
  have h1 := sqN_bd (n + 1) (fun j hj => hA j (by omega))
  have e : (129987 : Nat) ^ (2 ^ k) * 129987 ^ (2 ^ k) = 129987 ^ (2 ^ (k + 1)) := by rw [Nat.pow_succ 2 k, Nat.pow_mul, Nat.pow_two]
  rw [e] at h1
  have h2 : (n + 1) * 129987 ^ (2 ^ (k + 1)) ≤ 13 * 129987 ^ (2 ^ (k + 1)) := Nat.mul_le_mul_right _ (by omega)
  have h3 : sqN A (n + 1) ≤ 129987 ^ (2 ^ (k + 1)) := by omega
  have h4 := Nat.mul_le_mul_left (1000 ^ (2 ^ (k + 1))) h3
  rw [← Nat.mul_pow] at h4
  exact h4
theorem shr_max (A C : Nat → Nat) (n : Nat) (hC : ∀ j, j ≤ n → 0 < C j) : ∀ m, m ≤ n → ∃ b, b ≤ m ∧ ∀ j, j ≤ m → A j * C b ≤ A b * C j
  | 0, _ => ⟨0, Nat.le_refl _, fun j hj => by rw [show j = 0 by omega]; exact Nat.le_refl _⟩
  | m + 1, hm => by
    obtain ⟨b, hb, h⟩ := shr_max A C n hC m (by omega)
    by_cases g : A (m + 1) * C b ≤ A b * C (m + 1)
    · refine ⟨b, by omega, fun j hj => ?_⟩
      by_cases e : j = m + 1
      · rw [e]; exact g
      · exact h j (by omega)
    · refine ⟨m + 1, Nat.le_refl _, fun j hj => ?_⟩
      by_cases e : j = m + 1
      · rw [e]; exact Nat.le_refl _
      · have h1 := Nat.mul_le_mul_right (C (m + 1)) (h j (by omega))
        have h2 := Nat.mul_le_mul_right (C j) (Nat.le_of_lt (Nat.not_le.mp g))
        have h3 : A j * C (m + 1) * C b ≤ A (m + 1) * C j * C b := by
          rw [Nat.mul_right_comm (A j), Nat.mul_right_comm (A (m + 1))]
          rw [Nat.mul_right_comm (A b)] at h1
          omega
        exact Nat.le_of_mul_le_mul_right h3 (hC b (by omega))
theorem low_iff {A : Nat → Nat} {n k t b : Nat} (hn : n ≤ 12) (hb : b ≤ n) (h : ∀ j, j ≤ n → A j * binI n b ≤ A b * binI n j) : lowQ A n k t ↔ t ^ (2 ^ k) ≤ 1000 ^ (2 ^ k) * A b / binI n b := by
  have hC : ∀ j, j ≤ n → 0 < binI n j := fun j hj => (bin_b n (by omega) j (by omega) hj).1
  rw [Nat.le_div_iff_mul_le (hC b hb)]
  constructor
  · rintro ⟨i, hi, h1⟩
    have h2 := Nat.mul_le_mul_right (binI n b) h1
    have h3 := Nat.mul_le_mul_left (1000 ^ (2 ^ k)) (h i hi)
    have h4 : t ^ (2 ^ k) * binI n b * binI n i ≤ 1000 ^ (2 ^ k) * A b * binI n i := by
      rw [Nat.mul_right_comm (t ^ (2 ^ k))]
      rw [Nat.mul_assoc (1000 ^ (2 ^ k)) (A i)] at h2
      rw [Nat.mul_assoc (1000 ^ (2 ^ k)) (A b)]
      omega
    exact Nat.le_of_mul_le_mul_right h4 (hC i hi)
  · intro h1
    exact ⟨b, hb, h1⟩
theorem lowQ_cg {A B : Nat → Nat} {n k t : Nat} (h : ∀ j, j ≤ n → A j = B j) : lowQ A n k t ↔ lowQ B n k t := by
  constructor
  · rintro ⟨i, hi, h1⟩; exact ⟨i, hi, by rw [← h i hi]; exact h1⟩
  · rintro ⟨i, hi, h1⟩; exact ⟨i, hi, by rw [h i hi]; exact h1⟩
theorem lowF_iff {F : Nat → Int} {n k t : Nat} (hn : n ≤ 12) (hF : ∀ j, j ≤ n → -9999 ≤ F j ∧ F j ≤ 9999) : lowF F n k t ↔ lowQ (lvN F n k) n k t ∧ ¬ lowQ (lvN F n k) n k (t + 1) := by
  have hB := lv_b hn hF k
  constructor
  · rintro ⟨b, hb, h1, h2, h3, h4⟩
    have hi := fun t => low_iff (k := k) (t := t) hn hb h1
    have hq : lowQ (lvN F n k) n k t := (hi t).mpr h3
    have ht := low_bd hn hB hq
    refine ⟨hq, fun g => ?_⟩
    have h5 := (hi (t + 1)).mp g
    rcases h4 with h4 | h4
    · omega
    · exact absurd h5 (Nat.not_le.mpr h4)
  · rintro ⟨h1, h2⟩
    obtain ⟨b, hb, h⟩ := shr_max (lvN F n k) (binI n) n (fun j hj => (bin_b n (by omega) j (by omega) hj).1) n (Nat.le_refl _)
    have hi := fun t => low_iff (k := k) (t := t) hn hb h
    have ht := low_bd hn hB h1
    exact ⟨b, hb, h, by omega, (hi t).mp h1, Or.inr (Nat.not_le.mp (fun g => h2 ((hi (t + 1)).mpr g)))⟩
theorem lowF_uq {F : Nat → Int} {n k t u : Nat} (hn : n ≤ 12) (hF : ∀ j, j ≤ n → -9999 ≤ F j ∧ F j ≤ 9999) (h1 : lowF F n k t) (h2 : lowF F n k u) : t = u := by
  rw [lowF_iff hn hF] at h1 h2
  rcases Nat.lt_trichotomy t u with g | g | g
  · exact absurd (low_dn h2.1 g) h1.2
  · exact g
  · exact absurd (low_dn h1.1 g) h2.2
theorem sqN_I {F : Nat → Int} : ∀ m, ((sqN (fun j => (F j).natAbs) m : Nat) : Int) = sqI2 F m
  | 0 => rfl
  | m + 1 => by
    show ((sqN (fun j => (F j).natAbs) m + (F m).natAbs * (F m).natAbs : Nat) : Int) = sqI2 F m + F m * F m
    rw [Int.natCast_add, sqN_I m, Int.natCast_mul, Int.natAbs_mul_self']
def higS (F : Nat → Int) (n k : Nat) : Nat := 1000 ^ (2 ^ (k + 1)) * sqN (lvN F n k) (n + 1)
theorem higS_0 {F : Nat → Int} {n k : Nat} (h0 : F n ≠ 0) : 0 < higS F n k := by
  refine Nat.mul_pos (Nat.pow_pos (by decide)) ?_
  show 0 < sqN (lvN F n k) n + (lvs F n k n).natAbs * (lvs F n k n).natAbs
  have h1 : 0 < (lvs F n k n).natAbs := Int.natAbs_pos.mpr (lvs_top h0 k)
  have := Nat.mul_pos h1 h1
  omega
theorem highF_iff {F : Nat → Int} {n k t : Nat} (hn : n ≤ 12) (hF : ∀ j, j ≤ n → -9999 ≤ F j ∧ F j ≤ 9999) (h0 : F n ≠ 0) : highF F n k (t + 1) ↔ higS F n k ≤ (t + 1) ^ (2 ^ (k + 1)) ∧ ¬ higS F n k ≤ t ^ (2 ^ (k + 1)) := by
  have hS := high_bd hn (lv_b hn hF k)
  have hS0 := higS_0 (k := k) h0
  have e : (sqI2 (lvs F n k) (n + 1)).toNat = sqN (lvN F n k) (n + 1) := by rw [← sqN_I]; exact Int.toNat_natCast _
  show (∃ u, t + 1 = u + 1 ∧ isRoot (1000 ^ (2 ^ (k + 1)) * (sqI2 (lvs F n k) (n + 1)).toNat - 1) (k + 1) u) ↔ _
  rw [e]
  show (∃ u, t + 1 = u + 1 ∧ isRoot (higS F n k - 1) (k + 1) u) ↔ _
  have hS3 : higS F n k ≤ 129987000 ^ (2 ^ (k + 1)) := hS
  generalize higS F n k = S at *
  constructor
  · rintro ⟨u, h1, h2, h3, h4⟩
    have e : u = t := by omega
    subst e
    have hu : u < 129987000 := Nat.lt_of_not_le (fun g => by have := Nat.pow_le_pow_left g (2 ^ (k + 1)); omega)
    refine ⟨?_, by omega⟩
    rcases h4 with h4 | h4
    · omega
    · omega
  · rintro ⟨h1, h2⟩
    have hu : t < 129987000 := Nat.lt_of_not_le (fun g => by have := Nat.pow_le_pow_left g (2 ^ (k + 1)); omega)
    exact ⟨t, rfl, by omega, by omega, Or.inr (by omega)⟩
theorem highF_pos {F : Nat → Int} {n k t : Nat} (h : highF F n k t) : ∃ u, t = u + 1 := by
  obtain ⟨u, h, -⟩ := h
  exact ⟨u, h⟩
theorem highF_uq {F : Nat → Int} {n k t u : Nat} (hn : n ≤ 12) (hF : ∀ j, j ≤ n → -9999 ≤ F j ∧ F j ≤ 9999) (h0 : F n ≠ 0) (h1 : highF F n k t) (h2 : highF F n k u) : t = u := by
  obtain ⟨t, rfl⟩ := highF_pos h1
  obtain ⟨u, rfl⟩ := highF_pos h2
  rw [highF_iff hn hF h0] at h1 h2
  rcases Nat.lt_trichotomy t u with g | g | g
  · exact absurd (Nat.le_trans h1.1 (Nat.pow_le_pow_left g _)) h2.2
  · rw [g]
  · exact absurd (Nat.le_trans h2.1 (Nat.pow_le_pow_left g _)) h1.2
/-! the same of the reference's own state -/
theorem mdC.nu {w w' : Wd} {Y tl : Nat} {tb : Nat → Int32} {fa st : Int32} {rf : Nat → Nat} {sh : SV} {pn : Nat} {pk : Nat → Nat} {ps : Nat → SV} {im : Nat → Option SV} (hM : mdC w Y tl tb fa st rf sh pn pk ps im) (hR : FR (nuS2 Y) w w') (hO : nuO w' Y) : mdC w' Y tl tb fa st rf sh pn pk ps im ∧ FR (modS Y) w w' := by
  have L : ∀ i c, ¬ (13 ≤ i ∧ i ≤ 16) → w[Y + i]? = some c → w'[Y + i]? = some c := fun i c h hc => hR.lk (by unfold nuS2; omega) hc
  refine ⟨?_, hR.mono (fun i h => by unfold nuS2 at h; unfold modS; omega)⟩
  obtain ⟨⟨th, dg, dd, ld, be, ib, re, ig, hY⟩, ⟨⟨g1, a1, b1⟩, ⟨g2, a2, b2⟩, ⟨g3, g4, a3, a4, b3, b4⟩, ⟨g5, g6, a5, a6, b5⟩, ⟨g11, a11, b11⟩, ⟨g17, a17, b17⟩⟩, ⟨g7, g8, g9, g10, g12, g13, g14, g18, g19, g20, g21, a7, a8, a9, a10, a12, a13, a14, a18, a19, a20, a21⟩, -⟩ := hM
  obtain ⟨⟨dg', m', h13, h14⟩, hT⟩ := hO
  exact ⟨⟨th, dg, dd, ld, be, ib, re, ig, hR.lk (by unfold nuS2; omega) hY⟩, ⟨⟨g1, L 1 _ (by omega) a1, b1⟩, ⟨g2, L 2 _ (by omega) a2, b2⟩, ⟨g3, g4, L 3 _ (by omega) a3, L 4 _ (by omega) a4, b3, b4⟩, ⟨g5, g6, L 5 _ (by omega) a5, L 6 _ (by omega) a6, b5⟩, ⟨g11, L 11 _ (by omega) a11, b11⟩, ⟨g17, L 17 _ (by omega) a17, b17⟩⟩, ⟨g7, g8, g9, g10, g12, dg', m', g18, g19, g20, g21, L 7 _ (by omega) a7, L 8 _ (by omega) a8, L 9 _ (by omega) a9, L 10 _ (by omega) a10, L 12 _ (by omega) a12, h13, h14, L 18 _ (by omega) a18, L 19 _ (by omega) a19, L 20 _ (by omega) a20, L 21 _ (by omega) a21⟩, hT⟩
theorem mdC.o {w : Wd} {Y tl : Nat} {tb : Nat → Int32} {fa st : Int32} {rf : Nat → Nat} {sh : SV} {pn : Nat} {pk : Nat → Nat} {ps : Nat → SV} {im : Nat → Option SV} (hM : mdC w Y tl tb fa st rf sh pn pk ps im) : nuO w Y := by
  obtain ⟨-, -, ⟨g7, g8, g9, g10, g12, g13, g14, g18, g19, g20, g21, a7, a8, a9, a10, a12, a13, a14, -⟩, hT⟩ := hM
  exact ⟨⟨g13, g14, a13, a14⟩, hT⟩
theorem onM.nu {w w' : Wd} {Y T : Nat} {Q : PV} (h : onM w Y Q T) (hR : FR (nuS2 Y) w w') : onM w' Y Q T := by
  obtain ⟨⟨th, st, nu, dg, dd, ib, ta, fa, re, ig, hY⟩, l, h12, hl⟩ := h
  exact ⟨⟨th, st, nu, dg, dd, ib, ta, fa, re, ig, hR.lk (by unfold nuS2; omega) hY⟩, l, hR.lk (by unfold nuS2; omega) h12, hl⟩
theorem lvM_A {l : Nat → Int64} {F : Nat → Int} {n T k j : Nat} (h : lvM l F n T) (hk : k ≤ T) (hn : n ≤ 12) (hj : j ≤ n) : lvA l k j = lvN F n k j := by
  show (l (13 * k + j)).toInt.natAbs = (lvs F n k j).natAbs
  rw [h k hk j (by omega), if_pos hj]
theorem sqN_cg {A B : Nat → Nat} : ∀ m, (∀ j, j < m → A j = B j) → sqN A m = sqN B m
  | 0, _ => rfl
  | m + 1, h => by
    show sqN A m + A m * A m = sqN B m + B m * B m
    rw [sqN_cg m (fun j hj => h j (by omega)), h m (by omega)]
theorem onM_lowOf (w : Wd) {Y T k : Nat} {Q : PV} (hO : nuO w Y) (h : onM w Y Q T) (hQ : okP Q) (hT : T ≤ 6) (hk : k ≤ T) : EX12_lowOf [.ref Y, .int (nI k)] w (fun r w' => ∃ t, r = some (.int (nI t)) ∧ lowF Q.2 Q.1 k t ∧ t ≤ 129987000 ∧ nuO w' Y ∧ FR (nuS2 Y) w w') := by
  obtain ⟨⟨th, st, nu, dg, dd, ib, ta, fa, re, ig, hY⟩, l, h12, hl⟩ := h
  have hA : ∀ j, j ≤ Q.1 → lvA l k j = lvN Q.2 Q.1 k j := fun j hj => lvM_A hl hk hQ.1 hj
  have hb : ∀ t, lowQ (lvA l k) Q.1 k t → t ≤ 129987000 := fun t g => low_bd hQ.1 (lv_b hQ.1 hQ.2.1 k) ((lowQ_cg hA).mp g)
  refine EP.mono (mp_lowOf w hY h12 hQ.1 (by omega) hb hO) ?_
  rintro r w' ⟨t, h1, h2, h3, h4, h5⟩
  exact ⟨t, h1, (lowF_iff hQ.1 hQ.2.1).mpr ⟨(lowQ_cg hA).mp h2, fun g => h3 ((lowQ_cg hA).mpr g)⟩, hb t h2, h4, h5⟩
theorem onM_highOf (w : Wd) {Y T k : Nat} {Q : PV} (hO : nuO w Y) (h : onM w Y Q T) (hQ : okP Q) (hT : T ≤ 6) (hk : k ≤ T) : EX12_highOf [.ref Y, .int (nI k)] w (fun r w' => ∃ t, r = some (.int (nI t)) ∧ highF Q.2 Q.1 k t ∧ t ≤ 129987000 ∧ nuO w' Y ∧ FR (nuS2 Y) w w') := by
  obtain ⟨⟨th, st, nu, dg, dd, ib, ta, fa, re, ig, hY⟩, l, h12, hl⟩ := h
  have hA : ∀ j, j ≤ Q.1 → lvA l k j = lvN Q.2 Q.1 k j := fun j hj => lvM_A hl hk hQ.1 hj
  have hS : 1000 ^ (2 ^ (k + 1)) * sqN (lvA l k) (Q.1 + 1) = higS Q.2 Q.1 k := by rw [sqN_cg (Q.1 + 1) (fun j hj => hA j (by omega))]; rfl
  refine EP.mono (mp_highOf w hY h12 hQ.1 (by omega) (by rw [hS]; exact higS_0 hQ.2.2.1) (by rw [hS]; exact high_bd hQ.1 (lv_b hQ.1 hQ.2.1 k)) hO) ?_
  rintro r w' ⟨t, h1, h2, h3, h4, h5, h6⟩
  rw [hS] at h2 h3
  exact ⟨t + 1, h1, (highF_iff hQ.1 hQ.2.1 hQ.2.2.1).mpr ⟨h2, h3⟩, by omega, h5, h6⟩
