/-! no LOW above a HIGH, where four levels up the squares are at most the sixteenth power -/
def SQ4 : Prop := ∀ (q : Nat → Int) (n : Nat), n ≤ 12 → sqN (lvN q n 4) (n + 1) ≤ sqN (lvN q n 0) (n + 1) ^ 16
theorem lvs_up {q : Nat → Int} {n k : Nat} : ∀ m, lvs q n (k + m) = lvs (lvs q n k) n m
  | 0 => rfl
  | m + 1 => by
    show gco (lvs q n (k + m)) n = gco (lvs (lvs q n k) n m) n
    rw [lvs_up m]
theorem lowQ_up {F : Nat → Int} {n k a : Nat} (hn : n ≤ 12) (h : lowQ (lvN F n k) n k a) : lowQ (lvN F n (k + 1)) n (k + 1) a := by
  obtain ⟨i, hi, h1⟩ := h
  obtain ⟨j, hj, h2⟩ := climb hn hi (lvs F n k)
  have h3 : lvN F n k i * lvN F n k i * binI n j ≤ binI n i * binI n i * lvN F n (k + 1) j := by
    have e : lvs F n k i * lvs F n k i = ((lvN F n k i * lvN F n k i : Nat) : Int) := by
      show _ = (((lvs F n k i).natAbs * (lvs F n k i).natAbs : Nat) : Int)
      exact Int.natAbs_mul_self.symm
    rw [e] at h2
    have h4 : ((lvN F n k i * lvN F n k i * binI n j : Nat) : Int) ≤ ((binI n i * binI n i * lvN F n (k + 1) j : Nat) : Int) := by
      rw [Int.natCast_mul, Int.natCast_mul (binI n i * binI n i)]
      exact h2
    exact Int.ofNat_le.mp h4
  have hb : 0 < binI n i := (bin_b n (by omega) i (by omega) hi).1
  refine ⟨j, hj, ?_⟩
  have hbb : 0 < binI n i * binI n i := Nat.mul_pos hb hb
  refine Nat.le_of_mul_le_mul_left ?_ hbb
  have e1 : a ^ (2 ^ (k + 1)) = a ^ (2 ^ k) * a ^ (2 ^ k) := by rw [Nat.pow_succ, Nat.mul_comm, ← Nat.pow_add]; congr 1; omega
  have e2 : 1000 ^ (2 ^ (k + 1)) = 1000 ^ (2 ^ k) * 1000 ^ (2 ^ k) := by rw [Nat.pow_succ, Nat.mul_comm, ← Nat.pow_add]; congr 1; omega
  rw [e1, e2]
  generalize a ^ (2 ^ k) = x at h1 ⊢
  generalize 1000 ^ (2 ^ k) = y at h1 ⊢
  generalize lvN F n (k + 1) j = z at h3 ⊢
  generalize lvN F n k i = u at h1 h3
  generalize binI n i = c at h1 h3 ⊢
  generalize binI n j = d at h3 ⊢
  have g1 := Nat.mul_le_mul h1 h1
  have g2 := Nat.mul_le_mul_right d g1
  have g3 := Nat.mul_le_mul_left (y * y) h3
  calc c * c * (x * x * d) = x * c * (x * c) * d := by grind
    _ ≤ y * u * (y * u) * d := g2
    _ = y * y * (u * u * d) := by grind
    _ ≤ y * y * (c * c * z) := g3
    _ = c * c * (y * y * z) := by grind
theorem lowQ_ups {F : Nat → Int} {n k a : Nat} (hn : n ≤ 12) (h : lowQ (lvN F n k) n k a) : ∀ m, lowQ (lvN F n (k + m)) n (k + m) a
  | 0 => h
  | m + 1 => lowQ_up hn (lowQ_ups hn h m)
theorem sqN_one {A : Nat → Nat} {i : Nat} : ∀ {m}, i < m → A i * A i ≤ sqN A m
  | 0, h => absurd h (Nat.not_lt_zero _)
  | m + 1, h => by
    show A i * A i ≤ sqN A m + A m * A m
    by_cases e : i = m
    · rw [e]; exact Nat.le_add_left _ _
    · exact Nat.le_trans (sqN_one (by omega)) (Nat.le_add_right _ _)
theorem sq_ups (S4 : SQ4) {F : Nat → Int} {n k : Nat} (hn : n ≤ 12) : ∀ t, sqN (lvN F n (k + 4 * t)) (n + 1) ≤ sqN (lvN F n k) (n + 1) ^ (16 ^ t)
  | 0 => by show sqN (lvN F n k) (n + 1) ≤ sqN (lvN F n k) (n + 1) ^ 1; rw [Nat.pow_one]; exact Nat.le_refl _
  | t + 1 => by
    have h := sq_ups S4 (F := F) (k := k) hn t
    have h1 := S4 (lvs F n (k + 4 * t)) n hn
    have e : lvN (lvs F n (k + 4 * t)) n 4 = lvN F n (k + 4 * (t + 1)) := by
      funext j
      show (lvs (lvs F n (k + 4 * t)) n 4 j).natAbs = (lvs F n (k + 4 * (t + 1)) j).natAbs
      rw [show k + 4 * (t + 1) = k + 4 * t + 4 by omega, lvs_up (q := F) (k := k + 4 * t) 4]
    rw [e] at h1
    refine Nat.le_trans h1 ?_
    rw [show (16 : Nat) ^ (t + 1) = 16 ^ t * 16 from Nat.pow_succ _ _, Nat.pow_mul]
    exact Nat.pow_le_pow_left h 16
theorem low_le_high (S4 : SQ4) {F : Nat → Int} {n k k' a b : Nat} (hn : n ≤ 12) (hl : lowQ (lvN F n k) n k a) (hh : higS F n k' ≤ b ^ (2 ^ (k' + 1))) : a ≤ b := by
  obtain ⟨m, hm⟩ : ∃ m, m = k' + 4 * (k + 1) := ⟨_, rfl⟩
  have h1 := lowQ_ups hn hl (m - k)
  rw [show k + (m - k) = m by omega] at h1
  obtain ⟨i, hi, h2⟩ := h1
  have hb : 0 < binI n i := (bin_b n (by omega) i (by omega) hi).1
  have h3 : a ^ (2 ^ m) ≤ 1000 ^ (2 ^ m) * lvN F n m i := Nat.le_trans (Nat.le_mul_of_pos_right _ hb) h2
  have h4 := Nat.mul_le_mul h3 h3
  have h5 := sqN_one (A := lvN F n m) (i := i) (m := n + 1) (by omega)
  have h6 := sq_ups S4 (F := F) (k := k') hn (k + 1)
  rw [← hm] at h6
  have e1 : ∀ x : Nat, x ^ (2 ^ (m + 1)) = x ^ (2 ^ m) * x ^ (2 ^ m) := fun x => by rw [Nat.pow_succ, Nat.mul_comm, ← Nat.pow_add]; congr 1; omega
  have e2 : ∀ x : Nat, (x ^ (2 ^ (k' + 1))) ^ (16 ^ (k + 1)) = x ^ (2 ^ (m + 1)) := fun x => by
    rw [← Nat.pow_mul, show (16 : Nat) = 2 ^ 4 by decide, ← Nat.pow_mul, ← Nat.pow_add, hm]
    congr 2
    omega
  have h7 : a ^ (2 ^ (m + 1)) ≤ b ^ (2 ^ (m + 1)) := by
    calc a ^ (2 ^ (m + 1)) = a ^ (2 ^ m) * a ^ (2 ^ m) := e1 a
      _ ≤ 1000 ^ (2 ^ m) * lvN F n m i * (1000 ^ (2 ^ m) * lvN F n m i) := h4
      _ = 1000 ^ (2 ^ m) * 1000 ^ (2 ^ m) * (lvN F n m i * lvN F n m i) := Nat.mul_mul_mul_comm _ _ _ _
      _ ≤ 1000 ^ (2 ^ m) * 1000 ^ (2 ^ m) * sqN (lvN F n k') (n + 1) ^ (16 ^ (k + 1)) := Nat.mul_le_mul_left _ (Nat.le_trans h5 h6)
      _ = (1000 ^ (2 ^ (k' + 1))) ^ (16 ^ (k + 1)) * sqN (lvN F n k') (n + 1) ^ (16 ^ (k + 1)) := by rw [e2, e1]
      _ = higS F n k' ^ (16 ^ (k + 1)) := (Nat.mul_pow _ _ _).symm
      _ ≤ (b ^ (2 ^ (k' + 1))) ^ (16 ^ (k + 1)) := Nat.pow_le_pow_left hh _
      _ = b ^ (2 ^ (m + 1)) := e2 b
  refine Nat.not_lt.mp (fun g => ?_)
  exact absurd h7 (Nat.not_le.mpr (Nat.pow_lt_pow_left g (Nat.pos_iff_ne_zero.mp (Nat.pow_pos (by decide)))))
theorem LHP_of (S4 : SQ4) : LHP := fun P ok k k' a b h1 h2 => by
  obtain ⟨u, rfl⟩ := highF_pos h2
  exact low_le_high S4 ok.1 ((lowF_iff ok.1 ok.2.1).mp h1).1 ((highF_iff ok.1 ok.2.1 ok.2.2.1).mp h2).1
