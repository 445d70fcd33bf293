/-! MahlerBox: LEVELS, LOW and HIGH -/
def isLowI (F : Nat → Int) (n k t : Nat) : Prop := ∃ b, b ≤ n ∧ (∀ j, j ≤ n → (F j).natAbs * binI n b ≤ (F b).natAbs * binI n j) ∧ isRoot (1000 ^ (2 ^ k) * (F b).natAbs / binI n b) k t
def sqI2 (F : Nat → Int) : Nat → Int
  | 0 => 0
  | m + 1 => sqI2 F m + F m * F m
def isHighI (F : Nat → Int) (n k t : Nat) : Prop := ∃ u, t = u + 1 ∧ isRoot (1000 ^ (2 ^ (k + 1)) * (sqI2 F (n + 1)).toNat - 1) (k + 1) u
/-- LOW and HIGH of F by LEVEL k -/
def lowF (F : Nat → Int) (n k t : Nat) : Prop := isLowI (lvs F n k) n k t
def highF (F : Nat → Int) (n k t : Nat) : Prop := isHighI (lvs F n k) n k t
theorem sqI2_eq {f : Nat → Int64} {F : Nat → Int} : ∀ m, (∀ j, j < m → (f j).toInt = F j) → sqs f m = sqI2 F m
  | 0, _ => rfl
  | m + 1, h => by
    show sqs f m + _ = sqI2 F m + _
    rw [sqI2_eq m (fun j hj => h j (by omega)), h m (by omega)]
theorem low_of {f : Nat → Int64} {F : Nat → Int} {n k t : Nat} (h : ∀ j, j ≤ n → (f j).toInt = F j) (hl : isLow f n k t) : isLowI F n k t := by
  obtain ⟨b, hb, h1, h2⟩ := hl
  have e : ∀ j, j ≤ n → aN f j = (F j).natAbs := fun j hj => by unfold aN; rw [h j hj]
  exact ⟨b, hb, fun j hj => by rw [← e j hj, ← e b hb]; exact h1 j hj, by rw [← e b hb]; exact h2⟩
theorem high_of {f : Nat → Int64} {F : Nat → Int} {n k t : Nat} (h : ∀ j, j ≤ n → (f j).toInt = F j) (hl : isHigh f n k t) : isHighI F n k t := by
  obtain ⟨u, hu, h2⟩ := hl
  exact ⟨u, hu, by rw [← sqI2_eq (n + 1) (fun j hj => h j (by omega))]; exact h2⟩
theorem gco_top {a : Nat → Int} {n : Nat} : gco a n n = a n * a n := by
  unfold gco
  have e : gcnt n n = 1 := by unfold gcnt; omega
  rw [e]
  show 0 + grt a n n (2 * n - n + 0) = _
  unfold grt
  rw [show 2 * n - n + 0 = n by omega, show 2 * n - n = n by omega, if_pos (by omega)]
  simp
theorem lvs_top {F : Nat → Int} {n : Nat} (h : F n ≠ 0) : ∀ k, lvs F n k n ≠ 0
  | 0 => h
  | k + 1 => by
    show gco (lvs F n k) n n ≠ 0
    rw [gco_top]
    exact fun e => by rcases Int.mul_eq_zero.mp e with e | e <;> exact lvs_top h k e
theorem sqI2_nn (F : Nat → Int) : ∀ m, 0 ≤ sqI2 F m
  | 0 => Int.le_refl 0
  | m + 1 => by
    have := sqI2_nn F m
    have h2 := sq_nn (F m)
    show 0 ≤ sqI2 F m + F m * F m
    omega
theorem sq_pos {F : Nat → Int} {n : Nat} (h : F n ≠ 0) : 0 < sqI2 F (n + 1) := by
  have h1 := sqI2_nn F n
  have h2 := sq_nn (F n)
  have h3 : F n * F n ≠ 0 := fun e => by rcases Int.mul_eq_zero.mp e with e | e <;> exact h e
  show 0 < sqI2 F n + F n * F n
  omega
theorem bxC.lad {w w' : Wd} {X tl : Nat} {tb : Nat → Int32} {fa st : Int32} {rf : Nat → Nat} {sh : SV} {pn : Nat} {pk : Nat → Nat} {ps : Nat → SV} {im : Nat → Option SV} {n tp : Nat} {R : Nat → Nat → Int64} (h : bxC w X tl tb fa st rf sh pn pk ps im) (hF : FR (ladS (X + 3) (X + 4)) w w') (hL : ladC w' (X + 3) (X + 4) n tp R) : bxC w' X tl tb fa st rf sh pn pk ps im ∧ EX (boxS X) 0 0 w w' := by
  have hE := EX.of hF (fun _ h => h)
  have hS : ∀ i, i < X + 3 ∨ X + 11 < i → ¬ ladS (X + 3) (X + 4) i := fun i hi h9 => by rcases h9 with h9 | h9 <;> omega
  obtain ⟨-, ⟨bb, bl, h2⟩, h3, ⟨m, hh, lv, ia, lk, on, rw9, en, a1, ⟨⟨tf, b1, b2⟩, b3⟩, a3, a4, a5⟩, ⟨g1, h6⟩, g2, h7⟩ := h.2.2.1
  have hW : wkC w' X := ⟨⟨n, tp, R, hL⟩, ⟨bb, bl, h2.ex hE (fun i _ _ => hS _ (by omega))⟩, h3.ex hE (fun i _ _ => hS _ (by omega)), ⟨m, hh, lv, ia, lk, on, rw9, en, hE.lk (hS _ (by omega)) a1, ⟨⟨tf, hE.lk (hS _ (by omega)) b1, b2⟩, fun k hk => (b3 k hk).ex hE (hS _ (by omega)) (hS _ (by omega))⟩, a3.ex hE (hS _ (by omega)) (hS _ (by omega)), hE.lk (hS _ (by omega)) a4, hE.lk (hS _ (by omega)) a5⟩, ⟨g1, hE.lk (hS _ (by omega)) h6⟩, g2, hE.lk (hS _ (by omega)) h7⟩
  exact ⟨h.tools hE (fun i hi => by rcases hi with hi | hi <;> omega) hW, EX.of hF (fun i hi => by unfold boxS; rcases hi with hi | hi <;> omega)⟩
theorem bxC.gau {w w' : Wd} {X tl : Nat} {tb : Nat → Int32} {fa st : Int32} {rf : Nat → Nat} {sh : SV} {pn : Nat} {pk : Nat → Nat} {ps : Nat → SV} {im : Nat → Option SV} {bb bl : Int32} (h : bxC w X tl tb fa st rf sh pn pk ps im) (hF : FR (gauS (X + 12)) w w') (hG : gauC w' (X + 12) bb bl) : bxC w' X tl tb fa st rf sh pn pk ps im ∧ EX (boxS X) 0 0 w w' := by
  have hE := EX.of hF (fun _ h => h)
  have hS : ∀ i, i < X + 12 ∨ X + 51 < i → ¬ gauS (X + 12) i := fun i hi h9 => by unfold gauS at h9; omega
  obtain ⟨⟨n, tp, R, hL⟩, -, h3, ⟨m, hh, lv, ia, lk, on, rw9, en, a1, ⟨⟨tf, b1, b2⟩, b3⟩, a3, a4, a5⟩, ⟨g1, h6⟩, g2, h7⟩ := h.2.2.1
  have hW : wkC w' X := ⟨⟨n, tp, R, hL.ex hE (hS _ (by omega)) (fun i _ _ => hS _ (by omega))⟩, ⟨bb, bl, hG⟩, h3.ex hE (fun i _ _ => hS _ (by omega)), ⟨m, hh, lv, ia, lk, on, rw9, en, hE.lk (hS _ (by omega)) a1, ⟨⟨tf, hE.lk (hS _ (by omega)) b1, b2⟩, fun k hk => (b3 k hk).ex hE (hS _ (by omega)) (hS _ (by omega))⟩, a3.ex hE (hS _ (by omega)) (hS _ (by omega)), hE.lk (hS _ (by omega)) a4, hE.lk (hS _ (by omega)) a5⟩, ⟨g1, hE.lk (hS _ (by omega)) h6⟩, g2, hE.lk (hS _ (by omega)) h7⟩
  exact ⟨h.tools hE (fun i hi => by unfold gauS at hi; omega) hW, EX.of hF (fun i hi => by unfold gauS at hi; unfold boxS; omega)⟩
/-- the ladder holds LEVELS 0 .. T of P -/
def onL (w : Wd) (X : Nat) (P : PV) (T : Nat) : Prop := T ≤ 6 ∧ ∃ R, lvF R P.2 P.1 T ∧ ladC w (X + 3) (X + 4) P.1 T R
theorem bx_climb (w : Wd) {X tl : Nat} {tb : Nat → Int32} {fa st : Int32} {rf : Nat → Nat} {sh : SV} {pn : Nat} {pk : Nat → Nat} {ps : Nat → SV} {im : Nat → Option SV} (hB : bxC w X tl tb fa st rf sh pn pk ps im) {v k : Nat} {P : PV} (hP : polC w (X + 139) v P) (hk : k ≤ 6) : EX4_climb [.ref (X + 3), .ref v, .int (nI k)] w (fun r w' => ∃ T, r = some (.int (nI T)) ∧ topL P.2 P.1 k T ∧ onL w' X P T ∧ bxC w' X tl tb fa st rf sh pn pk ps im ∧ EX (boxS X) 0 0 w w') := by
  obtain ⟨n, tp, R, hL⟩ := hB.2.2.1.1
  obtain ⟨b, c, ho, hb, hv, hbb, hc, hok⟩ := hP
  refine EP.mono (sp_climb w hL hok.1 hk (by omega) ho hb (by omega) (by omega)) ?_
  rintro r w' ⟨T, R', rfl, h1, h2, h3, h4⟩
  obtain ⟨hB', hE⟩ := hB.lad h4 h3
  exact ⟨T, rfl, topL_congr (fun j hj => hc j hj) h1, ⟨by have := h1.1; omega, R', fun t ht j hj => by rw [h2 t ht j hj]; exact lvs_congr (fun u hu => hc u hu) t j hj, h3⟩, hB', hE⟩
theorem onL.fr {w w' : Wd} {X T : Nat} {P : PV} (h : onL w X P T) (hF : FR (gauS (X + 12)) w w') : onL w' X P T := by
  obtain ⟨h6, R, h1, h2⟩ := h
  exact ⟨h6, R, h1, h2.fr hF (by unfold gauS; omega) (fun i _ _ => by unfold gauS; omega)⟩
theorem bx_low (w : Wd) {X tl : Nat} {tb : Nat → Int32} {fa st : Int32} {rf : Nat → Nat} {sh : SV} {pn : Nat} {pk : Nat → Nat} {ps : Nat → SV} {im : Nat → Option SV} (hB : bxC w X tl tb fa st rf sh pn pk ps im) {k T : Nat} {P : PV} (hL : onL w X P T) (hP : okP P) (hk : k ≤ T) : EX2_lowBy [.ref (X + 12), .ref (X + 3), .int (nI k)] w (fun r w' => ∃ t, r = some (.int (nI t)) ∧ t ≤ 268435455 ∧ lowF P.2 P.1 k t ∧ onL w' X P T ∧ bxC w' X tl tb fa st rf sh pn pk ps im ∧ EX (boxS X) 0 0 w w') := by
  obtain ⟨bb, bl, hG⟩ := hB.2.2.1.2.1
  obtain ⟨h6, R, h1, h2⟩ := id hL
  refine EP.mono (sp_lowBy w hG h2 hP.1 (show k ≤ 6 by omega) (by omega) (by omega)) ?_
  rintro r w' ⟨t, rfl, h3, h4, h5⟩
  have hF : FR (gauS (X + 12)) w w' := h5.mono (fun i hi => Or.inr hi)
  obtain ⟨hB', hE⟩ := hB.gau hF h4
  exact ⟨t, rfl, h3.le, low_of (fun j hj => h1 k hk j hj) h3, hL.fr hF, hB', hE⟩
theorem bx_high (w : Wd) {X tl : Nat} {tb : Nat → Int32} {fa st : Int32} {rf : Nat → Nat} {sh : SV} {pn : Nat} {pk : Nat → Nat} {ps : Nat → SV} {im : Nat → Option SV} (hB : bxC w X tl tb fa st rf sh pn pk ps im) {k T : Nat} {P : PV} (hL : onL w X P T) (hP : okP P) (hk : k ≤ T) : EX2_highBy [.ref (X + 12), .ref (X + 3), .int (nI k)] w (fun r w' => ∃ t, r = some (.int (nI t)) ∧ t ≤ 268435456 ∧ highF P.2 P.1 k t ∧ onL w' X P T ∧ bxC w' X tl tb fa st rf sh pn pk ps im ∧ EX (boxS X) 0 0 w w') := by
  obtain ⟨bb, bl, hG⟩ := hB.2.2.1.2.1
  obtain ⟨h6, R, h1, h2⟩ := id hL
  have hpos : 0 < sqs (R k) (P.1 + 1) := by
    rw [sqI2_eq (F := lvs P.2 P.1 k) (P.1 + 1) (fun j hj => h1 k hk j (by omega))]
    exact sq_pos (lvs_top hP.2.2.1 k)
  refine EP.mono (sp_highBy w hG h2 hP.1 (show k ≤ 6 by omega) (by omega) (by omega) hpos) ?_
  rintro r w' ⟨t, rfl, h3, h4, h5⟩
  have hF : FR (gauS (X + 12)) w w' := h5.mono (fun i hi => Or.inr hi)
  obtain ⟨hB', hE⟩ := hB.gau hF h4
  exact ⟨t, rfl, h3.le, high_of (fun j hj => h1 k hk j hj) h3, hL.fr hF, hB', hE⟩
/-- the first of LEVELS 0 .. T with the greatest LOW *-/
def bestLow (F : Nat → Int) (n T kb t : Nat) : Prop := ∃ L : Nat → Nat, (∀ j, j ≤ T → lowF F n j (L j)) ∧ kb ≤ T ∧ t = L kb ∧ (∀ j, j ≤ T → L j ≤ L kb) ∧ ∀ j, j < kb → L j < L kb
def bestHigh (F : Nat → Int) (n T kb t : Nat) : Prop := ∃ L : Nat → Nat, (∀ j, j ≤ T → highF F n j (L j)) ∧ kb ≤ T ∧ t = L kb ∧ (∀ j, j ≤ T → L kb ≤ L j) ∧ ∀ j, j < kb → L kb < L j
theorem isLowI.le {F : Nat → Int} {n k t : Nat} (h : isLowI F n k t) : t ≤ 268435455 := by
  obtain ⟨b, -, -, h, -⟩ := h
  exact h
theorem isHighI.le {F : Nat → Int} {n k t : Nat} (h : isHighI F n k t) : t ≤ 268435456 := by
  obtain ⟨u, rfl, h, -⟩ := h
  omega
theorem bx_fgl (w : Wd) {X tl : Nat} {tb : Nat → Int32} {fa st : Int32} {rf : Nat → Nat} {sh : SV} {pn : Nat} {pk : Nat → Nat} {ps : Nat → SV} {im : Nat → Option SV} (hB : bxC w X tl tb fa st rf sh pn pk ps im) {T : Nat} {P : PV} (hL : onL w X P T) (hP : okP P) : EX2_findGreatestLow [.ref (X + 12), .ref (X + 3)] w (fun r w' => r = none ∧ ∃ kb t, bestLow P.2 P.1 T kb t ∧ t ≤ 268435455 ∧ w'[X + 12]? = some (oG (X + 12) (nI t) (nI kb)) ∧ onL w' X P T ∧ bxC w' X tl tb fa st rf sh pn pk ps im ∧ EX (boxS X) 0 0 w w') := by
  obtain ⟨bb, bl, hG⟩ := hB.2.2.1.2.1
  obtain ⟨h6, R, h1, h2⟩ := id hL
  refine EP.mono (sp_findGreatestLow w hG h2 hP.1 h6 (by omega) (by omega)) ?_
  rintro r w' ⟨rfl, L, kb, h3, h4, ⟨h5, h7⟩, h8, h9⟩
  obtain ⟨hB', hE⟩ := hB.gau h9 h8
  exact ⟨rfl, kb, L kb, ⟨L, fun j hj => low_of (fun i hi => h1 j hj i hi) (h3 j hj), h4, rfl, fun j hj => h5 j (by omega), h7⟩, (h3 kb h4).le, h8.1, hL.fr h9, hB', hE⟩
theorem bx_flh (w : Wd) {X tl : Nat} {tb : Nat → Int32} {fa st : Int32} {rf : Nat → Nat} {sh : SV} {pn : Nat} {pk : Nat → Nat} {ps : Nat → SV} {im : Nat → Option SV} (hB : bxC w X tl tb fa st rf sh pn pk ps im) {T : Nat} {P : PV} (hL : onL w X P T) (hP : okP P) : EX2_findLeastHigh [.ref (X + 12), .ref (X + 3)] w (fun r w' => r = none ∧ ∃ kb t, bestHigh P.2 P.1 T kb t ∧ t ≤ 268435456 ∧ w'[X + 12]? = some (oG (X + 12) (nI t) (nI kb)) ∧ onL w' X P T ∧ bxC w' X tl tb fa st rf sh pn pk ps im ∧ EX (boxS X) 0 0 w w') := by
  obtain ⟨bb, bl, hG⟩ := hB.2.2.1.2.1
  obtain ⟨h6, R, h1, h2⟩ := id hL
  have hpos : ∀ j, j ≤ T → 0 < sqs (R j) (P.1 + 1) := fun j hj => by
    rw [sqI2_eq (F := lvs P.2 P.1 j) (P.1 + 1) (fun i hi => h1 j hj i (by omega))]
    exact sq_pos (lvs_top hP.2.2.1 j)
  refine EP.mono (sp_findLeastHigh w hG h2 hP.1 h6 (by omega) (by omega) hpos) ?_
  rintro r w' ⟨rfl, L, kb, h3, h4, ⟨h5, h7⟩, h8, h9⟩
  obtain ⟨hB', hE⟩ := hB.gau h9 h8
  exact ⟨rfl, kb, L kb, ⟨L, fun j hj => high_of (fun i hi => h1 j hj i hi) (h3 j hj), h4, rfl, fun j hj => h5 j (by omega), h7⟩, (h3 kb h4).le, h8.1, hL.fr h9, hB', hE⟩
