/-! MahlerBox: its cells and what they tell -/
abbrev oB (X s : Nat) (fa st : Int32) : Ce := .inr (10, [.ref (X + 1), .ref (X + 3), .ref (X + 12), .ref (X + 52), .ref (X + 112), .ref (X + 132), .ref (X + 135), .ref (X + 136), .ref (X + 137), .ref (X + 138), .ref s, .int fa, .int st])
/-- w' has more cells (k at most, s slots), the others but S are as they were -/
def EX (S : Nat → Prop) (k s : Nat) (w w' : Wd) : Prop := w.length ≤ w'.length ∧ w'.length ≤ w.length + k ∧ slW w ≤ slW w' ∧ slW w' ≤ slW w + s ∧ ∀ i, i < w.length → ¬ S i → w'[i]? = w[i]?
theorem EX.of {S S' : Nat → Prop} {w w' : Wd} (h : FR S w w') (hS : ∀ i, S i → S' i) : EX S' 0 0 w w' := ⟨by rw [h.1]; exact Nat.le_refl _, by rw [h.1]; exact Nat.le_refl _, by rw [h.2.1]; exact Nat.le_refl _, by rw [h.2.1]; exact Nat.le_refl _, fun i _ hi => h.2.2 i (fun g => hi (hS i g))⟩
theorem EX.rf {S : Nat → Prop} {w : Wd} : EX S 0 0 w w := EX.of FR.rf (fun _ h => h)
theorem EX.tr {S : Nat → Prop} {w w1 w2 : Wd} {k1 k2 s1 s2 : Nat} (h1 : EX S k1 s1 w w1) (h2 : EX S k2 s2 w1 w2) : EX S (k1 + k2) (s1 + s2) w w2 := by
  obtain ⟨a1, a2, a3, a4, a5⟩ := h1
  obtain ⟨b1, b2, b3, b4, b5⟩ := h2
  exact ⟨by omega, by omega, by omega, by omega, fun i hi hS => (b5 i (by omega) hS).trans (a5 i hi hS)⟩
theorem EX.app {S : Nat → Prop} {w t : Wd} : EX S t.length (slW t) w (w ++ t) := by
  refine ⟨by simp, by simp, by simp [slW], by simp [slW], fun i hi _ => List.getElem?_append_left hi⟩
theorem EX.le {S : Nat → Prop} {w w' : Wd} {k s k' s' : Nat} (h : EX S k s w w') (hk : k ≤ k') (hs : s ≤ s') : EX S k' s' w w' := ⟨h.1, Nat.le_trans h.2.1 (Nat.add_le_add_left hk _), h.2.2.1, Nat.le_trans h.2.2.2.1 (Nat.add_le_add_left hs _), h.2.2.2.2⟩
theorem EX.mono {S S' : Nat → Prop} {w w' : Wd} {k s : Nat} (h : EX S k s w w') (hS : ∀ i, S i → S' i) : EX S' k s w w' := ⟨h.1, h.2.1, h.2.2.1, h.2.2.2.1, fun i hi g => h.2.2.2.2 i hi (fun g9 => g (hS i g9))⟩
theorem EX.lk {S : Nat → Prop} {w w' : Wd} {k s i : Nat} {c : Ce} (h : EX S k s w w') (hi : ¬ S i) (hc : w[i]? = some c) : w'[i]? = some c := by
  have hl : i < w.length := (List.getElem?_eq_some_iff.mp hc).1
  exact (h.2.2.2.2 i hl hi).trans hc
abbrev PV : Type := Nat × (Nat → Int)
abbrev FV : Type := Nat × Nat × Nat × Nat × Nat × (Nat → Int)
abbrev SV : Type := (Nat → PV) × FV
def okP (P : PV) : Prop := P.1 ≤ 12 ∧ (∀ j, j ≤ P.1 → -9999 ≤ P.2 j ∧ P.2 j ≤ 9999) ∧ P.2 P.1 ≠ 0 ∧ ∀ j, P.1 < j → P.2 j = 0
def polC (w : Wd) (B v : Nat) (P : PV) : Prop := ∃ b c, w[v]? = some (oP P.1 b) ∧ w[b]? = some (aI 0 (P.1 + 1) c) ∧ B ≤ v ∧ (B ≤ b ∧ (b = v + 1 ∨ b = v + 2)) ∧ (∀ j, j ≤ P.1 → (c j).toInt = P.2 j) ∧ okP P
def fouC (w : Wd) (B f : Nat) (V : FV) : Prop := ∃ e g, w[f]? = some (oF V.1 V.2.1 V.2.2.1 V.2.2.2.1 V.2.2.2.2.1 e) ∧ w[e]? = some (aI 0 (16 * V.2.2.2.2.1) g) ∧ B ≤ f ∧ B ≤ e ∧ (∀ j, j < 16 * V.2.2.2.2.1 → (g j).toInt = V.2.2.2.2.2 j) ∧ V.1 ≤ 12 ∧ V.2.2.2.2.1 ≤ 30 ∧ V.2.1 ≤ 5000 ∧ V.2.2.1 ≤ 5000 ∧ V.2.2.2.1 ≤ 5000
def shC (w : Wd) (B s : Nat) (V : SV) : Prop := ∃ p f h, w[s]? = some (oS p f) ∧ w[p]? = some (aR 4 8 h) ∧ B ≤ s ∧ B ≤ p ∧ (∀ i, i < 8 → ∃ v, h i = some v ∧ polC w B v (V.1 i)) ∧ fouC w B f V.2
theorem polC.ex {S : Nat → Prop} {w w' : Wd} {k s B v : Nat} {P : PV} (h : polC w B v P) (hE : EX S k s w w') (hS : ∀ i, S i → i < B) : polC w' B v P := by
  obtain ⟨b, c, h1, h2, h3, h4, h5⟩ := h
  exact ⟨b, c, hE.lk (fun g => by have := hS _ g; omega) h1, hE.lk (fun g => by have := hS _ g; omega) h2, h3, h4, h5⟩
theorem fouC.ex {S : Nat → Prop} {w w' : Wd} {k s B f : Nat} {V : FV} (h : fouC w B f V) (hE : EX S k s w w') (hS : ∀ i, S i → i < B) : fouC w' B f V := by
  obtain ⟨b, c, h1, h2, h3, h4, h5⟩ := h
  exact ⟨b, c, hE.lk (fun g => by have := hS _ g; omega) h1, hE.lk (fun g => by have := hS _ g; omega) h2, h3, h4, h5⟩
theorem shC.ex {S : Nat → Prop} {w w' : Wd} {k s B v : Nat} {V : SV} (h : shC w B v V) (hE : EX S k s w w') (hS : ∀ i, S i → i < B) : shC w' B v V := by
  obtain ⟨p, f, hh, h1, h2, h3, h4, h5, h6⟩ := h
  refine ⟨p, f, hh, hE.lk (fun g => by have := hS _ g; omega) h1, hE.lk (fun g => by have := hS _ g; omega) h2, h3, h4, fun i hi => ?_, h6.ex hE hS⟩
  obtain ⟨u, g1, g2⟩ := h5 i hi
  exact ⟨u, g1, g2.ex hE hS⟩
/-- the tools: ladder, gauge, circle, hunt, row, spare -/
def wkC (w : Wd) (X : Nat) : Prop := (∃ n tp R, ladC w (X + 3) (X + 4) n tp R) ∧ (∃ bb bl, gauC w (X + 12) bb bl) ∧ cirA w (X + 52) ∧ (∃ n h lv ia lk on rw9 en, w[X + 112]? = some (oH (X + 112) n h lv ia lk on) ∧ hunT w (X + 112) ∧ whC w (X + 112 + 2) 8 ∧ w[X + 112 + 4]? = some (aL 13 rw9) ∧ w[X + 112 + 5]? = some (aI 0 480 en)) ∧ (∃ g, w[X + 136]? = some (aL 25 g)) ∧ ∃ g, w[X + 137]? = some (aL 25 g)
def tapC (w : Wd) (X tl : Nat) (tb : Nat → Int32) : Prop := tl ≤ 400 ∧ ∃ pl f, w[X + 1]? = some (oT (X + 2) tl pl) ∧ w[X + 2]? = some (aI 2 400 f) ∧ ∀ i, i < tl → ub (f i) = ub (tb i)
def pasC (w : Wd) (X pn : Nat) (pk : Nat → Nat) (ps : Nat → SV) : Prop := pn ≤ 8 ∧ ∃ h g, w[X + 132]? = some (oA (X + 133) (X + 134) pn) ∧ w[X + 133]? = some (aR 5 8 h) ∧ w[X + 134]? = some (aI 0 8 g) ∧ ∀ i, i < pn → ∃ v, h i = some v ∧ shC w (X + 139) v (ps i) ∧ g i = nI (pk i)
def imgC (w : Wd) (X : Nat) (im : Nat → Option SV) : Prop := ∃ f, w[X + 135]? = some (aR 5 2 f) ∧ ∀ k, k < 2 → (∀ V, im k = some V → ∃ v, f k = some v ∧ shC w (X + 139) v V) ∧ (im k = none → f k = none)
def refC (w : Wd) (X : Nat) (rf : Nat → Nat) : Prop := ∃ g, w[X + 138]? = some (aI 0 5 g) ∧ ∀ i, i < 5 → g i = nI (rf i)
/-- the whole object: tape, fault, status, refusals, store, what can be undone, images -/
def bxC (w : Wd) (X tl : Nat) (tb : Nat → Int32) (fa st : Int32) (rf : Nat → Nat) (sh : SV) (pn : Nat) (pk : Nat → Nat) (ps : Nat → SV) (im : Nat → Option SV) : Prop := (∃ s, w[X]? = some (oB X s fa st) ∧ shC w (X + 139) s sh) ∧ tapC w X tl tb ∧ wkC w X ∧ pasC w X pn pk ps ∧ imgC w X im ∧ refC w X rf
def boxS (X i : Nat) : Prop := X ≤ i ∧ i ≤ X + 138
theorem ladC.ex {S : Nat → Prop} {w w' : Wd} {k s lo O n tp : Nat} {R : Nat → Nat → Int64} (h : ladC w lo O n tp R) (hF : EX S k s w w') (h1 : ¬ S lo) (h2 : ∀ i, O ≤ i → i ≤ O + 7 → ¬ S i) : ladC w' lo O n tp R := by
  obtain ⟨a, ⟨rf, b, c⟩, d⟩ := h
  exact ⟨hF.lk h1 a, ⟨rf, hF.lk (h2 _ (by omega) (by omega)) b, c⟩, fun t ht => hF.lk (h2 _ (by omega) (by omega)) (d t ht)⟩
theorem whC.ex {S : Nat → Prop} {w w' : Wd} {k s o N : Nat} (h : whC w o N) (hF : EX S k s w w') (h1 : ¬ S o) (h2 : ¬ S (o + 1)) : whC w' o N := by
  obtain ⟨n, ds, a, b⟩ := h
  exact ⟨n, ds, hF.lk h1 a, hF.lk h2 b⟩
theorem whV.ex {S : Nat → Prop} {w w' : Wd} {k s o N : Nat} {v : Int} (h : whV w o N v) (hF : EX S k s w w') (h1 : ¬ S o) (h2 : ¬ S (o + 1)) : whV w' o N v := by
  obtain ⟨n, ds, a, b, c⟩ := h
  exact ⟨n, ds, hF.lk h1 a, hF.lk h2 b, c⟩
theorem gauC.ex {S : Nat → Prop} {w w' : Wd} {k s G : Nat} {bb bl : Int32} (h : gauC w G bb bl) (hF : EX S k s w w') (hS : ∀ i, G ≤ i → i ≤ G + 39 → ¬ S i) : gauC w' G bb bl := by
  obtain ⟨g1, ⟨⟨tf, t1, t2⟩, t3⟩, ⟨⟨yf, y1, y2⟩, y3⟩, g4, g5, g6, g7⟩ := h
  refine ⟨hF.lk (hS _ (by omega) (by omega)) g1, ⟨⟨tf, hF.lk (hS _ (by omega) (by omega)) t1, t2⟩, fun s hs => ?_⟩, ⟨⟨yf, hF.lk (hS _ (by omega) (by omega)) y1, y2⟩, fun n hn => ?_⟩, g4.ex hF (hS _ (by omega) (by omega)) (hS _ (by omega) (by omega)), g5.ex hF (hS _ (by omega) (by omega)) (hS _ (by omega) (by omega)), g6.ex hF (hS _ (by omega) (by omega)) (hS _ (by omega) (by omega)), g7.ex hF (hS _ (by omega) (by omega)) (hS _ (by omega) (by omega))⟩
  · obtain ⟨N, hN, hV⟩ := t3 s hs
    exact ⟨N, hN, hV.ex hF (hS _ (by omega) (by omega)) (hS _ (by omega) (by omega))⟩
  · obtain ⟨y, hy, hV⟩ := y3 n hn
    exact ⟨y, hF.lk (hS _ (by omega) (by omega)) hy, hV⟩
theorem cirA.ex {S : Nat → Prop} {w w' : Wd} {k s C : Nat} (h : cirA w C) (hF : EX S k s w w') (hS : ∀ i, C ≤ i → i ≤ C + 59 → ¬ S i) : cirA w' C := by
  obtain ⟨tp, mk, lf, h1, ⟨pf, mf, a1, a2, h3⟩, h4, ⟨rs, h5⟩, qs, h6⟩ := h
  refine ⟨tp, mk, lf, hF.lk (hS _ (by omega) (by omega)) h1, ⟨pf, mf, hF.lk (hS _ (by omega) (by omega)) a1, hF.lk (hS _ (by omega) (by omega)) a2, fun n hn => ⟨(h3 n hn).1, fun hc => ?_⟩⟩, hF.lk (hS _ (by omega) (by omega)) h4, ⟨rs, hF.lk (hS _ (by omega) (by omega)) h5⟩, qs, hF.lk (hS _ (by omega) (by omega)) h6⟩
  obtain ⟨v, b, f, g1, g2, g3, g4, g5, g6⟩ := (h3 n hn).2 hc
  exact ⟨v, b, f, g1, g2, g3, hF.lk (hS v (by omega) (by omega)) g4, hF.lk (hS b (by omega) (by omega)) g5, g6⟩
/-- tools that are left alone -/
theorem wkC.ex {S : Nat → Prop} {w w' : Wd} {k s X : Nat} (h : wkC w X) (hE : EX S k s w w') (hS : ∀ i, (X + 3 ≤ i ∧ i ≤ X + 131) ∨ i = X + 136 ∨ i = X + 137 → ¬ S i) : wkC w' X := by
  obtain ⟨⟨n, tp, R, h1⟩, ⟨bb, bl, h2⟩, h3, ⟨m, hh, lv, ia, lk, on, rw9, en, a1, ⟨⟨tf, b1, b2⟩, b3⟩, a3, a4, a5⟩, ⟨g1, h5⟩, g2, h6⟩ := h
  refine ⟨⟨n, tp, R, h1.ex hE (hS _ (by omega)) (fun i _ _ => hS _ (by omega))⟩, ⟨bb, bl, h2.ex hE (fun i _ _ => hS _ (by omega))⟩, h3.ex hE (fun i _ _ => hS _ (by omega)), ⟨m, hh, lv, ia, lk, on, rw9, en, hE.lk (hS _ (by omega)) a1, ⟨⟨tf, hE.lk (hS _ (by omega)) b1, b2⟩, fun k hk => (b3 k hk).ex hE (hS _ (by omega)) (hS _ (by omega))⟩, a3.ex hE (hS _ (by omega)) (hS _ (by omega)), hE.lk (hS _ (by omega)) a4, hE.lk (hS _ (by omega)) a5⟩, ⟨g1, hE.lk (hS _ (by omega)) h5⟩, g2, hE.lk (hS _ (by omega)) h6⟩
theorem tapC.ex {S : Nat → Prop} {w w' : Wd} {k s X tl : Nat} {tb : Nat → Int32} (h : tapC w X tl tb) (hE : EX S k s w w') (h1 : ¬ S (X + 1)) (h2 : ¬ S (X + 2)) : tapC w' X tl tb := by
  obtain ⟨a, pl, f, b, c, d⟩ := h
  exact ⟨a, pl, f, hE.lk h1 b, hE.lk h2 c, d⟩
theorem pasC.ex {S : Nat → Prop} {w w' : Wd} {k s X pn : Nat} {pk : Nat → Nat} {ps : Nat → SV} (h : pasC w X pn pk ps) (hE : EX S k s w w') (h1 : ∀ i, X + 132 ≤ i → i ≤ X + 134 → ¬ S i) (hS : ∀ i, S i → i < X + 139) : pasC w' X pn pk ps := by
  obtain ⟨a, hh, g, b, c, d, e⟩ := h
  refine ⟨a, hh, g, hE.lk (h1 _ (by omega) (by omega)) b, hE.lk (h1 _ (by omega) (by omega)) c, hE.lk (h1 _ (by omega) (by omega)) d, fun i hi => ?_⟩
  obtain ⟨v, e1, e2, e3⟩ := e i hi
  exact ⟨v, e1, e2.ex hE hS, e3⟩
theorem imgC.ex {S : Nat → Prop} {w w' : Wd} {k s X : Nat} {im : Nat → Option SV} (h : imgC w X im) (hE : EX S k s w w') (h1 : ¬ S (X + 135)) (hS : ∀ i, S i → i < X + 139) : imgC w' X im := by
  obtain ⟨f, a, b⟩ := h
  refine ⟨f, hE.lk h1 a, fun k hk => ⟨fun V hV => ?_, (b k hk).2⟩⟩
  obtain ⟨v, e1, e2⟩ := (b k hk).1 V hV
  exact ⟨v, e1, e2.ex hE hS⟩
theorem refC.ex {S : Nat → Prop} {w w' : Wd} {k s X : Nat} {rf : Nat → Nat} (h : refC w X rf) (hE : EX S k s w w') (h1 : ¬ S (X + 138)) : refC w' X rf := by
  obtain ⟨g, a, b⟩ := h
  exact ⟨g, hE.lk h1 a, b⟩
