/-! both objects side by side: what one does leaves the other -/
theorem mdC.kp9 {w w' : Wd} {Y : Nat} {tl : Nat} {tb : Nat → Int32} {fa st : Int32} {rf : Nat → Nat} {sh : SV} {pn : Nat} {pk : Nat → Nat} {ps : Nat → SV} {im : Nat → Option SV} (hM : mdC w Y tl tb fa st rf sh pn pk ps im) (L : ∀ i c, Y ≤ i → w[i]? = some c → w'[i]? = some c) : mdC w' Y tl tb fa st rf sh pn pk ps im := by
  have K : ∀ i c, w[Y + i]? = some c → w'[Y + i]? = some c := fun i c hc => L _ _ (by omega) hc
  obtain ⟨⟨th, dg, dd, ld, be, ib, re, ig, hY⟩, ⟨⟨g1, a1, b1⟩, ⟨g2, a2, b2⟩, ⟨g3, g4, a3, a4, b3, b4⟩, ⟨g5, g6, a5, a6, b5⟩, ⟨g11, a11, b11⟩, ⟨g17, a17, b17⟩⟩, ⟨g7, g8, g9, g10, g12, g13, g14, g18, g19, g20, g21, a7, a8, a9, a10, a12, a13, a14, a18, a19, a20, a21⟩, ⟨g15, g16, a15, a16, b15⟩⟩ := hM
  exact ⟨⟨_, _, _, _, _, _, _, _, K 0 _ hY⟩, ⟨⟨g1, K 1 _ a1, b1⟩, ⟨g2, K 2 _ a2, b2⟩, ⟨g3, g4, K 3 _ a3, K 4 _ a4, b3, b4⟩, ⟨g5, g6, K 5 _ a5, K 6 _ a6, b5⟩, ⟨g11, K 11 _ a11, b11⟩, ⟨g17, K 17 _ a17, b17⟩⟩, ⟨_, _, _, _, _, _, _, _, _, _, _, K 7 _ a7, K 8 _ a8, K 9 _ a9, K 10 _ a10, K 12 _ a12, K 13 _ a13, K 14 _ a14, K 18 _ a18, K 19 _ a19, K 20 _ a20, K 21 _ a21⟩, ⟨_, _, K 15 _ a15, K 16 _ a16, b15⟩⟩
theorem mdC.ex {w w' : Wd} {X Y k s : Nat} {tl : Nat} {tb : Nat → Int32} {fa st : Int32} {rf : Nat → Nat} {sh : SV} {pn : Nat} {pk : Nat → Nat} {ps : Nat → SV} {im : Nat → Option SV} (hM : mdC w Y tl tb fa st rf sh pn pk ps im) (hE : EX (boxS X) k s w w') (hXY : X + 145 < Y) : mdC w' Y tl tb fa st rf sh pn pk ps im :=
  hM.kp9 (fun i c hi hc => by rw [hE.2.2.2.2 i (List.getElem?_eq_some_iff.mp hc).1 (by unfold boxS; omega)]; exact hc)
/-- the kinds of cells that the reference has -/
def ycl : Ce → Bool
  | .inr (k, _) => k == 11
  | .inl (0, n, _) => [7, 626, 5008, 8, 1252, 602, 5, 13, 4].contains n
  | .inl (k, _) => decide (k ≤ 3)
theorem ycl_md {w : Wd} {Y : Nat} {tl : Nat} {tb : Nat → Int32} {fa st : Int32} {rf : Nat → Nat} {sh : SV} {pn : Nat} {pk : Nat → Nat} {ps : Nat → SV} {im : Nat → Option SV} (hM : mdC w Y tl tb fa st rf sh pn pk ps im) {i : Nat} {c : Ce} (hi : modS Y i) (hc : w[i]? = some c) : ycl c = true := by
  obtain ⟨⟨th, dg, dd, ld, be, ib, re, ig, hY⟩, ⟨⟨g1, a1, b1⟩, ⟨g2, a2, b2⟩, ⟨g3, g4, a3, a4, b3, b4⟩, ⟨g5, g6, a5, a6, b5⟩, ⟨g11, a11, b11⟩, ⟨g17, a17, b17⟩⟩, ⟨g7, g8, g9, g10, g12, g13, g14, g18, g19, g20, g21, a7, a8, a9, a10, a12, a13, a14, a18, a19, a20, a21⟩, ⟨g15, g16, a15, a16, b15⟩⟩ := hM
  have K : ∀ j d, i = Y + j → w[Y + j]? = some d → ycl d = true → ycl c = true := fun j d e h1 h2 => by
    rw [e, h1] at hc
    rw [← Option.some.inj hc]
    exact h2
  obtain ⟨j, hj⟩ : ∃ j, i = Y + j := ⟨i - Y, by unfold modS at hi; omega⟩
  have hj21 : j < 22 := by unfold modS at hi; omega
  rcases (show j = 0 ∨ j = 1 ∨ j = 2 ∨ j = 3 ∨ j = 4 ∨ j = 5 ∨ j = 6 ∨ j = 7 ∨ j = 8 ∨ j = 9 ∨ j = 10 ∨ j = 11 ∨ j = 12 ∨ j = 13 ∨ j = 14 ∨ j = 15 ∨ j = 16 ∨ j = 17 ∨ j = 18 ∨ j = 19 ∨ j = 20 ∨ j = 21 by omega) with rfl | rfl | rfl | rfl | rfl | rfl | rfl | rfl | rfl | rfl | rfl | rfl | rfl | rfl | rfl | rfl | rfl | rfl | rfl | rfl | rfl | rfl
  · exact K 0 _ hj hY rfl
  · exact K 1 _ hj a1 rfl
  · exact K 2 _ hj a2 rfl
  · exact K 3 _ hj a3 rfl
  · exact K 4 _ hj a4 rfl
  · exact K 5 _ hj a5 rfl
  · exact K 6 _ hj a6 rfl
  · exact K 7 _ hj a7 rfl
  · exact K 8 _ hj a8 rfl
  · exact K 9 _ hj a9 rfl
  · exact K 10 _ hj a10 rfl
  · exact K 11 _ hj a11 rfl
  · exact K 12 _ hj a12 rfl
  · exact K 13 _ hj a13 rfl
  · exact K 14 _ hj a14 rfl
  · exact K 15 _ hj a15 rfl
  · exact K 16 _ hj a16 rfl
  · exact K 17 _ hj a17 rfl
  · exact K 18 _ hj a18 rfl
  · exact K 19 _ hj a19 rfl
  · exact K 20 _ hj a20 rfl
  · exact K 21 _ hj a21 rfl
/-- the cell ahead of the reference is no polynomial -/
def npY (w : Wd) (Y : Nat) : Prop := ∃ c, w[Y - 1]? = some c ∧ ∀ fs, c ≠ .inr (6, fs)
theorem npY.kp {w w' : Wd} {Y : Nat} (h : npY w Y) (L : ∀ c, w[Y - 1]? = some c → w'[Y - 1]? = some c) : npY w' Y := by
  obtain ⟨c, h1, h2⟩ := h
  exact ⟨c, L c h1, h2⟩
theorem shC.md {w w' : Wd} {X Y s : Nat} {tl : Nat} {tb : Nat → Int32} {fa st : Int32} {rf : Nat → Nat} {sh : SV} {pn : Nat} {pk : Nat → Nat} {ps : Nat → SV} {im : Nat → Option SV} {V : SV} (hS : shC w (X + 139) s V) (hM : mdC w Y tl tb fa st rf sh pn pk ps im) (hR : FR (modS Y) w w') (hn : npY w Y) (h0 : 0 < Y) : shC w' (X + 139) s V := by
  have K : ∀ i c, ycl c = false → w[i]? = some c → w'[i]? = some c := fun i c h1 h2 => hR.lk (fun g => by rw [ycl_md hM g h2] at h1; cases h1) h2
  obtain ⟨p, f, h, a1, a2, a3, a4, a5, ⟨e, g, b1, b2, b3, b4, b5, b6, b7, b8⟩⟩ := hS
  refine ⟨p, f, h, K _ _ rfl a1, K _ _ rfl a2, a3, a4, fun i hi => ?_, ⟨e, g, K _ _ rfl b1, K _ _ ?_ b2, b3, b4, b5, b6, b7, b8⟩⟩
  · obtain ⟨v, p1, b, c, q1, q2, q3, q4, q5⟩ := a5 i hi
    refine ⟨v, p1, b, c, K _ _ rfl q1, hR.lk (fun gb => ?_) q2, q3, q4, q5⟩
    have gv : ¬ modS Y v := fun gv => by
      have e9 : true = false := (ycl_md hM gv q1).symm.trans rfl
      cases e9
    have gY : b ≠ Y := fun e9 => by
      obtain ⟨⟨th, dg, dd, ld, be, ib, re, ig, hY⟩, -⟩ := hM
      rw [e9, hY] at q2
      cases q2
    have gv1 : v ≠ Y - 1 := fun e9 => by
      obtain ⟨c9, h1, h2⟩ := hn
      rw [← e9, q1] at h1
      exact h2 _ (Option.some.inj h1).symm
    unfold modS at gb gv
    rcases q4.2 with e9 | e9 <;> omega
  · show [7, 626, 5008, 8, 1252, 602, 5, 13, 4].contains (16 * V.2.2.2.2.2.1) = false
    have hk : V.2.2.2.2.2.1 ≤ 30 := b7
    simp only [List.contains_eq_mem, List.mem_cons, List.not_mem_nil, or_false, decide_eq_false_iff_not]
    omega
theorem bxC.md {w w' : Wd} {X Y : Nat} {tl : Nat} {tb : Nat → Int32} {fa st : Int32} {rf : Nat → Nat} {sh : SV} {pn : Nat} {pk : Nat → Nat} {ps : Nat → SV} {im : Nat → Option SV} {tl2 : Nat} {tb2 : Nat → Int32} {fa2 st2 : Int32} {rf2 : Nat → Nat} {sh2 : SV} {pn2 : Nat} {pk2 : Nat → Nat} {ps2 : Nat → SV} {im2 : Nat → Option SV} (hB : bxC w X tl tb fa st rf sh pn pk ps im) (hM : mdC w Y tl2 tb2 fa2 st2 rf2 sh2 pn2 pk2 ps2 im2) (hR : FR (modS Y) w w') (hXY : X + 145 < Y) (hn : npY w Y) : bxC w' X tl tb fa st rf sh pn pk ps im := by
  have L : ∀ i c, i ≤ X + 138 → w[i]? = some c → w'[i]? = some c := fun i c h1 h2 => hR.lk (by unfold modS; omega) h2
  have S : ∀ s V, shC w (X + 139) s V → shC w' (X + 139) s V := fun s V h => h.md hM hR hn (by omega)
  obtain ⟨⟨s, h1, h2⟩, ⟨t1, tp, tf, t2, t3, t4⟩, ⟨⟨n1, tp1, R1, k1⟩, ⟨bb, bl, k2⟩, k3, ⟨n2, h9, lv, ia, lk, on, rw9, en, m1, m2, m3, m4, m5⟩, ⟨g1, k5⟩, ⟨g2, k6⟩⟩, ⟨p0, ph, pg, p1, p2, p3, p4⟩, ⟨ff, i1, i2⟩, ⟨rg, r1, r2⟩⟩ := hB
  refine ⟨⟨s, L _ _ (by omega) h1, S _ _ h2⟩, ⟨t1, tp, tf, L _ _ (by omega) t2, L _ _ (by omega) t3, t4⟩, ⟨⟨n1, tp1, R1, ladC.kp k1 (fun i c a b g => L _ _ (by omega) g)⟩, ⟨bb, bl, k2.kp (fun i c a b g => L _ _ (by omega) g)⟩, k3.kp (fun i c a b g => L _ _ (by omega) g), ⟨n2, h9, lv, ia, lk, on, rw9, en, L _ _ (by omega) m1, m2.kp (fun i c a b g => L _ _ (by omega) g), wh_keep m3 (fun c h => L _ _ (by omega) h) (fun c h => L _ _ (by omega) h), L _ _ (by omega) m4, L _ _ (by omega) m5⟩, ⟨g1, L _ _ (by omega) k5⟩, ⟨g2, L _ _ (by omega) k6⟩⟩, ⟨p0, ph, pg, L _ _ (by omega) p1, L _ _ (by omega) p2, L _ _ (by omega) p3, fun i hi => ?_⟩, ⟨ff, L _ _ (by omega) i1, fun k hk => ⟨fun V hV => ?_, (i2 k hk).2⟩⟩, ⟨rg, L _ _ (by omega) r1, r2⟩⟩
  · obtain ⟨v, q1, q2, q3⟩ := p4 i hi
    exact ⟨v, q1, S _ _ q2, q3⟩
  · obtain ⟨v, q1, q2⟩ := (i2 k hk).1 V hV
    exact ⟨v, q1, S _ _ q2⟩
/-- behind n calls: class and reference have the same values -/
def Inv (n : Nat) (w : Wd) (X Y : Nat) : Prop := X + 145 < Y ∧ npY w Y ∧ (w.length ≤ 200 + 4 * n ∧ slW w ≤ 13000 + 500 * n) ∧ ∃ tl tb fa st rf sh pn pk ps im, bxC w X tl tb fa st rf sh pn pk ps im ∧ mdC w Y tl tb fa st rf sh pn pk ps im
theorem Inv.s {n : Nat} {w w1 w2 : Wd} {X Y k s : Nat} {tl : Nat} {tb : Nat → Int32} {fa st : Int32} {rf : Nat → Nat} {sh : SV} {pn : Nat} {pk : Nat → Nat} {ps : Nat → SV} {im : Nat → Option SV} {tl2 : Nat} {tb2 : Nat → Int32} {fa2 st2 : Int32} {rf2 : Nat → Nat} {sh2 : SV} {pn2 : Nat} {pk2 : Nat → Nat} {ps2 : Nat → SV} {im2 : Nat → Option SV} (h : Inv n w X Y) (hE : EX (boxS X) k s w w1) (hk : k ≤ 4) (hs : s ≤ 500) (hB : bxC w1 X tl tb fa st rf sh pn pk ps im) (hM1 : mdC w1 Y tl2 tb2 fa2 st2 rf2 sh2 pn2 pk2 ps2 im2) (hM2 : mdC w2 Y tl tb fa st rf sh pn pk ps im) (hF : FR (modS Y) w1 w2) : Inv (n + 1) w2 X Y := by
  obtain ⟨h1, h2, ⟨h3, h4⟩, -⟩ := h
  have hn1 : npY w1 Y := h2.kp (fun c hc => by rw [hE.2.2.2.2 _ (List.getElem?_eq_some_iff.mp hc).1 (by unfold boxS; omega)]; exact hc)
  have e1 := hE.2.1
  have e2 := hE.2.2.2.1
  refine ⟨h1, hn1.kp (fun c hc => hF.lk (by unfold modS; omega) hc), ⟨by rw [hF.1]; omega, by rw [hF.2.1]; omega⟩, _, _, _, _, _, _, _, _, _, _, hB.md hM1 hF h1 hn1, hM2⟩
theorem topI_uq {G : Nat → Int} {K c c' : Nat} (h : topI G K c) (h' : topI G K c') : c = c' := by
  have U : ∀ a b, topI G K a → topI G K b → a < b → False := fun a b ha hb hab => by
    rcases hb.2.2 with e | e
    · omega
    · exact e (ha.2.1 (b - 1) (by omega) (by have := hb.1; omega))
  rcases Nat.lt_trichotomy c c' with g | g | g
  · exact absurd (U c c' h h' g) (fun x => x)
  · exact g
  · exact absurd (U c' c h' h g) (fun x => x)
theorem nI8 {i j : Nat} (e : nI i = nI j) (hi : i < 10000000) (hj : j < 10000000) : i = j := (nI_inj (by omega) (by omega)).mp e
/-- an act put by both -/
theorem pp_ag {n : Nat} {w w1 : Wd} {X Y kd k : Nat} {F : Nat → Int} {tl : Nat} {tb : Nat → Int32} {fa : Int32} {rf : Nat → Nat} {sh : SV} {pn : Nat} {pk : Nat → Nat} {ps : Nat → SV} {im : Nat → Option SV} {tl2 : Nat} {tb2 : Nat → Int32} {fa2 st2 : Int32} {rf2 : Nat → Nat} {sh2 : SV} {pn2 : Nat} {pk2 : Nat → Nat} {ps2 : Nat → SV} {im2 : Nat → Option SV} {r : Option Value} (h : Inv n w X Y) (hM1 : mdC w1 Y tl2 tb2 fa2 st2 rf2 sh2 pn2 pk2 ps2 im2) (hP : putP F kd k w X tl tb fa rf sh pn pk ps im r w1) : ∃ v : Int32, r = some (.int v) ∧ ∀ r' w2, putM F kd k w1 Y tl tb fa rf sh pn pk ps im r' w2 → r' = some (.int v) ∧ Inv (n + 1) w2 X Y := by
  obtain ⟨c, hc, ⟨h1, rfl, hB, hE⟩ | ⟨h1, rfl, hB, hE⟩⟩ := hP
  · refine ⟨_, rfl, ?_⟩
    rintro r' w2 ⟨c', hc', ⟨-, rfl, hM2, hF⟩ | ⟨g1, -⟩⟩
    · exact ⟨rfl, h.s hE (by omega) (by omega) hB hM1 hM2 hF⟩
    · exact absurd (topI_uq hc hc' ▸ g1) h1
  · refine ⟨_, rfl, ?_⟩
    rintro r' w2 ⟨c', hc', ⟨g1, -⟩ | ⟨-, rfl, hM2, hF⟩⟩
    · exact absurd (topI_uq hc hc' ▸ h1) g1
    · have e := topI_uq hc hc'
      subst e
      exact ⟨rfl, h.s hE (by omega) (by omega) hB hM1 hM2 hF⟩
theorem rf_ag {n : Nat} {w w1 : Wd} {X Y slot : Nat} {code : Int32} {tl : Nat} {tb : Nat → Int32} {fa : Int32} {rf : Nat → Nat} {sh : SV} {pn : Nat} {pk : Nat → Nat} {ps : Nat → SV} {im : Nat → Option SV} {tl2 : Nat} {tb2 : Nat → Int32} {fa2 st2 : Int32} {rf2 : Nat → Nat} {sh2 : SV} {pn2 : Nat} {pk2 : Nat → Nat} {ps2 : Nat → SV} {im2 : Nat → Option SV} {r : Option Value} (h : Inv n w X Y) (hM1 : mdC w1 Y tl2 tb2 fa2 st2 rf2 sh2 pn2 pk2 ps2 im2) (hP : rfP code slot w X tl tb fa rf sh pn pk ps im r w1) : r = some (.int code) ∧ ∀ r' w2, rfM code slot w1 Y tl tb fa rf sh pn pk ps im r' w2 → r' = some (.int code) ∧ Inv (n + 1) w2 X Y := by
  obtain ⟨rfl, hB, hE⟩ := hP
  refine ⟨rfl, ?_⟩
  rintro r' w2 ⟨rfl, hM2, hF⟩
  exact ⟨rfl, h.s hE (by omega) (by omega) hB hM1 hM2 hF⟩
theorem putP.ex {F : Nat → Int} {kd k : Nat} {w w' : Wd} {X : Nat} {tl : Nat} {tb : Nat → Int32} {fa : Int32} {rf : Nat → Nat} {sh : SV} {pn : Nat} {pk : Nat → Nat} {ps : Nat → SV} {im : Nat → Option SV} {r : Option Value} (h : putP F kd k w X tl tb fa rf sh pn pk ps im r w') : EX (boxS X) 4 25 w w' := by
  obtain ⟨c, hc, ⟨h1, rfl, hB, hE⟩ | ⟨h1, rfl, hB, hE⟩⟩ := h <;> exact hE
