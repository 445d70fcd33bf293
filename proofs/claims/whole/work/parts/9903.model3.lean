/-! the reference by its values: mdC; tell, refuse, remember -/
def rfR (g : Nat → Int32) (rf : Nat → Nat) : Prop := g 1 = nI (rf 0) ∧ g 2 = nI (rf 1) ∧ g 4 = nI (rf 2) ∧ g 5 = nI (rf 3) ∧ g 6 = nI (rf 4)
def undR (u s : Nat → Int32) (pn : Nat) (pk : Nat → Nat) (ps : Nat → SV) : Prop := ∀ i, i < pn → rowR (fun k => u (626 * i + k)) (ps i) ∧ s i = nI (pk i)
def imgR (q b : Nat → Int32) (im : Nat → Option SV) : Prop := ∀ k, k < 2 → (∀ V, im k = some V → rowR (fun j => q (626 * k + j)) V ∧ b k = nI 1) ∧ (im k = none → b k = nI 0)
def ciR (g : Nat → Int32) : Prop := ∀ n, 1 ≤ n → n < 43 → (cyIs n → g (14 * n) = nI (cyDg n) ∧ ∀ p, p < 13 → (g (14 * n + 1 + p)).toInt = cyG n p) ∧ (¬ cyIs n → g (14 * n) = -1)
def tpR (f tb : Nat → Int32) (tl : Nat) : Prop := tl ≤ 400 ∧ ∀ i, i < tl → ub (f i) = ub (tb i) ∧ sb (f i) = f i
def thR (t : Nat → Int64) (m : Nat → Int32) : Prop := ∀ k, k < 8 → m k = nI 0 ∨ ∃ n, m k = nI n ∧ 0 < n ∧ n ≤ 90 ∧ wf (fun i => t (90 * k + i)) n ∧ vl (fun i => t (90 * k + i)) n = ((1000 ^ (2 ^ k) : Nat) : Int)
def mdO (w : Wd) (Y tl : Nat) (fa st : Int32) (pn : Nat) : Prop := ∃ th dg dd ld be ib re ig, w[Y]? = some (oM Y th st (nI pn) dg dd ld be ib (nI tl) fa re ig)
def mdP (w : Wd) (Y tl : Nat) (tb : Nat → Int32) (rf : Nat → Nat) (sh : SV) (pn : Nat) (pk : Nat → Nat) (ps : Nat → SV) (im : Nat → Option SV) : Prop := (∃ g, w[Y + 1]? = some (aI 0 7 g) ∧ rfR g rf) ∧ (∃ g, w[Y + 2]? = some (aI 0 626 g) ∧ rowR g sh) ∧ (∃ u s, w[Y + 3]? = some (aI 0 5008 u) ∧ w[Y + 4]? = some (aI 0 8 s) ∧ pn ≤ 8 ∧ undR u s pn pk ps) ∧ (∃ q b, w[Y + 5]? = some (aI 0 1252 q) ∧ w[Y + 6]? = some (aI 3 2 b) ∧ imgR q b im) ∧ (∃ g, w[Y + 11]? = some (aI 0 602 g) ∧ ciR g) ∧ ∃ f, w[Y + 17]? = some (aI 2 400 f) ∧ tpR f tb tl
def mdK (w : Wd) (Y : Nat) : Prop := ∃ h d q r l dg m b bo lo hi, w[Y + 7]? = some (aL 60 h) ∧ w[Y + 8]? = some (aL 14 d) ∧ w[Y + 9]? = some (aL 60 q) ∧ w[Y + 10]? = some (aL 60 r) ∧ w[Y + 12]? = some (aL 91 l) ∧ w[Y + 13]? = some (aL 450 dg) ∧ w[Y + 14]? = some (aI 0 5 m) ∧ w[Y + 18]? = some (aI 0 13 b) ∧ w[Y + 19]? = some (aI 0 4 bo) ∧ w[Y + 20]? = some (aI 0 8 lo) ∧ w[Y + 21]? = some (aI 0 8 hi)
def mdT (w : Wd) (Y : Nat) : Prop := ∃ t m, w[Y + 15]? = some (aL 720 t) ∧ w[Y + 16]? = some (aI 0 8 m) ∧ thR t m
def mdC (w : Wd) (Y tl : Nat) (tb : Nat → Int32) (fa st : Int32) (rf : Nat → Nat) (sh : SV) (pn : Nat) (pk : Nat → Nat) (ps : Nat → SV) (im : Nat → Option SV) : Prop := mdO w Y tl fa st pn ∧ mdP w Y tl tb rf sh pn pk ps im ∧ mdK w Y ∧ mdT w Y
def modS (Y i : Nat) : Prop := Y ≤ i ∧ i ≤ Y + 21
def rfM (code : Int32) (slot : Nat) (w : Wd) (Y tl : Nat) (tb : Nat → Int32) (fa : Int32) (rf : Nat → Nat) (sh : SV) (pn : Nat) (pk : Nat → Nat) (ps : Nat → SV) (im : Nat → Option SV) (r : Option Value) (w' : Wd) : Prop := r = some (.int code) ∧ mdC w' Y tl tb fa code (incr rf slot) sh pn pk ps im ∧ FR (modS Y) w w'
theorem rfM.fr {code : Int32} {slot : Nat} {w w1 w' : Wd} {Y tl : Nat} {tb : Nat → Int32} {fa : Int32} {rf : Nat → Nat} {sh : SV} {pn : Nat} {pk : Nat → Nat} {ps : Nat → SV} {im : Nat → Option SV} {r : Option Value} (h : rfM code slot w1 Y tl tb fa rf sh pn pk ps im r w') (hF : FR (modS Y) w w1) : rfM code slot w Y tl tb fa rf sh pn pk ps im r w' := ⟨h.1, h.2.1, hF.tr h.2.2⟩
theorem mdP.kp {w w' : Wd} {Y tl : Nat} {tb : Nat → Int32} {rf : Nat → Nat} {sh : SV} {pn : Nat} {pk : Nat → Nat} {ps : Nat → SV} {im : Nat → Option SV} (h : mdP w Y tl tb rf sh pn pk ps im) (L : ∀ i c, i ≠ Y → w[i]? = some c → w'[i]? = some c) : mdP w' Y tl tb rf sh pn pk ps im := by
  obtain ⟨⟨g1, a1, b1⟩, ⟨g2, a2, b2⟩, ⟨g3, g4, a3, a4, b3⟩, ⟨g5, g6, a5, a6, b5⟩, ⟨g11, a11, b11⟩, ⟨g17, a17, b17⟩⟩ := h
  exact ⟨⟨g1, L _ _ (by omega) a1, b1⟩, ⟨g2, L _ _ (by omega) a2, b2⟩, ⟨g3, g4, L _ _ (by omega) a3, L _ _ (by omega) a4, b3⟩, ⟨g5, g6, L _ _ (by omega) a5, L _ _ (by omega) a6, b5⟩, ⟨g11, L _ _ (by omega) a11, b11⟩, ⟨g17, L _ _ (by omega) a17, b17⟩⟩
theorem mdK.kp {w w' : Wd} {Y : Nat} (h : mdK w Y) (L : ∀ i c, i ≠ Y → w[i]? = some c → w'[i]? = some c) : mdK w' Y := by
  obtain ⟨g7, g8, g9, g10, g12, g13, g14, g18, g19, g20, g21, a7, a8, a9, a10, a12, a13, a14, a18, a19, a20, a21⟩ := h
  exact ⟨g7, g8, g9, g10, g12, g13, g14, g18, g19, g20, g21, L _ _ (by omega) a7, L _ _ (by omega) a8, L _ _ (by omega) a9, L _ _ (by omega) a10, L _ _ (by omega) a12, L _ _ (by omega) a13, L _ _ (by omega) a14, L _ _ (by omega) a18, L _ _ (by omega) a19, L _ _ (by omega) a20, L _ _ (by omega) a21⟩
theorem mdT.kp {w w' : Wd} {Y : Nat} (h : mdT w Y) (L : ∀ i c, i ≠ Y → w[i]? = some c → w'[i]? = some c) : mdT w' Y := by
  obtain ⟨t, m, a, b, c⟩ := h
  exact ⟨t, m, L _ _ (by omega) a, L _ _ (by omega) b, c⟩
theorem mq_tell (w : Wd) {Y tl : Nat} {tb : Nat → Int32} {fa st : Int32} {rf : Nat → Nat} {sh : SV} {pn : Nat} {pk : Nat → Nat} {ps : Nat → SV} {im : Nat → Option SV} (hM : mdC w Y tl tb fa st rf sh pn pk ps im) {v : Int32} : EX12_tell [.ref Y, .int v] w (fun r w' => r = some (.int v) ∧ mdC w' Y tl tb fa (nI 0) rf sh pn pk ps im ∧ FR (modS Y) w w') := by
  obtain ⟨⟨th, dg, dd, ld, be, ib, re, ig, hY⟩, hP, hK, hT⟩ := hM
  refine EP.mono (mp_tell w hY) (fun r w' h => ?_)
  obtain ⟨rfl, e⟩ := h
  have hF : FR (modS Y) w w' := by rw [e]; exact FR.set hY rfl (by unfold modS; omega)
  have L : ∀ i c, i ≠ Y → w[i]? = some c → w'[i]? = some c := fun i c a b => by rw [e]; exact lk_ne (Ne.symm a) b
  exact ⟨rfl, ⟨⟨_, _, _, _, _, _, _, _, by rw [e]; exact lk_eq hY⟩, hP.kp L, hK.kp L, hT.kp L⟩, hF⟩
theorem mq_refuse1 (w : Wd) {Y tl : Nat} {tb : Nat → Int32} {fa st : Int32} {rf : Nat → Nat} {sh : SV} {pn : Nat} {pk : Nat → Nat} {ps : Nat → SV} {im : Nat → Option SV} (hM : mdC w Y tl tb fa st rf sh pn pk ps im) : EX12_refuse [.ref Y, .int (-1)] w (fun r w' => rfM (-1) 0 w Y tl tb fa rf sh pn pk ps im r w') := by
  obtain ⟨⟨th, dg, dd, ld, be, ib, re, ig, hY⟩, ⟨⟨g1, a1, b1⟩, hP⟩, hK, hT⟩ := hM
  refine EP.mono (mp_refuse w (j := 1) hY a1 ⟨by decide, by decide⟩) (fun r w' h => ?_)
  obtain ⟨rfl, e⟩ := h
  have hF : FR (modS Y) w w' := by rw [e]; exact FR.st (FR.st FR.rf hY rfl (by unfold modS; omega)) (lk_ne (by omega) a1) rfl (by unfold modS; omega)
  have L : ∀ i c, i ≠ Y → i ≠ Y + 1 → w[i]? = some c → w'[i]? = some c := fun i c a b g => by rw [e]; exact lk_ne (Ne.symm b) (lk_ne (Ne.symm a) g)
  obtain ⟨⟨g2, a2, b2⟩, ⟨g3, g4, a3, a4, b3⟩, ⟨g5, g6, a5, a6, b5⟩, ⟨g11, a11, b11⟩, ⟨g17, a17, b17⟩⟩ := hP
  obtain ⟨g7, g8, g9, g10, g12, g13, g14, g18, g19, g20, g21, a7, a8, a9, a10, a12, a13, a14, a18, a19, a20, a21⟩ := hK
  obtain ⟨t, m, a15, a16, b15⟩ := hT
  refine ⟨rfl, ⟨⟨_, _, _, _, _, _, _, _, by rw [e]; exact lk_ne (by omega) (lk_eq hY)⟩, ⟨⟨_, by rw [e]; exact lk_eq (lk_ne (by omega) a1), ?_⟩, ⟨g2, L _ _ (by omega) (by omega) a2, b2⟩, ⟨g3, g4, L _ _ (by omega) (by omega) a3, L _ _ (by omega) (by omega) a4, b3⟩, ⟨g5, g6, L _ _ (by omega) (by omega) a5, L _ _ (by omega) (by omega) a6, b5⟩, ⟨g11, L _ _ (by omega) (by omega) a11, b11⟩, ⟨g17, L _ _ (by omega) (by omega) a17, b17⟩⟩, ⟨g7, g8, g9, g10, g12, g13, g14, g18, g19, g20, g21, L _ _ (by omega) (by omega) a7, L _ _ (by omega) (by omega) a8, L _ _ (by omega) (by omega) a9, L _ _ (by omega) (by omega) a10, L _ _ (by omega) (by omega) a12, L _ _ (by omega) (by omega) a13, L _ _ (by omega) (by omega) a14, L _ _ (by omega) (by omega) a18, L _ _ (by omega) (by omega) a19, L _ _ (by omega) (by omega) a20, L _ _ (by omega) (by omega) a21⟩, ⟨t, m, L _ _ (by omega) (by omega) a15, L _ _ (by omega) (by omega) a16, b15⟩⟩, hF⟩
  obtain ⟨c1, c2, c3, c4, c5⟩ := b1
  refine ⟨?_, ?_, ?_, ?_, ?_⟩
  · rw [upd_s, c1, nI_inc]; rfl
  · rw [upd_n (by decide), c2]; rfl
  · rw [upd_n (by decide), c3]; rfl
  · rw [upd_n (by decide), c4]; rfl
  · rw [upd_n (by decide), c5]; rfl
theorem mq_refuse2 (w : Wd) {Y tl : Nat} {tb : Nat → Int32} {fa st : Int32} {rf : Nat → Nat} {sh : SV} {pn : Nat} {pk : Nat → Nat} {ps : Nat → SV} {im : Nat → Option SV} (hM : mdC w Y tl tb fa st rf sh pn pk ps im) : EX12_refuse [.ref Y, .int (-2)] w (fun r w' => rfM (-2) 1 w Y tl tb fa rf sh pn pk ps im r w') := by
  obtain ⟨⟨th, dg, dd, ld, be, ib, re, ig, hY⟩, ⟨⟨g1, a1, b1⟩, hP⟩, hK, hT⟩ := hM
  refine EP.mono (mp_refuse w (j := 2) hY a1 ⟨by decide, by decide⟩) (fun r w' h => ?_)
  obtain ⟨rfl, e⟩ := h
  have hF : FR (modS Y) w w' := by rw [e]; exact FR.st (FR.st FR.rf hY rfl (by unfold modS; omega)) (lk_ne (by omega) a1) rfl (by unfold modS; omega)
  have L : ∀ i c, i ≠ Y → i ≠ Y + 1 → w[i]? = some c → w'[i]? = some c := fun i c a b g => by rw [e]; exact lk_ne (Ne.symm b) (lk_ne (Ne.symm a) g)
  obtain ⟨⟨g2, a2, b2⟩, ⟨g3, g4, a3, a4, b3⟩, ⟨g5, g6, a5, a6, b5⟩, ⟨g11, a11, b11⟩, ⟨g17, a17, b17⟩⟩ := hP
  obtain ⟨g7, g8, g9, g10, g12, g13, g14, g18, g19, g20, g21, a7, a8, a9, a10, a12, a13, a14, a18, a19, a20, a21⟩ := hK
  obtain ⟨t, m, a15, a16, b15⟩ := hT
  refine ⟨rfl, ⟨⟨_, _, _, _, _, _, _, _, by rw [e]; exact lk_ne (by omega) (lk_eq hY)⟩, ⟨⟨_, by rw [e]; exact lk_eq (lk_ne (by omega) a1), ?_⟩, ⟨g2, L _ _ (by omega) (by omega) a2, b2⟩, ⟨g3, g4, L _ _ (by omega) (by omega) a3, L _ _ (by omega) (by omega) a4, b3⟩, ⟨g5, g6, L _ _ (by omega) (by omega) a5, L _ _ (by omega) (by omega) a6, b5⟩, ⟨g11, L _ _ (by omega) (by omega) a11, b11⟩, ⟨g17, L _ _ (by omega) (by omega) a17, b17⟩⟩, ⟨g7, g8, g9, g10, g12, g13, g14, g18, g19, g20, g21, L _ _ (by omega) (by omega) a7, L _ _ (by omega) (by omega) a8, L _ _ (by omega) (by omega) a9, L _ _ (by omega) (by omega) a10, L _ _ (by omega) (by omega) a12, L _ _ (by omega) (by omega) a13, L _ _ (by omega) (by omega) a14, L _ _ (by omega) (by omega) a18, L _ _ (by omega) (by omega) a19, L _ _ (by omega) (by omega) a20, L _ _ (by omega) (by omega) a21⟩, ⟨t, m, L _ _ (by omega) (by omega) a15, L _ _ (by omega) (by omega) a16, b15⟩⟩, hF⟩
  obtain ⟨c1, c2, c3, c4, c5⟩ := b1
  refine ⟨?_, ?_, ?_, ?_, ?_⟩
  · rw [upd_n (by decide), c1]; rfl
  · rw [upd_s, c2, nI_inc]; rfl
  · rw [upd_n (by decide), c3]; rfl
  · rw [upd_n (by decide), c4]; rfl
  · rw [upd_n (by decide), c5]; rfl
theorem mq_refuse4 (w : Wd) {Y tl : Nat} {tb : Nat → Int32} {fa st : Int32} {rf : Nat → Nat} {sh : SV} {pn : Nat} {pk : Nat → Nat} {ps : Nat → SV} {im : Nat → Option SV} (hM : mdC w Y tl tb fa st rf sh pn pk ps im) : EX12_refuse [.ref Y, .int (-4)] w (fun r w' => rfM (-4) 2 w Y tl tb fa rf sh pn pk ps im r w') := by
  obtain ⟨⟨th, dg, dd, ld, be, ib, re, ig, hY⟩, ⟨⟨g1, a1, b1⟩, hP⟩, hK, hT⟩ := hM
  refine EP.mono (mp_refuse w (j := 4) hY a1 ⟨by decide, by decide⟩) (fun r w' h => ?_)
  obtain ⟨rfl, e⟩ := h
  have hF : FR (modS Y) w w' := by rw [e]; exact FR.st (FR.st FR.rf hY rfl (by unfold modS; omega)) (lk_ne (by omega) a1) rfl (by unfold modS; omega)
  have L : ∀ i c, i ≠ Y → i ≠ Y + 1 → w[i]? = some c → w'[i]? = some c := fun i c a b g => by rw [e]; exact lk_ne (Ne.symm b) (lk_ne (Ne.symm a) g)
  obtain ⟨⟨g2, a2, b2⟩, ⟨g3, g4, a3, a4, b3⟩, ⟨g5, g6, a5, a6, b5⟩, ⟨g11, a11, b11⟩, ⟨g17, a17, b17⟩⟩ := hP
  obtain ⟨g7, g8, g9, g10, g12, g13, g14, g18, g19, g20, g21, a7, a8, a9, a10, a12, a13, a14, a18, a19, a20, a21⟩ := hK
  obtain ⟨t, m, a15, a16, b15⟩ := hT
  refine ⟨rfl, ⟨⟨_, _, _, _, _, _, _, _, by rw [e]; exact lk_ne (by omega) (lk_eq hY)⟩, ⟨⟨_, by rw [e]; exact lk_eq (lk_ne (by omega) a1), ?_⟩, ⟨g2, L _ _ (by omega) (by omega) a2, b2⟩, ⟨g3, g4, L _ _ (by omega) (by omega) a3, L _ _ (by omega) (by omega) a4, b3⟩, ⟨g5, g6, L _ _ (by omega) (by omega) a5, L _ _ (by omega) (by omega) a6, b5⟩, ⟨g11, L _ _ (by omega) (by omega) a11, b11⟩, ⟨g17, L _ _ (by omega) (by omega) a17, b17⟩⟩, ⟨g7, g8, g9, g10, g12, g13, g14, g18, g19, g20, g21, L _ _ (by omega) (by omega) a7, L _ _ (by omega) (by omega) a8, L _ _ (by omega) (by omega) a9, L _ _ (by omega) (by omega) a10, L _ _ (by omega) (by omega) a12, L _ _ (by omega) (by omega) a13, L _ _ (by omega) (by omega) a14, L _ _ (by omega) (by omega) a18, L _ _ (by omega) (by omega) a19, L _ _ (by omega) (by omega) a20, L _ _ (by omega) (by omega) a21⟩, ⟨t, m, L _ _ (by omega) (by omega) a15, L _ _ (by omega) (by omega) a16, b15⟩⟩, hF⟩
  obtain ⟨c1, c2, c3, c4, c5⟩ := b1
  refine ⟨?_, ?_, ?_, ?_, ?_⟩
  · rw [upd_n (by decide), c1]; rfl
  · rw [upd_n (by decide), c2]; rfl
  · rw [upd_s, c3, nI_inc]; rfl
  · rw [upd_n (by decide), c4]; rfl
  · rw [upd_n (by decide), c5]; rfl
theorem mq_refuse5 (w : Wd) {Y tl : Nat} {tb : Nat → Int32} {fa st : Int32} {rf : Nat → Nat} {sh : SV} {pn : Nat} {pk : Nat → Nat} {ps : Nat → SV} {im : Nat → Option SV} (hM : mdC w Y tl tb fa st rf sh pn pk ps im) : EX12_refuse [.ref Y, .int (-5)] w (fun r w' => rfM (-5) 3 w Y tl tb fa rf sh pn pk ps im r w') := by
  obtain ⟨⟨th, dg, dd, ld, be, ib, re, ig, hY⟩, ⟨⟨g1, a1, b1⟩, hP⟩, hK, hT⟩ := hM
  refine EP.mono (mp_refuse w (j := 5) hY a1 ⟨by decide, by decide⟩) (fun r w' h => ?_)
  obtain ⟨rfl, e⟩ := h
  have hF : FR (modS Y) w w' := by rw [e]; exact FR.st (FR.st FR.rf hY rfl (by unfold modS; omega)) (lk_ne (by omega) a1) rfl (by unfold modS; omega)
  have L : ∀ i c, i ≠ Y → i ≠ Y + 1 → w[i]? = some c → w'[i]? = some c := fun i c a b g => by rw [e]; exact lk_ne (Ne.symm b) (lk_ne (Ne.symm a) g)
  obtain ⟨⟨g2, a2, b2⟩, ⟨g3, g4, a3, a4, b3⟩, ⟨g5, g6, a5, a6, b5⟩, ⟨g11, a11, b11⟩, ⟨g17, a17, b17⟩⟩ := hP
  obtain ⟨g7, g8, g9, g10, g12, g13, g14, g18, g19, g20, g21, a7, a8, a9, a10, a12, a13, a14, a18, a19, a20, a21⟩ := hK
  obtain ⟨t, m, a15, a16, b15⟩ := hT
  refine ⟨rfl, ⟨⟨_, _, _, _, _, _, _, _, by rw [e]; exact lk_ne (by omega) (lk_eq hY)⟩, ⟨⟨_, by rw [e]; exact lk_eq (lk_ne (by omega) a1), ?_⟩, ⟨g2, L _ _ (by omega) (by omega) a2, b2⟩, ⟨g3, g4, L _ _ (by omega) (by omega) a3, L _ _ (by omega) (by omega) a4, b3⟩, ⟨g5, g6, L _ _ (by omega) (by omega) a5, L _ _ (by omega) (by omega) a6, b5⟩, ⟨g11, L _ _ (by omega) (by omega) a11, b11⟩, ⟨g17, L _ _ (by omega) (by omega) a17, b17⟩⟩, ⟨g7, g8, g9, g10, g12, g13, g14, g18, g19, g20, g21, L _ _ (by omega) (by omega) a7, L _ _ (by omega) (by omega) a8, L _ _ (by omega) (by omega) a9, L _ _ (by omega) (by omega) a10, L _ _ (by omega) (by omega) a12, L _ _ (by omega) (by omega) a13, L _ _ (by omega) (by omega) a14, L _ _ (by omega) (by omega) a18, L _ _ (by omega) (by omega) a19, L _ _ (by omega) (by omega) a20, L _ _ (by omega) (by omega) a21⟩, ⟨t, m, L _ _ (by omega) (by omega) a15, L _ _ (by omega) (by omega) a16, b15⟩⟩, hF⟩
  obtain ⟨c1, c2, c3, c4, c5⟩ := b1
  refine ⟨?_, ?_, ?_, ?_, ?_⟩
  · rw [upd_n (by decide), c1]; rfl
  · rw [upd_n (by decide), c2]; rfl
  · rw [upd_n (by decide), c3]; rfl
  · rw [upd_s, c4, nI_inc]; rfl
  · rw [upd_n (by decide), c5]; rfl
theorem mq_refuse6 (w : Wd) {Y tl : Nat} {tb : Nat → Int32} {fa st : Int32} {rf : Nat → Nat} {sh : SV} {pn : Nat} {pk : Nat → Nat} {ps : Nat → SV} {im : Nat → Option SV} (hM : mdC w Y tl tb fa st rf sh pn pk ps im) : EX12_refuse [.ref Y, .int (-6)] w (fun r w' => rfM (-6) 4 w Y tl tb fa rf sh pn pk ps im r w') := by
  obtain ⟨⟨th, dg, dd, ld, be, ib, re, ig, hY⟩, ⟨⟨g1, a1, b1⟩, hP⟩, hK, hT⟩ := hM
  refine EP.mono (mp_refuse w (j := 6) hY a1 ⟨by decide, by decide⟩) (fun r w' h => ?_)
  obtain ⟨rfl, e⟩ := h
  have hF : FR (modS Y) w w' := by rw [e]; exact FR.st (FR.st FR.rf hY rfl (by unfold modS; omega)) (lk_ne (by omega) a1) rfl (by unfold modS; omega)
  have L : ∀ i c, i ≠ Y → i ≠ Y + 1 → w[i]? = some c → w'[i]? = some c := fun i c a b g => by rw [e]; exact lk_ne (Ne.symm b) (lk_ne (Ne.symm a) g)
  obtain ⟨⟨g2, a2, b2⟩, ⟨g3, g4, a3, a4, b3⟩, ⟨g5, g6, a5, a6, b5⟩, ⟨g11, a11, b11⟩, ⟨g17, a17, b17⟩⟩ := hP
  obtain ⟨g7, g8, g9, g10, g12, g13, g14, g18, g19, g20, g21, a7, a8, a9, a10, a12, a13, a14, a18, a19, a20, a21⟩ := hK
  obtain ⟨t, m, a15, a16, b15⟩ := hT
  refine ⟨rfl, ⟨⟨_, _, _, _, _, _, _, _, by rw [e]; exact lk_ne (by omega) (lk_eq hY)⟩, ⟨⟨_, by rw [e]; exact lk_eq (lk_ne (by omega) a1), ?_⟩, ⟨g2, L _ _ (by omega) (by omega) a2, b2⟩, ⟨g3, g4, L _ _ (by omega) (by omega) a3, L _ _ (by omega) (by omega) a4, b3⟩, ⟨g5, g6, L _ _ (by omega) (by omega) a5, L _ _ (by omega) (by omega) a6, b5⟩, ⟨g11, L _ _ (by omega) (by omega) a11, b11⟩, ⟨g17, L _ _ (by omega) (by omega) a17, b17⟩⟩, ⟨g7, g8, g9, g10, g12, g13, g14, g18, g19, g20, g21, L _ _ (by omega) (by omega) a7, L _ _ (by omega) (by omega) a8, L _ _ (by omega) (by omega) a9, L _ _ (by omega) (by omega) a10, L _ _ (by omega) (by omega) a12, L _ _ (by omega) (by omega) a13, L _ _ (by omega) (by omega) a14, L _ _ (by omega) (by omega) a18, L _ _ (by omega) (by omega) a19, L _ _ (by omega) (by omega) a20, L _ _ (by omega) (by omega) a21⟩, ⟨t, m, L _ _ (by omega) (by omega) a15, L _ _ (by omega) (by omega) a16, b15⟩⟩, hF⟩
  obtain ⟨c1, c2, c3, c4, c5⟩ := b1
  refine ⟨?_, ?_, ?_, ?_, ?_⟩
  · rw [upd_n (by decide), c1]; rfl
  · rw [upd_n (by decide), c2]; rfl
  · rw [upd_n (by decide), c3]; rfl
  · rw [upd_n (by decide), c4]; rfl
  · rw [upd_s, c5, nI_inc]; rfl
abbrev BX12_remember (w0 : Wd) (Post : Option Value → Wd → Prop) (w : Wd) (pc : Nat) (ls : List (Nat × Value)) (st : List Value) : Prop := GP "remember" RX12 cX12_remember 3 none 1 39 none w0 Post w pc ls st
abbrev EX12_remember (As : List Value) (w : Wd) (Post : Option Value → Wd → Prop) : Prop := EP yX12_remember cX12_remember 3 none 1 As w Post
def shF (u : Nat → Int32) (s k : Nat) : Nat → Int32 := fun i => if i < k then u (i + s) else u i
theorem shF_s {u : Nat → Int32} {s k : Nat} (hs : 0 < s) : upd (shF u s k) k (shF u s k (k + s)) = shF u s (k + 1) := by
  funext i
  by_cases e : i = k
  · rw [e, upd_s]
    unfold shF
    rw [if_neg (by omega), if_pos (by omega)]
  · rw [upd_n e]
    unfold shF
    by_cases h : i < k
    · rw [if_pos h, if_pos (by omega)]
    · rw [if_neg h, if_neg (by omega)]
theorem shF_0 {u : Nat → Int32} {s : Nat} : shF u s 0 = u := by
  funext i
  unfold shF
  rw [if_neg (by omega)]
theorem rm_loop1 {w0 w : Wd} {Y kd : Nat} {th st nu dg dd ld be ib ta fa re ig : Int32} {g3 : Nat → Int32} (hY : w[Y]? = some (oM Y th st nu dg dd ld be ib ta fa re ig)) (a3 : w[Y + 3]? = some (aI 0 5008 g3)) {Q : Option Value → Wd → Prop} (K : BX12_remember w0 Q (w.set (Y + 3) (aI 0 5008 (shF g3 626 4382))) 40 [(1, .int (nI kd)), (0, .ref Y)] []) : ∀ (z k : Nat), 4382 = k + z → BX12_remember w0 Q (w.set (Y + 3) (aI 0 5008 (shF g3 626 k))) 11 [(2, .int (nI k)), (1, .int (nI kd)), (0, .ref Y)] [] := by
  intro z
  induction z with
  | zero =>
    intro k hz
    refine g_iload_n (pc := 11) 0 dX12_remember_11 rfl rfl ?_
    refine g_sipush (pc := 12) (v := nI 4382) dX12_remember_12 (by decide) ?_
    refine n_icmp_ge (pc := 15) 40 dX12_remember_15 (by decide) (by omega) (by omega) (fun hb9 => ?_) (fun hb9 => ?_)
    · have e9 : k = 4382 := by omega
      subst e9
      exact GP.lsub _ (by simp) K
    · exact absurd hb9 (by omega)
  | succ z ih =>
    intro k hz
    refine g_iload_n (pc := 11) 0 dX12_remember_11 rfl rfl ?_
    refine g_sipush (pc := 12) (v := nI 4382) dX12_remember_12 (by decide) ?_
    refine n_icmp_ge (pc := 15) 40 dX12_remember_15 (by decide) (by omega) (by omega) (fun hb9 => ?_) (fun hb9 => ?_)
    · exact absurd hb9 (by omega)
    · refine g_aload_n (pc := 18) 2 dX12_remember_18 rfl rfl ?_
      refine g_get (pc := 19) dX12_remember_19 fk_X12_16 (lk_ne (show (Y + 3) ≠ Y by omega) hY) rfl ?_
      refine g_iload_n (pc := 22) 0 dX12_remember_22 rfl rfl ?_
      refine g_aload_n (pc := 23) 2 dX12_remember_23 rfl rfl ?_
      refine g_get (pc := 24) dX12_remember_24 fk_X12_16 (lk_ne (show (Y + 3) ≠ Y by omega) hY) rfl ?_
      refine g_iload_n (pc := 27) 0 dX12_remember_27 rfl rfl ?_
      refine g_sipush (pc := 28) (v := nI 626) dX12_remember_28 (by decide) ?_
      refine n_iadd (pc := 31) dX12_remember_31 ?_
      refine g_iald (pc := 32) (k + 626) dX12_remember_32 (lk_eq a3) (IXn (by omega) (by omega)) ?_
      refine g_iast (pc := 33) k dX12_remember_33 (lk_eq a3) (IXn (by omega) (by omega)) ?_
      refine GP.weq (w.set (Y + 3) (aI 0 5008 (upd (shF g3 626 k) k ((shF g3 626 k) (k + 626))))) (by rw [List.set_set]) ?_
      refine n_iinc (pc := 34) (c := 1) [(2, .int (nI (k + 1))), (1, .int (nI kd)), (0, .ref Y)] 0 dX12_remember_34 rfl (by decide) (by decide) rfl ?_
      refine g_goto (pc := 37) 11 dX12_remember_37 (by decide) ?_
      rw [shF_s (by omega)]
      exact GP.lsub _ (by simp) (ih (k + 1) (by omega))
theorem rm_loop2 {w0 w : Wd} {Y kd : Nat} {th st nu dg dd ld be ib ta fa re ig : Int32} {g4 : Nat → Int32} (hY : w[Y]? = some (oM Y th st nu dg dd ld be ib ta fa re ig)) (a4 : w[Y + 4]? = some (aI 0 8 g4)) {Q : Option Value → Wd → Prop} (K : BX12_remember w0 Q (w.set (Y + 4) (aI 0 8 (shF g4 1 7))) 68 [(1, .int (nI kd)), (0, .ref Y)] []) : ∀ (z k : Nat), 7 = k + z → BX12_remember w0 Q (w.set (Y + 4) (aI 0 8 (shF g4 1 k))) 42 [(2, .int (nI k)), (1, .int (nI kd)), (0, .ref Y)] [] := by
  intro z
  induction z with
  | zero =>
    intro k hz
    refine g_iload_n (pc := 42) 0 dX12_remember_42 rfl rfl ?_
    refine g_bipush (pc := 43) (v := nI 7) dX12_remember_43 (by decide) ?_
    refine n_icmp_ge (pc := 45) 68 dX12_remember_45 (by decide) (by omega) (by omega) (fun hb9 => ?_) (fun hb9 => ?_)
    · have e9 : k = 7 := by omega
      subst e9
      exact GP.lsub _ (by simp) K
    · exact absurd hb9 (by omega)
  | succ z ih =>
    intro k hz
    refine g_iload_n (pc := 42) 0 dX12_remember_42 rfl rfl ?_
    refine g_bipush (pc := 43) (v := nI 7) dX12_remember_43 (by decide) ?_
    refine n_icmp_ge (pc := 45) 68 dX12_remember_45 (by decide) (by omega) (by omega) (fun hb9 => ?_) (fun hb9 => ?_)
    · exact absurd hb9 (by omega)
    · refine g_aload_n (pc := 48) 2 dX12_remember_48 rfl rfl ?_
      refine g_get (pc := 49) dX12_remember_49 fk_X12_19 (lk_ne (show (Y + 4) ≠ Y by omega) hY) rfl ?_
      refine g_iload_n (pc := 52) 0 dX12_remember_52 rfl rfl ?_
      refine g_aload_n (pc := 53) 2 dX12_remember_53 rfl rfl ?_
      refine g_get (pc := 54) dX12_remember_54 fk_X12_19 (lk_ne (show (Y + 4) ≠ Y by omega) hY) rfl ?_
      refine g_iload_n (pc := 57) 0 dX12_remember_57 rfl rfl ?_
      refine g_iconst (pc := 58) (v := nI 1) dX12_remember_58 (by decide) ?_
      refine n_iadd (pc := 59) dX12_remember_59 ?_
      refine g_iald (pc := 60) (k + 1) dX12_remember_60 (lk_eq a4) (IXn (by omega) (by omega)) ?_
      refine g_iast (pc := 61) k dX12_remember_61 (lk_eq a4) (IXn (by omega) (by omega)) ?_
      refine GP.weq (w.set (Y + 4) (aI 0 8 (upd (shF g4 1 k) k ((shF g4 1 k) (k + 1))))) (by rw [List.set_set]) ?_
      refine n_iinc (pc := 62) (c := 1) [(2, .int (nI (k + 1))), (1, .int (nI kd)), (0, .ref Y)] 0 dX12_remember_62 rfl (by decide) (by decide) rfl ?_
      refine g_goto (pc := 65) 42 dX12_remember_65 (by decide) ?_
      rw [shF_s (by omega)]
      exact GP.lsub _ (by simp) (ih (k + 1) (by omega))
def rmU (g2 u : Nat → Int32) (n : Nat) : Nat → Int32 := if n = 8 then cpF g2 (shF u 626 4382) 0 (626 * 7) 626 else cpF g2 u 0 (626 * n) 626
def rmS (s : Nat → Int32) (n kd : Nat) : Nat → Int32 := if n = 8 then upd (shF s 1 7) 7 (nI kd) else upd s n (nI kd)
theorem row_cg {g g' : Nat → Int32} {V : SV} (h : rowR g V) (e : ∀ k, k < 626 → g' k = g k) : rowR g' V := by
  obtain ⟨h1, ⟨h2, h3, h4, h5⟩, h6, h7⟩ := h
  obtain ⟨-, h8, -⟩ := id h6
  refine ⟨fun i hi => ?_, ⟨by rw [e _ (by omega), h2], by rw [e _ (by omega), h3], by rw [e _ (by omega), h4], by rw [e _ (by omega), h5]⟩, h6, fun i hi => ?_⟩
  · obtain ⟨p1, p2, p3⟩ := h1 i hi
    exact ⟨p1, by rw [e _ (by omega), p2], fun p hp => by rw [e _ (by omega), p3 p hp]⟩
  · obtain ⟨p1, p2, p3⟩ := h7 i hi
    exact ⟨by rw [e _ (by omega), p1], fun j hj => by rw [e _ (by omega), p2 j hj], p3⟩
theorem rm_und {g2 u s : Nat → Int32} {pn kd : Nat} {pk : Nat → Nat} {ps : Nat → SV} {sh : SV} (hn : pn ≤ 8) (h : undR u s pn pk ps) (h2 : rowR g2 sh) : undR (rmU g2 u pn) (rmS s pn kd) (min (pn + 1) 8) (psh pn pk kd) (psh pn ps sh) := by
  intro i hi
  unfold rmU rmS psh
  by_cases e : pn = 8
  · rw [if_pos e, if_pos e]
    simp only [if_pos e]
    by_cases e2 : i < 7
    · rw [if_pos e2, if_pos e2, upd_n (by omega)]
      obtain ⟨p1, p2⟩ := h (i + 1) (by omega)
      refine ⟨row_cg p1 (fun k hk => ?_), ?_⟩
      · unfold cpF shF
        rw [if_neg (by omega), if_pos (by omega), show 626 * i + k + 626 = 626 * (i + 1) + k by omega]
      · unfold shF
        rw [if_pos e2]
        exact p2
    · have e3 : i = 7 := by omega
      subst e3
      rw [if_neg (by omega), if_neg (by omega), upd_s]
      refine ⟨row_cg h2 (fun k hk => ?_), rfl⟩
      unfold cpF
      rw [if_pos (by omega), show 0 + (626 * 7 + k - 626 * 7) = k by omega]
  · rw [if_neg e, if_neg e]
    simp only [if_neg e]
    by_cases e2 : i = pn
    · subst e2
      rw [if_pos rfl, if_pos rfl, upd_s]
      refine ⟨row_cg h2 (fun k hk => ?_), rfl⟩
      unfold cpF
      rw [if_pos (by omega), show 0 + (626 * i + k - 626 * i) = k by omega]
    · rw [if_neg e2, if_neg e2, upd_n e2]
      obtain ⟨p1, p2⟩ := h i (by omega)
      refine ⟨row_cg p1 (fun k hk => ?_), p2⟩
      unfold cpF
      rw [if_neg (by omega)]
theorem mp_remember (w : Wd) {Y pn kd : Nat} {th st dg dd ld be ib ta fa re ig : Int32} {g2 g3 g4 : Nat → Int32} (hY : w[Y]? = some (oM Y th st (nI pn) dg dd ld be ib ta fa re ig)) (a2 : w[Y + 2]? = some (aI 0 626 g2)) (a3 : w[Y + 3]? = some (aI 0 5008 g3)) (a4 : w[Y + 4]? = some (aI 0 8 g4)) (hn : pn ≤ 8) : EX12_remember [.ref Y, .int (nI kd)] w (fun r w' => r = none ∧ w' = ((w.set (Y + 3) (aI 0 5008 (rmU g2 g3 pn))).set (Y + 4) (aI 0 8 (rmS g4 pn kd))).set Y (oM Y th st (nI (min (pn + 1) 8)) dg dd ld be ib ta fa re ig)) := by
  refine EP.of (plainFor_of_name (by decide)) [(0, .ref Y), (1, .int (nI kd))] rfl (Nat.le_of_ble_eq_true rfl) (fun r wf h => by obtain ⟨rfl, -⟩ := h; trivial) ?_
  show BX12_remember w _ w 0 [(0, .ref Y), (1, .int (nI kd))] []
  refine g_aload_n (pc := 0) 0 dX12_remember_0 rfl rfl ?_
  refine g_get (pc := 1) dX12_remember_1 fk_X12_89 hY rfl ?_
  refine g_bipush (pc := 4) (v := nI 8) dX12_remember_4 (by decide) ?_
  refine n_icmp_ne (pc := 6) 78 dX12_remember_6 (by decide) (by omega) (by omega) (fun h8 => ?_) (fun h8 => ?_)
  · refine g_aload_n (pc := 78) 0 dX12_remember_78 rfl rfl ?_
    refine g_get (pc := 79) dX12_remember_79 fk_X12_13 hY rfl ?_
    refine g_iconst (pc := 82) (v := nI 0) dX12_remember_82 (by decide) ?_
    refine g_aload_n (pc := 83) 0 dX12_remember_83 rfl rfl ?_
    refine g_get (pc := 84) dX12_remember_84 fk_X12_16 hY rfl ?_
    refine g_sipush (pc := 87) (v := nI 626) dX12_remember_87 (by decide) ?_
    refine g_aload_n (pc := 90) 0 dX12_remember_90 rfl rfl ?_
    refine g_get (pc := 91) dX12_remember_91 fk_X12_89 hY rfl ?_
    refine n_imul (pc := 94) dX12_remember_94 ?_
    refine g_callS (pc := 95) [.ref (Y + 2), .int (nI 0), .ref (Y + 3), .int (nI (626 * pn))] dX12_remember_95 cs_X12_92.1 cs_X12_92.2 rfl rfl (Nat.le_of_ble_eq_true rfl) (by decide) (by decide) (mp_copy _ (p := Y + 2) (q := Y + 3) (a := 0) (b := 626 * pn) (by omega) a2 a3 (by omega) (by omega) (by omega) (by omega)) ?_
    rintro _ w9 ⟨rfl, e9⟩
    refine GP.weq _ e9 ?_
    refine g_aload_n (pc := 98) 0 dX12_remember_98 rfl rfl ?_
    refine g_get (pc := 99) dX12_remember_99 fk_X12_19 (lk_ne (show (Y + 3) ≠ Y by omega) hY) rfl ?_
    refine g_aload_n (pc := 102) 0 dX12_remember_102 rfl rfl ?_
    refine g_get (pc := 103) dX12_remember_103 fk_X12_89 (lk_ne (show (Y + 3) ≠ Y by omega) hY) rfl ?_
    refine g_iload_n (pc := 106) 1 dX12_remember_106 rfl rfl ?_
    refine g_iast (pc := 107) pn dX12_remember_107 (lk_ne (show (Y + 3) ≠ (Y + 4) by omega) a4) (IXn (by omega) (by omega)) ?_
    refine g_aload_n (pc := 108) 0 dX12_remember_108 rfl rfl ?_
    refine g_dup (pc := 109) dX12_remember_109 rfl ?_
    refine g_get (pc := 110) dX12_remember_110 fk_X12_89 (lk_ne (show (Y + 4) ≠ Y by omega) (lk_ne (show (Y + 3) ≠ Y by omega) hY)) rfl ?_
    refine g_iconst (pc := 113) (v := nI 1) dX12_remember_113 (by decide) ?_
    refine n_iadd (pc := 114) dX12_remember_114 ?_
    refine g_put (pc := 115) (.int th :: .int st :: .ref (Y + 1) :: .ref (Y + 2) :: .ref (Y + 3) :: .ref (Y + 4) :: .int (nI (pn + 1)) :: .ref (Y + 5) :: .ref (Y + 6) :: .ref (Y + 7) :: .int dg :: .ref (Y + 8) :: .int dd :: .ref (Y + 9) :: .ref (Y + 10) :: .ref (Y + 11) :: .ref (Y + 12) :: .int ld :: .int be :: .int ib :: .ref (Y + 13) :: .ref (Y + 14) :: .ref (Y + 15) :: .ref (Y + 16) :: .ref (Y + 17) :: .int ta :: .int fa :: .int re :: .int ig :: .ref (Y + 18) :: .ref (Y + 19) :: .ref (Y + 20) :: .ref (Y + 21) :: []) dX12_remember_115 fk_X12_89 (lk_ne (show (Y + 4) ≠ Y by omega) (lk_ne (show (Y + 3) ≠ Y by omega) hY)) (Nat.le_of_ble_eq_true rfl) rfl rfl ?_
    exact g_vret (pc := 118) dX12_remember_118 ⟨rfl, by unfold rmU rmS; rw [if_neg h8, if_neg h8, show min (pn + 1) 8 = pn + 1 by omega]⟩
  · subst h8
    refine g_iconst (pc := 9) (v := nI 0) dX12_remember_9 (by decide) ?_
    refine g_istore_n (pc := 10) [(2, .int (nI 0)), (0, .ref Y), (1, .int (nI kd))] dX12_remember_10 rfl (by decide) rfl ?_
    refine GP.weq (w.set (Y + 3) (aI 0 5008 (shF g3 626 0))) (by rw [shF_0, set_same a3]) ?_
    refine GP.lsub _ (by simp) (rm_loop1 (kd := kd) hY a3 ?_ 4382 0 rfl)
    refine g_iconst (pc := 40) (v := nI 0) dX12_remember_40 (by decide) ?_
    refine g_istore_n (pc := 41) [(2, .int (nI 0)), (1, .int (nI kd)), (0, .ref Y)] dX12_remember_41 rfl (by decide) rfl ?_
    refine GP.weq ((w.set (Y + 3) (aI 0 5008 (shF g3 626 4382))).set (Y + 4) (aI 0 8 (shF g4 1 0))) (by rw [shF_0, set_same (lk_ne (by omega) a4)]) ?_
    refine GP.lsub _ (by simp) (rm_loop2 (kd := kd) (lk_ne (by omega) hY) (lk_ne (by omega) a4) ?_ 7 0 rfl)
    refine g_aload_n (pc := 68) 1 dX12_remember_68 rfl rfl ?_
    refine g_dup (pc := 69) dX12_remember_69 rfl ?_
    refine g_get (pc := 70) dX12_remember_70 fk_X12_89 (lk_ne (show (Y + 4) ≠ Y by omega) (lk_ne (show (Y + 3) ≠ Y by omega) hY)) rfl ?_
    refine g_iconst (pc := 73) (v := nI 1) dX12_remember_73 (by decide) ?_
    refine n_isub (pc := 74) dX12_remember_74 (by omega) ?_
    refine g_put (pc := 75) (.int th :: .int st :: .ref (Y + 1) :: .ref (Y + 2) :: .ref (Y + 3) :: .ref (Y + 4) :: .int (nI (8 - 1)) :: .ref (Y + 5) :: .ref (Y + 6) :: .ref (Y + 7) :: .int dg :: .ref (Y + 8) :: .int dd :: .ref (Y + 9) :: .ref (Y + 10) :: .ref (Y + 11) :: .ref (Y + 12) :: .int ld :: .int be :: .int ib :: .ref (Y + 13) :: .ref (Y + 14) :: .ref (Y + 15) :: .ref (Y + 16) :: .ref (Y + 17) :: .int ta :: .int fa :: .int re :: .int ig :: .ref (Y + 18) :: .ref (Y + 19) :: .ref (Y + 20) :: .ref (Y + 21) :: []) dX12_remember_75 fk_X12_89 (lk_ne (show (Y + 4) ≠ Y by omega) (lk_ne (show (Y + 3) ≠ Y by omega) hY)) (Nat.le_of_ble_eq_true rfl) rfl rfl ?_
    refine g_aload_n (pc := 78) 1 dX12_remember_78 rfl rfl ?_
    refine g_get (pc := 79) dX12_remember_79 fk_X12_13 (lk_eq (lk_ne (show (Y + 4) ≠ Y by omega) (lk_ne (show (Y + 3) ≠ Y by omega) hY))) rfl ?_
    refine g_iconst (pc := 82) (v := nI 0) dX12_remember_82 (by decide) ?_
    refine g_aload_n (pc := 83) 1 dX12_remember_83 rfl rfl ?_
    refine g_get (pc := 84) dX12_remember_84 fk_X12_16 (lk_eq (lk_ne (show (Y + 4) ≠ Y by omega) (lk_ne (show (Y + 3) ≠ Y by omega) hY))) rfl ?_
    refine g_sipush (pc := 87) (v := nI 626) dX12_remember_87 (by decide) ?_
    refine g_aload_n (pc := 90) 1 dX12_remember_90 rfl rfl ?_
    refine g_get (pc := 91) dX12_remember_91 fk_X12_89 (lk_eq (lk_ne (show (Y + 4) ≠ Y by omega) (lk_ne (show (Y + 3) ≠ Y by omega) hY))) rfl ?_
    refine n_imul (pc := 94) dX12_remember_94 ?_
    refine g_callS (pc := 95) [.ref (Y + 2), .int (nI 0), .ref (Y + 3), .int (nI (626 * (8 - 1)))] dX12_remember_95 cs_X12_92.1 cs_X12_92.2 rfl rfl (Nat.le_of_ble_eq_true rfl) (by decide) (by decide) (mp_copy _ (p := Y + 2) (q := Y + 3) (a := 0) (b := 626 * 7) (by omega) (lk_ne (show Y ≠ (Y + 2) by omega) (lk_ne (show (Y + 4) ≠ (Y + 2) by omega) (lk_ne (show (Y + 3) ≠ (Y + 2) by omega) a2))) (lk_ne (show Y ≠ (Y + 3) by omega) (lk_ne (show (Y + 4) ≠ (Y + 3) by omega) (lk_eq a3))) (by omega) (by omega) (by omega) (by omega)) ?_
    rintro _ w9 ⟨rfl, e9⟩
    refine GP.weq _ e9 ?_
    refine GP.weq (((w.set (Y + 3) (aI 0 5008 (cpF g2 (shF g3 626 4382) 0 (626 * 7) 626))).set (Y + 4) (aI 0 8 (shF g4 1 7))).set Y (.inr (11, .int th :: .int st :: .ref (Y + 1) :: .ref (Y + 2) :: .ref (Y + 3) :: .ref (Y + 4) :: .int (nI (8 - 1)) :: .ref (Y + 5) :: .ref (Y + 6) :: .ref (Y + 7) :: .int dg :: .ref (Y + 8) :: .int dd :: .ref (Y + 9) :: .ref (Y + 10) :: .ref (Y + 11) :: .ref (Y + 12) :: .int ld :: .int be :: .int ib :: .ref (Y + 13) :: .ref (Y + 14) :: .ref (Y + 15) :: .ref (Y + 16) :: .ref (Y + 17) :: .int ta :: .int fa :: .int re :: .int ig :: .ref (Y + 18) :: .ref (Y + 19) :: .ref (Y + 20) :: .ref (Y + 21) :: []))) (by rw [show ((((w.set (Y + 3) (aI 0 5008 (shF g3 626 4382))).set (Y + 4) (aI 0 8 (shF g4 1 7))).set Y (.inr (11, .int th :: .int st :: .ref (Y + 1) :: .ref (Y + 2) :: .ref (Y + 3) :: .ref (Y + 4) :: .int (nI (8 - 1)) :: .ref (Y + 5) :: .ref (Y + 6) :: .ref (Y + 7) :: .int dg :: .ref (Y + 8) :: .int dd :: .ref (Y + 9) :: .ref (Y + 10) :: .ref (Y + 11) :: .ref (Y + 12) :: .int ld :: .int be :: .int ib :: .ref (Y + 13) :: .ref (Y + 14) :: .ref (Y + 15) :: .ref (Y + 16) :: .ref (Y + 17) :: .int ta :: .int fa :: .int re :: .int ig :: .ref (Y + 18) :: .ref (Y + 19) :: .ref (Y + 20) :: .ref (Y + 21) :: []))).set (Y + 3) (aI 0 5008 (cpF g2 (shF g3 626 4382) 0 (626 * 7) 626))) = (((w.set (Y + 3) (aI 0 5008 (cpF g2 (shF g3 626 4382) 0 (626 * 7) 626))).set (Y + 4) (aI 0 8 (shF g4 1 7))).set Y (.inr (11, .int th :: .int st :: .ref (Y + 1) :: .ref (Y + 2) :: .ref (Y + 3) :: .ref (Y + 4) :: .int (nI (8 - 1)) :: .ref (Y + 5) :: .ref (Y + 6) :: .ref (Y + 7) :: .int dg :: .ref (Y + 8) :: .int dd :: .ref (Y + 9) :: .ref (Y + 10) :: .ref (Y + 11) :: .ref (Y + 12) :: .int ld :: .int be :: .int ib :: .ref (Y + 13) :: .ref (Y + 14) :: .ref (Y + 15) :: .ref (Y + 16) :: .ref (Y + 17) :: .int ta :: .int fa :: .int re :: .int ig :: .ref (Y + 18) :: .ref (Y + 19) :: .ref (Y + 20) :: .ref (Y + 21) :: []))) from by rw [List.set_comm _ _ (show Y ≠ (Y + 3) by omega), List.set_comm _ _ (show (Y + 4) ≠ (Y + 3) by omega), List.set_set]]) ?_
    refine g_aload_n (pc := 98) 1 dX12_remember_98 rfl rfl ?_
    refine g_get (pc := 99) dX12_remember_99 fk_X12_19 (lk_eq (lk_ne (show (Y + 4) ≠ Y by omega) (lk_ne (show (Y + 3) ≠ Y by omega) hY))) rfl ?_
    refine g_aload_n (pc := 102) 1 dX12_remember_102 rfl rfl ?_
    refine g_get (pc := 103) dX12_remember_103 fk_X12_89 (lk_eq (lk_ne (show (Y + 4) ≠ Y by omega) (lk_ne (show (Y + 3) ≠ Y by omega) hY))) rfl ?_
    refine g_iload_n (pc := 106) 0 dX12_remember_106 rfl rfl ?_
    refine g_iast (pc := 107) (8 - 1) dX12_remember_107 (lk_ne (show Y ≠ (Y + 4) by omega) (lk_eq (lk_ne (show (Y + 3) ≠ (Y + 4) by omega) a4))) (IXn (by omega) (by omega)) ?_
    refine GP.weq (((w.set (Y + 3) (aI 0 5008 (cpF g2 (shF g3 626 4382) 0 (626 * 7) 626))).set (Y + 4) (aI 0 8 (upd (shF g4 1 7) (8 - 1) (nI kd)))).set Y (.inr (11, .int th :: .int st :: .ref (Y + 1) :: .ref (Y + 2) :: .ref (Y + 3) :: .ref (Y + 4) :: .int (nI (8 - 1)) :: .ref (Y + 5) :: .ref (Y + 6) :: .ref (Y + 7) :: .int dg :: .ref (Y + 8) :: .int dd :: .ref (Y + 9) :: .ref (Y + 10) :: .ref (Y + 11) :: .ref (Y + 12) :: .int ld :: .int be :: .int ib :: .ref (Y + 13) :: .ref (Y + 14) :: .ref (Y + 15) :: .ref (Y + 16) :: .ref (Y + 17) :: .int ta :: .int fa :: .int re :: .int ig :: .ref (Y + 18) :: .ref (Y + 19) :: .ref (Y + 20) :: .ref (Y + 21) :: []))) (by rw [List.set_comm _ _ (show Y ≠ (Y + 4) by omega), List.set_set]) ?_
    refine g_aload_n (pc := 108) 1 dX12_remember_108 rfl rfl ?_
    refine g_dup (pc := 109) dX12_remember_109 rfl ?_
    refine g_get (pc := 110) dX12_remember_110 fk_X12_89 (lk_eq (lk_ne (show (Y + 4) ≠ Y by omega) (lk_ne (show (Y + 3) ≠ Y by omega) hY))) rfl ?_
    refine g_iconst (pc := 113) (v := nI 1) dX12_remember_113 (by decide) ?_
    refine n_iadd (pc := 114) dX12_remember_114 ?_
    refine g_put (pc := 115) (.int th :: .int st :: .ref (Y + 1) :: .ref (Y + 2) :: .ref (Y + 3) :: .ref (Y + 4) :: .int (nI ((8 - 1) + 1)) :: .ref (Y + 5) :: .ref (Y + 6) :: .ref (Y + 7) :: .int dg :: .ref (Y + 8) :: .int dd :: .ref (Y + 9) :: .ref (Y + 10) :: .ref (Y + 11) :: .ref (Y + 12) :: .int ld :: .int be :: .int ib :: .ref (Y + 13) :: .ref (Y + 14) :: .ref (Y + 15) :: .ref (Y + 16) :: .ref (Y + 17) :: .int ta :: .int fa :: .int re :: .int ig :: .ref (Y + 18) :: .ref (Y + 19) :: .ref (Y + 20) :: .ref (Y + 21) :: []) dX12_remember_115 fk_X12_89 (lk_eq (lk_ne (show (Y + 4) ≠ Y by omega) (lk_ne (show (Y + 3) ≠ Y by omega) hY))) (Nat.le_of_ble_eq_true rfl) rfl rfl ?_
    refine GP.weq (((w.set (Y + 3) (aI 0 5008 (cpF g2 (shF g3 626 4382) 0 (626 * 7) 626))).set (Y + 4) (aI 0 8 (upd (shF g4 1 7) (8 - 1) (nI kd)))).set Y (.inr (11, .int th :: .int st :: .ref (Y + 1) :: .ref (Y + 2) :: .ref (Y + 3) :: .ref (Y + 4) :: .int (nI ((8 - 1) + 1)) :: .ref (Y + 5) :: .ref (Y + 6) :: .ref (Y + 7) :: .int dg :: .ref (Y + 8) :: .int dd :: .ref (Y + 9) :: .ref (Y + 10) :: .ref (Y + 11) :: .ref (Y + 12) :: .int ld :: .int be :: .int ib :: .ref (Y + 13) :: .ref (Y + 14) :: .ref (Y + 15) :: .ref (Y + 16) :: .ref (Y + 17) :: .int ta :: .int fa :: .int re :: .int ig :: .ref (Y + 18) :: .ref (Y + 19) :: .ref (Y + 20) :: .ref (Y + 21) :: []))) (by rw [List.set_set]) ?_
    refine GP.weq (((w.set (Y + 3) (aI 0 5008 (rmU g2 g3 8))).set (Y + 4) (aI 0 8 (rmS g4 8 kd))).set Y (oM Y th st (nI (min (8 + 1) 8)) dg dd ld be ib ta fa re ig)) ?_ ?_
    · rfl
    exact g_vret (pc := 118) dX12_remember_118 ⟨rfl, rfl⟩
