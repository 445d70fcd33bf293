/-! THE LOGIC: a pure world of cells (numbers of cells are their places), and judgements over it that hide the machine -/
abbrev Ce : Type := (Nat × vp_A) ⊕ (Nat × List Value)
abbrev Wd : Type := List Ce
/-- a pure value as the machine has it: cell i lies at base + i; the script (a float here) at b -/
def cvV (b base : Nat) : Value → Value
  | .ref i => .ref (base + i)
  | .float _ => .ref b
  | v => v
def cvA (base : Nat) : vp_A → vp_A
  | (n, .inr (.inr (.inr (.inr f)))) => (n, .inr (.inr (.inr (.inr (fun j => (f j).map (fun i => base + i))))))
  | a => a
def cvE (aC : Nat → ClassId) (b base : Nat) : Ce → va_E
  | .inl (k, a) => .inl (aC k, cvA base a)
  | .inr (ci, fs) => .inr (ci, fs.map (cvV b base))
def cvW (aC : Nat → ClassId) (b base : Nat) (w : Wd) : va_W := w.mapIdx (fun i c => (base + i, cvE aC b base c))
def slE : Ce → Nat
  | .inl (_, n, _) => n
  | .inr (_, fs) => fs.length
def slW (w : Wd) : Nat := (w.map slE).sum
theorem cvW_get {aC : Nat → ClassId} {b base : Nat} {w : Wd} {i : Nat} {c : Ce} (h : w[i]? = some c) : (cvW aC b base w)[i]? = some (base + i, cvE aC b base c) := by
  simp [cvW, h]
theorem cvW_set {aC : Nat → ClassId} {b base : Nat} {w : Wd} {i : Nat} {c : Ce} : cvW aC b base (w.set i c) = (cvW aC b base w).set i (base + i, cvE aC b base c) := by
  apply List.ext_getElem?
  intro j
  simp only [cvW, List.getElem?_mapIdx, List.getElem?_set, List.length_mapIdx]
  by_cases h : i = j
  · subst h
    by_cases h2 : i < w.length
    · simp [h2]
    · simp [h2]
  · simp [h]
theorem cvW_app {aC : Nat → ClassId} {b base : Nat} {w : Wd} {c : Ce} : cvW aC b base (w ++ [c]) = cvW aC b base w ++ [(base + w.length, cvE aC b base c)] := by
  simp [cvW, List.mapIdx_append]
theorem slW_app {w : Wd} {c : Ce} : slW (w ++ [c]) = slW w + slE c := by
  simp [slW]
theorem slW_set {w : Wd} {i : Nat} {c c' : Ce} (h : w[i]? = some c) (hs : slE c' = slE c) : slW (w.set i c') = slW w := by
  induction w generalizing i with
  | nil => simp at h
  | cons a t ih =>
    cases i with
    | zero =>
      simp at h
      subst h
      simp [slW, hs]
    | succ i =>
      simp at h
      have := ih h
      simp only [slW, List.set_cons_succ, List.map_cons, List.sum_cons] at this ⊢
      omega
def IN (D : va_G) (aC : Nat → ClassId) (b base : Nat) (w : Wd) (H : Heap) : Prop := H.size = base + w.length ∧ va_P D vwCl (cvW aC b base w) H
theorem cvW_D {aC : Nat → ClassId} {b base : Nat} {w : Wd} : va_D (fun q => base ≤ q) (cvW aC b base w) := by
  have at' : ∀ (k : Nat) (q : Nat × va_E), (cvW aC b base w)[k]? = some q → q.1 = base + k := by
    intro k q h
    simp only [cvW, List.getElem?_mapIdx] at h
    cases hk : w[k]? with
    | none => rw [hk] at h; cases h
    | some c => rw [hk] at h; cases h; rfl
  refine ⟨fun i j p q hp hq e => ?_, fun k q h => ?_⟩
  · have h1 := at' i p hp
    have h2 := at' j q hq
    omega
  · have h1 := at' k q h
    show base ≤ q.1
    omega
abbrev aI (k n : Nat) (f : Nat → Int32) : Ce := .inl (k, n, .inl f)
abbrev aL (n : Nat) (f : Nat → Int64) : Ce := .inl (1, n, .inr (.inl f))
abbrev aR (k n : Nat) (f : Nat → Option Nat) : Ce := .inl (k, n, .inr (.inr (.inr (.inr f))))
abbrev ob (ci : Nat) (fs : List Value) : Ce := .inr (ci, fs)
def aTy : Nat → FieldType
  | 0 => .int
  | 1 => .long
  | 2 => .byte
  | 3 => .boolean
  | 4 => .object "MahlerBox$Poly"
  | 5 => .object "MahlerBox$Shelf"
  | 6 => .object "MahlerBox$Whole"
  | 7 => .array .long
  | _ => .array .int
abbrev atys (aC : Nat → ClassId) : List (ClassId × FieldType) := [(aC 0, aTy 0), (aC 1, aTy 1), (aC 2, aTy 2), (aC 3, aTy 3), (aC 4, aTy 4), (aC 5, aTy 5), (aC 6, aTy 6), (aC 7, aTy 7), (aC 8, aTy 8)]
def gT : List Cond := lw_tbl.filter goodWord
theorem gT_mem {w : Cond} (h : w ∈ lw_tbl) (hg : goodWord w = true) : w ∈ gT := List.mem_filter.mpr ⟨h, hg⟩
theorem gT_good {big : List Cond} (h : ∀ w ∈ gT, w ∈ big) : GoodIn big gT := fun w hw => ⟨h w hw, good_of_word (List.mem_filter.mp hw).2⟩
/-- what the tables say that can't ride in a method's words -/
def Kx (U : State) : Prop := va_AO "MahlerBox$Poly" U ∧ va_AO "MahlerBox$Shelf" U ∧ va_AO "MahlerBox$Whole" U ∧ va_Nw (.methodLinkNest "MahlerBox" 11 ⟨"MahlerBox$Tape", "<init>", "()V"⟩ "MahlerBox") U ∧ va_Nw (.methodLinkNest "MahlerBox" 18 ⟨"MahlerBox$Ladder", "<init>", "()V"⟩ "MahlerBox") U ∧ va_Nw (.methodLinkNest "MahlerBox" 46 ⟨"MahlerBox$Past", "<init>", "()V"⟩ "MahlerBox") U ∧ va_Nw (.castable "[I" "java/lang/Cloneable") U ∧ (Cond.arrayOver (.array .long)).before #[] U = true ∧ (Cond.arrayOver (.array .int)).before #[] U = true
theorem AO2.moved {t : FieldType} {u U : State} (hvm : u.vm.Alike U.vm) (h : (Cond.arrayOver t).before #[] u = true) : (Cond.arrayOver t).before #[] U = true := by
  have e := Cond.arrayOver_setVmC (args := #[]) hvm t
  rw [← e] at h
  exact h
theorem Kx.moved {s U : State} (hW : s.WarmedH U.vm) (h : Kx s) : Kx U := by
  obtain ⟨h1, h2, h3, h4, h5, h6, h7, h8, h9⟩ := h
  have ha := hW.alike
  exact ⟨h1.moved ha, h2.moved ha, h3.moved ha, h4.warmM hW, h5.warmM hW, h6.warmM hW, h7.warmC hW, AO2.moved ha h8, AO2.moved ha h9⟩
theorem Kx.same {s U : State} (hW : s.vm = U.vm) (h : Kx s) : Kx U := by
  obtain ⟨h1, h2, h3, h4, h5, h6, h7, h8, h9⟩ := h
  have ha : s.vm.Alike U.vm := by rw [hW]; exact Vm.Alike.refl _
  exact ⟨h1.moved ha, h2.moved ha, h3.moved ha, h4.same rfl hW, h5.same rfl hW, h6.same rfl hW, h7.same rfl hW, AO2.moved ha h8, AO2.moved ha h9⟩
/-- what holds all along a method's body -/
def CXT (nm own : String) (cc : ByteArray) (nL : Nat) (ret : Option FieldType) (sc : Option (Nat × (Nat → Int32))) (w0 : Wd) (D : va_G) (aC : Nat → ClassId) (b base : Nat) (p : Program) (s : State) (m : MethodId) (args : Array Value) (meth : Method) (c : Code) : Prop :=
  p.tables.exec = Jvm.exec ∧ c.code = cc ∧ c.maxLocals = nL ∧ s.vm.findClass own = some m.cls ∧ (∀ w ∈ gT, w.before args s = true) ∧ meth.sig.returnType = ret ∧ meth.locks = false ∧ meth.name = nm ∧ va_K D vwCl (atys aC) s ∧ Kx s ∧ b < base ∧ s.heap.size = base + w0.length ∧ ∀ q, sc = some q → va_X b q.1 q.2 s s.heap
/-- a frame stands at a return of this value -/
def rtI (cc : ByteArray) (pc : Nat) : Option Value → Prop
  | none => decode cc pc = .ok (.return_, 1)
  | some (.int _) => decode cc pc = .ok (.ireturn, 1)
  | some (.long _) => decode cc pc = .ok (.lreturn, 1)
  | some (.ref _) => decode cc pc = .ok (.areturn, 1)
  | some .null => decode cc pc = .ok (.areturn, 1)
  | _ => False
def mapL (b base : Nat) (ls : List (Nat × Value)) : List (Nat × Value) := ls.map (fun q => (q.1, cvV b base q.2))
abbrev Inn (base : Nat) : Nat → Prop := fun q => base ≤ q
/-- from this frame (pc, ls, st) over the world w the method comes to a return of r over wf -/
def Gg (nm own : String) (cc : ByteArray) (nL : Nat) (ret : Option FieldType) (d lo : Nat) (sc : Option (Nat × (Nat → Int32))) (w0 : Wd) (r : Option Value) (wf w : Wd) (pc : Nat) (ls : List (Nat × Value)) (st : List Value) : Prop :=
  (w.length ≤ wf.length ∧ slW w ≤ slW wf) ∧
  ∀ (l : Launch) (p : Program) (e : Env) (R : Room) (s : State) (m : MethodId) (args : Array Value) (below : List Frame) (meth : Method) (c : Code) (D : va_G) (aC : Nat → ClassId) (b base : Nat) (Q : State → Prop),
    CXT nm own cc nL ret sc w0 D aC b base p s m args meth c → d ≤ R.frames → lo ≤ R.locals → wf.length - w0.length ≤ R.cells → slW wf - slW w0 ≤ R.slots →
    (∀ (pc' : Nat) (lsA : Array Slot) (H : Heap) (locs : List Loc), rtI cc pc' r → IN D aC b base wf H → va_S (Inn base) s.heap H locs → W p l e R s m args below meth c H locs (wf.length - w0.length) (slW wf - slW w0) Q (F0 m pc' lsA (r.toList.map (cvV b base)))) →
    w0.length ≤ w.length → slW w0 ≤ slW w →
    ∀ (lsA : Array Slot) (H : Heap) (locs : List Loc), lv_has lsA nL (mapL b base ls) → IN D aC b base w H → va_S (Inn base) s.heap H locs → W p l e R s m args below meth c H locs (w.length - w0.length) (slW w - slW w0) Q (F0 m pc lsA (st.map (cvV b base)))
/-- the same, with what holds of the answer and of the last world -/
def GP (nm own : String) (cc : ByteArray) (nL : Nat) (ret : Option FieldType) (d lo : Nat) (sc : Option (Nat × (Nat → Int32))) (w0 : Wd) (Post : Option Value → Wd → Prop) (w : Wd) (pc : Nat) (ls : List (Nat × Value)) (st : List Value) : Prop :=
  ∃ (r : Option Value) (wf : Wd), Post r wf ∧ Gg nm own cc nL ret d lo sc w0 r wf w pc ls st
section LGa
variable {nm own : String} {cc : ByteArray} {nL : Nat} {ret : Option FieldType} {d lo : Nat} {sc : Option (Nat × (Nat → Int32))} {w0 : Wd} {Post : Option Value → Wd → Prop} {w w' : Wd} {pc pc' : Nat} {ls ls' : List (Nat × Value)} {st st' : List Value}
/-- the general step -/
theorem GP.go (hg : w.length ≤ w'.length ∧ slW w ≤ slW w') (k : GP nm own cc nL ret d lo sc w0 Post w' pc' ls' st')
    (h : ∀ {l : Launch} {p : Program} {e : Env} {R : Room} {s : State} {m : MethodId} {args : Array Value} {below : List Frame} {meth : Method} {c : Code} {D : va_G} {aC : Nat → ClassId} {b base : Nat} {Q : State → Prop} {lsA : Array Slot} {H : Heap} {locs : List Loc}, CXT nm own cc nL ret sc w0 D aC b base p s m args meth c → d ≤ R.frames → lo ≤ R.locals → w'.length - w0.length ≤ R.cells → slW w' - slW w0 ≤ R.slots → w0.length ≤ w.length → slW w0 ≤ slW w → lv_has lsA nL (mapL b base ls) → IN D aC b base w H → va_S (Inn base) s.heap H locs →
      (∀ (lsA : Array Slot) (H : Heap) (locs : List Loc), lv_has lsA nL (mapL b base ls') → IN D aC b base w' H → va_S (Inn base) s.heap H locs → W p l e R s m args below meth c H locs (w'.length - w0.length) (slW w' - slW w0) Q (F0 m pc' lsA (st'.map (cvV b base)))) →
      W p l e R s m args below meth c H locs (w.length - w0.length) (slW w - slW w0) Q (F0 m pc lsA (st.map (cvV b base)))) : GP nm own cc nL ret d lo sc w0 Post w pc ls st := by
  obtain ⟨r, wf, hp, hg2, hG⟩ := k
  refine ⟨r, wf, hp, ⟨Nat.le_trans hg.1 hg2.1, Nat.le_trans hg.2 hg2.2⟩, ?_⟩
  intro l p e R s m args below meth c D aC b base Q hC hd hlo hc hs hret h0 h1 lsA H locs hl hI hS
  refine h hC hd hlo ?_ ?_ h0 h1 hl hI hS ?_
  · have := hg2.1; omega
  · have := hg2.2; omega
  · intro lsA H locs hl hI hS
    exact hG l p e R s m args below meth c D aC b base Q hC hd hlo hc hs hret (Nat.le_trans h0 hg.1) (Nat.le_trans h1 hg.2) lsA H locs hl hI hS
/-- a step that leaves world and locals as they are -/
theorem GP.pure (k : GP nm own cc nL ret d lo sc w0 Post w pc' ls st')
    (h : ∀ {l : Launch} {p : Program} {e : Env} {R : Room} {s : State} {m : MethodId} {args : Array Value} {below : List Frame} {meth : Method} {c : Code} {b base cells slots : Nat} {Q : State → Prop} {lsA : Array Slot} {H : Heap} {locs : List Loc}, p.tables.exec = Jvm.exec → c.code = cc → s.vm.findClass own = some m.cls → (∀ w ∈ gT, w.before args s = true) → lv_has lsA nL (mapL b base ls) →
      W p l e R s m args below meth c H locs cells slots Q (F0 m pc' lsA (st'.map (cvV b base))) → W p l e R s m args below meth c H locs cells slots Q (F0 m pc lsA (st.map (cvV b base)))) : GP nm own cc nL ret d lo sc w0 Post w pc ls st :=
  GP.go ⟨Nat.le_refl _, Nat.le_refl _⟩ k fun hC _ _ _ _ _ _ hl hI hS kk => h hC.1 hC.2.1 hC.2.2.2.1 hC.2.2.2.2.1 hl (kk _ _ _ hl hI hS)
/-- a store into a local -/
theorem GP.loc (k : GP nm own cc nL ret d lo sc w0 Post w pc' ls' st')
    (h : ∀ {l : Launch} {p : Program} {e : Env} {R : Room} {s : State} {m : MethodId} {args : Array Value} {below : List Frame} {meth : Method} {c : Code} {b base cells slots : Nat} {Q : State → Prop} {lsA : Array Slot} {H : Heap} {locs : List Loc}, p.tables.exec = Jvm.exec → c.code = cc → lv_has lsA nL (mapL b base ls) →
      (∀ lsA : Array Slot, lv_has lsA nL (mapL b base ls') → W p l e R s m args below meth c H locs cells slots Q (F0 m pc' lsA (st'.map (cvV b base)))) → W p l e R s m args below meth c H locs cells slots Q (F0 m pc lsA (st.map (cvV b base)))) : GP nm own cc nL ret d lo sc w0 Post w pc ls st :=
  GP.go ⟨Nat.le_refl _, Nat.le_refl _⟩ k fun hC _ _ _ _ _ _ hl hI hS kk => h hC.1 hC.2.1 hl (fun lsA hl' => kk lsA _ _ hl' hI hS)
/-- two ways on -/
theorem GP.br {c : Prop} {pct pcf : Nat} (kt : c → GP nm own cc nL ret d lo sc w0 Post w pct ls st') (kf : ¬ c → GP nm own cc nL ret d lo sc w0 Post w pcf ls st')
    (h : ∀ {l : Launch} {p : Program} {e : Env} {R : Room} {s : State} {m : MethodId} {args : Array Value} {below : List Frame} {meth : Method} {cd : Code} {b base cells slots : Nat} {Q : State → Prop} {lsA : Array Slot} {H : Heap} {locs : List Loc}, p.tables.exec = Jvm.exec → cd.code = cc →
      (c → W p l e R s m args below meth cd H locs cells slots Q (F0 m pct lsA (st'.map (cvV b base)))) → (¬ c → W p l e R s m args below meth cd H locs cells slots Q (F0 m pcf lsA (st'.map (cvV b base)))) → W p l e R s m args below meth cd H locs cells slots Q (F0 m pc lsA (st.map (cvV b base)))) : GP nm own cc nL ret d lo sc w0 Post w pc ls st := by
  by_cases hc : c
  · obtain ⟨r, wf, hp, hg, hG⟩ := kt hc
    exact ⟨r, wf, hp, hg, fun l p e R s m args below meth cd D aC b base Q hC hd hlo h2 h3 hret h0 h1 lsA H locs hl hI hS => h hC.1 hC.2.1 (fun _ => hG l p e R s m args below meth cd D aC b base Q hC hd hlo h2 h3 hret h0 h1 lsA H locs hl hI hS) (fun hn => absurd hc hn)⟩
  · obtain ⟨r, wf, hp, hg, hG⟩ := kf hc
    exact ⟨r, wf, hp, hg, fun l p e R s m args below meth cd D aC b base Q hC hd hlo h2 h3 hret h0 h1 lsA H locs hl hI hS => h hC.1 hC.2.1 (fun hn => absurd hn hc) (fun _ => hG l p e R s m args below meth cd D aC b base Q hC hd hlo h2 h3 hret h0 h1 lsA H locs hl hI hS)⟩
end LGa
