/-! rules of the instructions that read and write cells -/
theorem IN.set {D : va_G} {aC : Nat → ClassId} {b base : Nat} {w : Wd} {H H1 : Heap} {o : Nat} {c0 c1 : Ce} (h : IN D aC b base w H) (ho : w[o]? = some c0) (z : H1.size = H.size) (he : va_at D vwCl (base + o, cvE aC b base c1) H1) (oq : ∀ q : Nat, q ≠ base + o → H1[q]? = H[q]?) : IN D aC b base (w.set o c1) H1 := by
  refine ⟨by rw [z, h.1, List.length_set], ?_⟩
  rw [cvW_set]
  exact h.2.set cvW_D (cvW_get ho) he oq
theorem IN.push {D : va_G} {aC : Nat → ClassId} {b base : Nat} {w : Wd} {H H1 : Heap} {c1 : Ce} (h : IN D aC b base w H) (z : H1.size = H.size + 1) (he : va_at D vwCl (base + w.length, cvE aC b base c1) H1) (oq : ∀ q : Nat, q < H.size → H1[q]? = H[q]?) : IN D aC b base (w ++ [c1]) H1 := by
  refine ⟨by rw [z, h.1, List.length_append]; rfl, ?_⟩
  rw [cvW_app]
  refine (h.2.kept (fun k q hk => oq q.1 (h.2 k q hk).lt)).app (fun k q hk => ?_)
  have hz : k < 1 := (List.getElem?_eq_some_iff.mp hk).1
  rw [show k = 0 by omega] at hk
  cases hk
  exact he
theorem va_S.push {base : Nat} {H0 H H1 : Heap} {locs : List Loc} (h : va_S (Inn base) H0 H locs) (z : H1.size = H.size + 1) (oq : ∀ q : Nat, q < H.size → H1[q]? = H[q]?) : va_S (Inn base) H0 H1 locs :=
  ⟨by rw [z]; exact Nat.le_succ_of_le h.1, fun q h1 h2 => (oq q (Nat.lt_of_lt_of_le h1 h.1)).trans (h.2.1 q h1 h2), h.2.2⟩
/-- a field by its link: class number, place, whether final, type -/
def FOK (own : String) (idx ci k : Nat) (fin : Bool) (fty : FieldType) : Prop := ∃ (C : String) (T : u_T) (N : Nat) (ty : Nat → FieldType), vwCl[ci]? = some (C, T, N) ∧ (∀ w ∈ u_ws C T N, w ∈ gT) ∧ k < N ∧ Cond.fieldLink own idx (T k).1 (T k).2.1 (T k).2.2.1 ∈ gT ∧ (∀ k, k < N → parseFieldDescriptor (T k).2.2.1 = some (ty k)) ∧ (∀ a, a < N → ∀ b, b < N → a ≠ b → (T a).2.1 ≠ (T b).2.1) ∧ (T k).2.2.2 = fin ∧ ty k = fty
/-- what a field of a type takes -/
def okV : FieldType → Value → Bool
  | .int, .int _ => true
  | .long, .long _ => true
  | .boolean, .int x => x == 0 || x == 1
  | .object _, .ref _ => true
  | .object _, .null => true
  | .array _, .ref _ => true
  | .array _, .null => true
  | _, _ => false
theorem okV_ok {ty : FieldType} {v : Value} (b base : Nat) (h : okV ty v = true) : narrow ty (cvV b base v) = cvV b base v ∧ fits ty (cvV b base v) = true := by
  cases ty <;> cases v <;> first
    | (simp [okV] at h; done)
    | exact ⟨rfl, rfl⟩
    | (simp only [okV, Bool.or_eq_true, beq_iff_eq] at h
       rcases h with rfl | rfl <;> exact ⟨rfl, rfl⟩)
/-- an index within n, as a number -/
def IX (i : Int32) (n j : Nat) : Prop := i.toInt = (j : Int) ∧ j < n
theorem IX.in {i : Int32} {n j : Nat} (h : IX i n j) : vp_in i n := vp_in_iff.mpr ⟨by rw [h.1]; omega, by rw [h.1]; have := h.2; omega⟩
theorem IX.cl {i : Int32} {n j : Nat} (h : IX i n j) : i.toNatClampNeg = j := by
  show i.toInt.toNat = j
  rw [h.1]
  rfl
section LGc
variable {nm own : String} {cc : ByteArray} {nL : Nat} {ret : Option FieldType} {d lo : Nat} {sc : Option (Nat × (Nat → Int32))} {w0 : Wd} {Post : Option Value → Wd → Prop} {w : Wd} {pc : Nat} {ls ls' : List (Nat × Value)} {st : List Value}
theorem g_get {idx ci k o : Nat} {fin : Bool} {fty : FieldType} {fs : List Value} {v : Value} (hd : decode cc pc = .ok (.getfield idx, 3)) (hf : FOK own idx ci k fin fty) (hw : w[o]? = some (.inr (ci, fs))) (hv : fs[k]? = some v) (kk : GP nm own cc nL ret d lo sc w0 Post w (pc + 3) ls (v :: st)) : GP nm own cc nL ret d lo sc w0 Post w pc ls (.ref o :: st) := by
  refine GP.go ⟨Nat.le_refl _, Nat.le_refl _⟩ kk fun {l} {p} {e} {R} {s} {m} {args} {below} {meth} {c} {D} {aC} {b} {base} {Q} {lsA} {H} {locs} hC _ _ _ _ _ _ hl hI hS kk => ?_
  obtain ⟨hx, hb, -, ho, ht, -, -, -, hK, -⟩ := hC
  obtain ⟨C, T, N, ty, hc, hin, hk, hlk, -⟩ := hf
  exact va_get (v := cvV b base v) hx hb ht hin ho hK hI.2 o (cvW_get hw) hc k hk (ht _ hlk) (fun _ h => h) (by simp [hv]) hd (kk _ _ _ hl hI hS)
theorem g_put {idx ci k o : Nat} {fty : FieldType} {fs : List Value} {v : Value} (fs' : List Value) (hd : decode cc pc = .ok (.putfield idx, 3)) (hf : FOK own idx ci k false fty) (hw : w[o]? = some (.inr (ci, fs))) (hk' : k < fs.length) (hv : okV fty v = true) (hfs : fs.set k v = fs') (kk : GP nm own cc nL ret d lo sc w0 Post (w.set o (.inr (ci, fs'))) (pc + 3) ls st) : GP nm own cc nL ret d lo sc w0 Post w pc ls (v :: .ref o :: st) := by
  subst hfs
  refine GP.go ⟨by rw [List.length_set]; exact Nat.le_refl _, by rw [slW_set hw (by simp [slE])]; exact Nat.le_refl _⟩ kk fun {l} {p} {e} {R} {s} {m} {args} {below} {meth} {c} {D} {aC} {b} {base} {Q} {lsA} {H} {locs} hC _ _ _ _ _ _ hl hI hS kk => ?_
  obtain ⟨hx, hb, -, ho, hts, -, -, -, hK, -⟩ := hC
  obtain ⟨C, T, N, ty, hc, hin, hk, hlk, hty, hnm, hfin, hft⟩ := hf
  rw [List.length_set, slW_set hw (by simp [slE])] at kk
  have hap := va_apart (own := own) hts hin ty hty hnm hK hc
  have he := cvW_get (aC := aC) (b := b) (base := base) hw
  obtain ⟨r, h1, cell, q1, q2, q3, q4⟩ := hI.2 o _ he
  have hr : r = (C, T, N) := Option.some.inj (h1.symm.trans hc)
  subst hr
  obtain ⟨hS1, hfc, kC, hkC, hkind⟩ := hK.1 ci _ hc
  obtain ⟨cf, kf, fi, f, hi, hsl⟩ := hS1 k hk
  have hlay := hts _ (hin _ (u_in_lay hk))
  unfold u_lay at hlay
  rw [if_neg (by rw [hfin]; decide)] at hlay
  have hst := (u_facts hfc hkC (u_lays hts hin hk) hi).1
  have hok := okV_ok b base hv
  have h6 := u_store hfc hkC hkind hlay hi (hty k hk) (by rw [hft]; exact hok.1) (by rw [hft]; exact hok.2)
  refine W.putK hx hb (f := f) ⟨ho, hts _ hlk, ⟨_, _, _, hi⟩, hst⟩ (by rw [q2]; exact h6) q1 q3 (by rw [hsl]; exact k2_hasslot (q4 k hk)) rfl rfl hd fun H' e1 e2 e3 => ?_
  rw [hsl] at e1 ⊢
  refine kk _ H' _ hl (hI.set hw e2 ?_ e3) (hS.put e2 e3 (Nat.le_add_right _ _))
  refine ⟨_, hc, t_OB.to (V := updV (vp_V (fs.map (cvV b base))) k (cvV b base v)) ⟨_, e1, q2, q3, t_set q4 hap hk _⟩ (fun j _ => ?_)⟩
  show _ = vp_V ((fs.set k v).map (cvV b base)) j
  rw [List.map_set]
  exact vp_updV_set (by rw [List.length_map]; exact hk') _ j
theorem g_putF {idx ci k o : Nat} {fty : FieldType} {fs : List Value} {v : Value} (fs' : List Value) (hd : decode cc pc = .ok (.putfield idx, 3)) (hf : FOK own idx ci k true fty) (hdecl : ∀ C T N, vwCl[ci]? = some (C, T, N) → (T k).1 = own) (hnm : nm = "<init>") (hw : w[o]? = some (.inr (ci, fs))) (hk' : k < fs.length) (hv : okV fty v = true) (hfs : fs.set k v = fs') (kk : GP nm own cc nL ret d lo sc w0 Post (w.set o (.inr (ci, fs'))) (pc + 3) ls st) : GP nm own cc nL ret d lo sc w0 Post w pc ls (v :: .ref o :: st) := by
  subst hfs
  refine GP.go ⟨by rw [List.length_set]; exact Nat.le_refl _, by rw [slW_set hw (by simp [slE])]; exact Nat.le_refl _⟩ kk fun {l} {p} {e} {R} {s} {m} {args} {below} {meth} {c} {D} {aC} {b} {base} {Q} {lsA} {H} {locs} hC _ _ _ _ _ _ hl hI hS kk => ?_
  obtain ⟨hx, hb, -, ho, hts, -, -, hmn, hK, -⟩ := hC
  obtain ⟨C, T, N, ty, hc, hin, hk, hlk, hty, hnm2, hfin, hft⟩ := hf
  rw [List.length_set, slW_set hw (by simp [slE])] at kk
  have hap := va_apart (own := own) hts hin ty hty hnm2 hK hc
  have he := cvW_get (aC := aC) (b := b) (base := base) hw
  obtain ⟨r, h1, cell, q1, q2, q3, q4⟩ := hI.2 o _ he
  have hr : r = (C, T, N) := Option.some.inj (h1.symm.trans hc)
  subst hr
  obtain ⟨hS1, hfc, kC, hkC, hkind⟩ := hK.1 ci _ hc
  obtain ⟨cf, kf, fi, f, hi, hsl⟩ := hS1 k hk
  have hlay := hts _ (hin _ (u_in_lay hk))
  unfold u_lay at hlay
  rw [if_pos hfin] at hlay
  have hst := (u_facts hfc hkC (u_lays hts hin hk) hi).1
  have hok := okV_ok b base hv
  have hcf : m.cls = cf := by
    obtain ⟨_, _, c', _, _, _, -, -, hf', -, -, -, hown2, -⟩ := Cond.laysFinal_spec hlay
    have e1 : c' = cf := by have := hi.symm.trans hf'; simp at this; exact this.1.symm
    rw [hdecl C T N hc] at hown2
    rw [← e1]; exact Option.some.inj (ho.symm.trans hown2)
  have h6 := u_fits hfc hkC hkind (Or.inr hlay) hi (hty k hk) (by rw [hft]; exact hok.1) (by rw [hft]; exact hok.2)
  refine W.putFinK hx hb ho (hts _ hlk) hi hst hcf (hmn.trans hnm) (by rw [q2]; exact h6) q1 q3 (by rw [hsl]; exact k2_hasslot (q4 k hk)) rfl rfl hd fun H' e1 e2 e3 => ?_
  rw [hsl] at e1 ⊢
  refine kk _ H' _ hl (hI.set hw e2 ?_ e3) (hS.put e2 e3 (Nat.le_add_right _ _))
  refine ⟨_, hc, t_OB.to (V := updV (vp_V (fs.map (cvV b base))) k (cvV b base v)) ⟨_, e1, q2, q3, t_set q4 hap hk _⟩ (fun j _ => ?_)⟩
  show _ = vp_V ((fs.set k v).map (cvV b base)) j
  rw [List.map_set]
  exact vp_updV_set (by rw [List.length_map]; exact hk') _ j
theorem g_iald {o n : Nat} {f : Nat → Int32} {i : Int32} (j : Nat) (hd : decode cc pc = .ok (.iaload, 1)) (hw : w[o]? = some (aI 0 n f)) (hj : IX i n j) (kk : GP nm own cc nL ret d lo sc w0 Post w (pc + 1) ls (.int (f j) :: st)) : GP nm own cc nL ret d lo sc w0 Post w pc ls (.int i :: .ref o :: st) := by
  refine GP.go ⟨Nat.le_refl _, Nat.le_refl _⟩ kk fun {l} {p} {e} {R} {s} {m} {args} {below} {meth} {c} {D} {aC} {b} {base} {Q} {lsA} {H} {locs} hC _ _ _ _ _ _ hl hI hS kk => ?_
  obtain ⟨hx, hb, -, ho, ht, -, -, -, hK, -⟩ := hC
  refine va_iald hx hb hK hI.2 o 0 (cvW_get hw) rfl hj.in hd ?_
  rw [hj.cl]
  exact kk _ _ _ hl hI hS
theorem g_bald {o n : Nat} {f : Nat → Int32} {i : Int32} (j : Nat) (hd : decode cc pc = .ok (.baload, 1)) (hw : w[o]? = some (aI 2 n f)) (hj : IX i n j) (kk : GP nm own cc nL ret d lo sc w0 Post w (pc + 1) ls (.int (f j) :: st)) : GP nm own cc nL ret d lo sc w0 Post w pc ls (.int i :: .ref o :: st) := by
  refine GP.go ⟨Nat.le_refl _, Nat.le_refl _⟩ kk fun {l} {p} {e} {R} {s} {m} {args} {below} {meth} {c} {D} {aC} {b} {base} {Q} {lsA} {H} {locs} hC _ _ _ _ _ _ hl hI hS kk => ?_
  obtain ⟨hx, hb, -, ho, ht, -, -, -, hK, -⟩ := hC
  refine va_bald hx hb hK hI.2 o 2 (cvW_get hw) rfl hj.in hd ?_
  rw [hj.cl]
  exact kk _ _ _ hl hI hS
theorem g_zald {o n : Nat} {f : Nat → Int32} {i : Int32} (j : Nat) (hd : decode cc pc = .ok (.baload, 1)) (hw : w[o]? = some (aI 3 n f)) (hj : IX i n j) (kk : GP nm own cc nL ret d lo sc w0 Post w (pc + 1) ls (.int (f j) :: st)) : GP nm own cc nL ret d lo sc w0 Post w pc ls (.int i :: .ref o :: st) := by
  refine GP.go ⟨Nat.le_refl _, Nat.le_refl _⟩ kk fun {l} {p} {e} {R} {s} {m} {args} {below} {meth} {c} {D} {aC} {b} {base} {Q} {lsA} {H} {locs} hC _ _ _ _ _ _ hl hI hS kk => ?_
  obtain ⟨hx, hb, -, ho, ht, -, -, -, hK, -⟩ := hC
  refine va_zald hx hb hK hI.2 o 3 (cvW_get hw) rfl hj.in hd ?_
  rw [hj.cl]
  exact kk _ _ _ hl hI hS
theorem g_lald {o n : Nat} {f : Nat → Int64} {i : Int32} (j : Nat) (hd : decode cc pc = .ok (.laload, 1)) (hw : w[o]? = some (aL n f)) (hj : IX i n j) (kk : GP nm own cc nL ret d lo sc w0 Post w (pc + 1) ls (.long (f j) :: st)) : GP nm own cc nL ret d lo sc w0 Post w pc ls (.int i :: .ref o :: st) := by
  refine GP.go ⟨Nat.le_refl _, Nat.le_refl _⟩ kk fun {l} {p} {e} {R} {s} {m} {args} {below} {meth} {c} {D} {aC} {b} {base} {Q} {lsA} {H} {locs} hC _ _ _ _ _ _ hl hI hS kk => ?_
  obtain ⟨hx, hb, -, ho, ht, -, -, -, hK, -⟩ := hC
  refine va_lald hx hb hK hI.2 o 1 (cvW_get hw) rfl hj.in hd ?_
  rw [hj.cl]
  exact kk _ _ _ hl hI hS
/-- a reference out of an array, as the pure world has it -/
def rfV (r : Option Nat) : Value := match r with
  | none => .null
  | some i => .ref i
theorem rfV_cv (b base : Nat) (r : Option Nat) : cvV b base (rfV r) = va_rf (r.map (fun i => base + i)) := by
  cases r <;> rfl
theorem g_aald {o n k : Nat} {f : Nat → Option Nat} {i : Int32} {v : Value} (j : Nat) (hd : decode cc pc = .ok (.aaload, 1)) (hw : w[o]? = some (aR k n f)) (hk : 4 ≤ k ∧ k < 9) (hj : IX i n j) (hv : rfV (f j) = v) (kk : GP nm own cc nL ret d lo sc w0 Post w (pc + 1) ls (v :: st)) : GP nm own cc nL ret d lo sc w0 Post w pc ls (.int i :: .ref o :: st) := by
  subst hv
  refine GP.go ⟨Nat.le_refl _, Nat.le_refl _⟩ kk fun {l} {p} {e} {R} {s} {m} {args} {below} {meth} {c} {D} {aC} {b} {base} {Q} {lsA} {H} {locs} hC _ _ _ _ _ _ hl hI hS kk => ?_
  obtain ⟨hx, hb, -, ho, ht, -, -, -, hK, -⟩ := hC
  have h1 := hI.2 o _ (cvW_get hw)
  have hty : (atys aC)[k]? = some (aC k, aTy k) ∧ (aTy k).isReference = true := by
    rcases (show k = 4 ∨ k = 5 ∨ k = 6 ∨ k = 7 ∨ k = 8 by omega) with rfl | rfl | rfl | rfl | rfl <;> exact ⟨rfl, rfl⟩
  have hcl : i.toNatClampNeg = j := hj.cl
  refine W.aald (v := cvV b base (rfV (f j))) (ty := aTy k) hx hb h1 ((hK.2 k _ hty.1).1 n (fun j => va_rf ((f j).map (fun i => base + i)))) hty.2 (fun q => by cases q) (by show ¬ (i < 0 ∨ (arrV _ _ _).slots.size ≤ _); rw [arrV_size]; exact hj.in) ?_ rfl rfl hd (kk _ _ _ hl hI hS)
  show (arrV (aC k) n (fun j => va_rf ((f j).map (fun i => base + i)))).slots[i.toNatClampNeg]? = _
  rw [hcl, arrV_read _ _ hj.2, rfV_cv]
theorem g_alen {o k n : Nat} {z : (Nat → Int32) ⊕ (Nat → Int64) ⊕ (Nat → UInt32) ⊕ (Nat → UInt64) ⊕ (Nat → Option Nat)} (hd : decode cc pc = .ok (.arraylength, 1)) (hw : w[o]? = some (.inl (k, n, z))) (hk : k < 9) (kk : GP nm own cc nL ret d lo sc w0 Post w (pc + 1) ls (.int (nI n) :: st)) : GP nm own cc nL ret d lo sc w0 Post w pc ls (.ref o :: st) := by
  refine GP.go ⟨Nat.le_refl _, Nat.le_refl _⟩ kk fun {l} {p} {e} {R} {s} {m} {args} {below} {meth} {c} {D} {aC} {b} {base} {Q} {lsA} {H} {locs} hC _ _ _ _ _ _ hl hI hS kk => ?_
  obtain ⟨hx, hb, -, ho, ht, -, -, -, hK, -⟩ := hC
  have hty : (atys aC)[k]? = some (aC k, aTy k) := by
    rcases (show k = 0 ∨ k = 1 ∨ k = 2 ∨ k = 3 ∨ k = 4 ∨ k = 5 ∨ k = 6 ∨ k = 7 ∨ k = 8 by omega) with rfl | rfl | rfl | rfl | rfl | rfl | rfl | rfl | rfl <;> rfl
  refine va_alen hx hb hK hI.2 o k (cvW_get hw) hty (v := nI n) ?_ hd (kk _ _ _ hl hI hS)
  rcases z with f | f | f | f | f <;> rfl
/-- a store: what is the same for every kind of array -/
theorem GP.ast {o : Nat} {c0 c1 : Ce} {st' : List Value} (hw : w[o]? = some c0) (kk : GP nm own cc nL ret d lo sc w0 Post (w.set o c1) (pc + 1) ls st) (hsl : slE c1 = slE c0)
    (h : ∀ {l : Launch} {p : Program} {e : Env} {R : Room} {s : State} {m : MethodId} {args : Array Value} {below : List Frame} {meth : Method} {c : Code} {D : va_G} {aC : Nat → ClassId} {b base cells slots : Nat} {Q : State → Prop} {lsA : Array Slot} {H : Heap} {locs : List Loc}, p.tables.exec = Jvm.exec → c.code = cc → va_K D vwCl (atys aC) s → IN D aC b base w H → va_at D vwCl (base + o, cvE aC b base c0) H →
      (∀ (H1 : Heap) (x : Nat), va_at D vwCl (base + o, cvE aC b base c1) H1 → H1.size = H.size → (∀ q : Nat, q ≠ base + o → H1[q]? = H[q]?) → W p l e R s m args below meth c H1 (locs ++ [⟨base + o, x⟩]) cells slots Q (F0 m (pc + 1) lsA (st.map (cvV b base)))) →
      W p l e R s m args below meth c H locs cells slots Q (F0 m pc lsA (st'.map (cvV b base)))) : GP nm own cc nL ret d lo sc w0 Post w pc ls st' := by
  refine GP.go ⟨by rw [List.length_set]; exact Nat.le_refl _, by rw [slW_set hw hsl]; exact Nat.le_refl _⟩ kk fun {l} {p} {e} {R} {s} {m} {args} {below} {meth} {c} {D} {aC} {b} {base} {Q} {lsA} {H} {locs} hC _ _ _ _ _ _ hl hI hS kk => ?_
  obtain ⟨hx, hb, -, ho, ht, -, -, -, hK, -⟩ := hC
  rw [List.length_set, slW_set hw hsl] at kk
  exact h hx hb hK hI (hI.2 o _ (cvW_get hw)) fun H1 x a z oq => kk _ H1 _ hl (hI.set hw z a oq) (hS.put z oq (Nat.le_add_right _ _))
theorem g_iast {o n : Nat} {f : Nat → Int32} {i x : Int32} (j : Nat) (hd : decode cc pc = .ok (.iastore, 1)) (hw : w[o]? = some (aI 0 n f)) (hj : IX i n j) (kk : GP nm own cc nL ret d lo sc w0 Post (w.set o (aI 0 n (upd f j x))) (pc + 1) ls st) : GP nm own cc nL ret d lo sc w0 Post w pc ls (.int x :: .int i :: .ref o :: st) := by
  refine GP.ast hw kk rfl fun {l} {p} {e} {R} {s} {m} {args} {below} {meth} {c} {D} {aC} {b} {base} {cells} {slots} {Q} {lsA} {H} {locs} hx hb hK hI h1 kk => ?_
  refine W.iast hx hb h1 ((hK.2 0 _ rfl).1 n (fun j => .int (f j))) (fun q => by cases q) (by show ¬ (i < 0 ∨ (arrV _ _ _).slots.size ≤ _); rw [arrV_size]; exact hj.in) rfl rfl hd fun H1 e z oq => kk H1 _ ?_ z oq
  show H1[_]? = some (vp_cell _ (n, .inl _))
  rw [e, hj.cl]
  show some ((arrV (aC 0) n (fun q => .int (f q))).setSlot j (.int x)) = some (arrV (aC 0) n (fun q => .int (upd f j x q)))
  rw [arrV_store]
  congr 2
  funext q
  by_cases hq : q = j
  · subst hq; simp [updV, upd]
  · simp [updV, upd, hq]
theorem g_bast {o n : Nat} {f : Nat → Int32} {i x : Int32} (j : Nat) (hd : decode cc pc = .ok (.bastore, 1)) (hw : w[o]? = some (aI 2 n f)) (hj : IX i n j) (kk : GP nm own cc nL ret d lo sc w0 Post (w.set o (aI 2 n (upd f j x.toInt8.toInt32))) (pc + 1) ls st) : GP nm own cc nL ret d lo sc w0 Post w pc ls (.int x :: .int i :: .ref o :: st) := by
  refine GP.ast hw kk rfl fun {l} {p} {e} {R} {s} {m} {args} {below} {meth} {c} {D} {aC} {b} {base} {cells} {slots} {Q} {lsA} {H} {locs} hx hb hK hI h1 kk => ?_
  refine W.bast hx hb h1 ((hK.2 2 _ rfl).1 n (fun j => .int (f j))) (fun q => by cases q) (by show ¬ (i < 0 ∨ (arrV _ _ _).slots.size ≤ _); rw [arrV_size]; exact hj.in) rfl rfl hd fun H1 e z oq => kk H1 _ ?_ z oq
  show H1[_]? = some (vp_cell _ (n, .inl _))
  rw [e, hj.cl]
  show some ((arrV (aC 2) n (fun q => .int (f q))).setSlot j (narrow .byte (.int x))) = some (arrV (aC 2) n (fun q => .int (upd f j x.toInt8.toInt32 q)))
  rw [arrV_store]
  congr 2
  funext q
  by_cases hq : q = j
  · subst hq; simp [updV, upd, narrow]
  · simp [updV, upd, hq]
theorem g_zast {o n : Nat} {f : Nat → Int32} {i x : Int32} (j : Nat) (hd : decode cc pc = .ok (.bastore, 1)) (hw : w[o]? = some (aI 3 n f)) (hj : IX i n j) (kk : GP nm own cc nL ret d lo sc w0 Post (w.set o (aI 3 n (upd f j (x &&& 1)))) (pc + 1) ls st) : GP nm own cc nL ret d lo sc w0 Post w pc ls (.int x :: .int i :: .ref o :: st) := by
  refine GP.ast hw kk rfl fun {l} {p} {e} {R} {s} {m} {args} {below} {meth} {c} {D} {aC} {b} {base} {cells} {slots} {Q} {lsA} {H} {locs} hx hb hK hI h1 kk => ?_
  refine W.zast hx hb h1 ((hK.2 3 _ rfl).1 n (fun j => .int (f j))) (fun q => by cases q) (by show ¬ (i < 0 ∨ (arrV _ _ _).slots.size ≤ _); rw [arrV_size]; exact hj.in) rfl rfl hd fun H1 e z oq => kk H1 _ ?_ z oq
  show H1[_]? = some (vp_cell _ (n, .inl _))
  rw [e, hj.cl]
  show some ((arrV (aC 3) n (fun q => .int (f q))).setSlot j (narrow .boolean (.int x))) = some (arrV (aC 3) n (fun q => .int (upd f j (x &&& 1) q)))
  rw [arrV_store]
  congr 2
  funext q
  by_cases hq : q = j
  · subst hq; simp [updV, upd, narrow]
  · simp [updV, upd, hq]
theorem g_last {o n : Nat} {f : Nat → Int64} {i : Int32} {x : Int64} (j : Nat) (hd : decode cc pc = .ok (.lastore, 1)) (hw : w[o]? = some (aL n f)) (hj : IX i n j) (kk : GP nm own cc nL ret d lo sc w0 Post (w.set o (aL n (vp_updL f j x))) (pc + 1) ls st) : GP nm own cc nL ret d lo sc w0 Post w pc ls (.long x :: .int i :: .ref o :: st) := by
  refine GP.ast hw kk rfl fun {l} {p} {e} {R} {s} {m} {args} {below} {meth} {c} {D} {aC} {b} {base} {cells} {slots} {Q} {lsA} {H} {locs} hx hb hK hI h1 kk => ?_
  refine W.last hx hb h1 ((hK.2 1 _ rfl).1 n (fun j => .long (f j))) (fun q => by cases q) (by show ¬ (i < 0 ∨ (arrV _ _ _).slots.size ≤ _); rw [arrV_size]; exact hj.in) rfl rfl hd fun H1 e z oq => kk H1 _ ?_ z oq
  show H1[_]? = some (vp_cell _ (n, .inr (.inl _)))
  rw [e, hj.cl]
  show some ((arrV (aC 1) n (fun q => .long (f q))).setSlot j (.long x)) = some (arrV (aC 1) n (fun q => .long (vp_updL f j x q)))
  rw [arrV_store]
  congr 2
  funext q
  by_cases hq : q = j
  · subst hq; simp [updV, vp_updL]
  · simp [updV, vp_updL, hq]
/-- which class's objects an array of kind k holds -/
def aCl : Nat → Nat
  | 4 => 6
  | 5 => 7
  | _ => 9
theorem g_aast {o n k ci v : Nat} {f : Nat → Option Nat} {fs : List Value} {i : Int32} (j : Nat) (hd : decode cc pc = .ok (.aastore, 1)) (hw : w[o]? = some (aR k n f)) (hk : 4 ≤ k ∧ k < 7) (hj : IX i n j) (hv : w[v]? = some (.inr (ci, fs))) (hci : ci = aCl k) (kk : GP nm own cc nL ret d lo sc w0 Post (w.set o (aR k n (va_up f j (some v)))) (pc + 1) ls st) : GP nm own cc nL ret d lo sc w0 Post w pc ls (.ref v :: .int i :: .ref o :: st) := by
  refine GP.ast hw kk rfl fun {l} {p} {e} {R} {s} {m} {args} {below} {meth} {c} {D} {aC} {b} {base} {cells} {slots} {Q} {lsA} {H} {locs} hx hb hK hI h1 kk => ?_
  obtain ⟨r, hc, hty⟩ : ∃ r : vw_C, vwCl[ci]? = some r ∧ (atys aC)[k]? = some (aC k, .object r.1) := by
    subst hci
    rcases (show k = 4 ∨ k = 5 ∨ k = 6 by omega) with rfl | rfl | rfl <;> exact ⟨_, rfl, rfl⟩
  have hlt : i.toNatClampNeg < n := by rw [hj.cl]; exact hj.2
  have h0 : ¬ i < 0 := fun q => hj.in (Or.inl q)
  obtain ⟨r', hr', cellV, g1, g2, g3, -⟩ := hI.2 v _ (cvW_get hv)
  have hcls := (hK.1 ci r hc).2
  obtain ⟨kA, comp, k1, k2, k3, -⟩ := (hK.2 k _ hty).2
  have hcomp : comp = D.1 ci := Option.some.inj (k3.symm.trans hcls.1)
  subst hcomp
  obtain ⟨kC, hkC, -⟩ := hcls.2
  refine W.aast hx hb h1 (fun q h => by cases h) (fun h => by cases h) k1 k2 rfl hkC ⟨h0, by show _ < (arrV _ _ _).slots.size; rw [arrV_size]; exact hlt⟩ g1 (fun q h => by rw [g3] at h; cases h) (by rw [g2]; exact hkC) (by rw [g2]; exact va_assign hcls) rfl rfl hd fun H1 e z oq => kk H1 _ ?_ z oq
  show H1[_]? = some (vp_cell _ (n, .inr (.inr (.inr (.inr _)))))
  rw [e, hj.cl]
  show some ((arrV (aC k) n (fun q => va_rf ((f q).map (fun i => base + i)))).setSlot j (.ref (base + v))) = some (arrV (aC k) n (fun q => va_rf ((va_up f j (some v) q).map (fun i => base + i))))
  rw [arrV_store]
  congr 2
  funext q
  by_cases hq : q = j
  · subst hq; simp [updV, va_up, va_rf]
  · simp [updV, va_up, hq]
theorem g_aastN {o n k : Nat} {f : Nat → Option Nat} {i : Int32} (j : Nat) (hd : decode cc pc = .ok (.aastore, 1)) (hw : w[o]? = some (aR k n f)) (hk : 4 ≤ k ∧ k < 7) (hj : IX i n j) (kk : GP nm own cc nL ret d lo sc w0 Post (w.set o (aR k n (va_up f j none))) (pc + 1) ls st) : GP nm own cc nL ret d lo sc w0 Post w pc ls (.null :: .int i :: .ref o :: st) := by
  refine GP.ast hw kk rfl fun {l} {p} {e} {R} {s} {m} {args} {below} {meth} {c} {D} {aC} {b} {base} {cells} {slots} {Q} {lsA} {H} {locs} hx hb hK hI h1 kk => ?_
  obtain ⟨C, hty⟩ : ∃ C : String, (atys aC)[k]? = some (aC k, .object C) := by
    rcases (show k = 4 ∨ k = 5 ∨ k = 6 by omega) with rfl | rfl | rfl <;> exact ⟨_, rfl⟩
  refine va_WaastN (C := C) hx hb h1 ((hK.2 k _ hty).1 n (fun j => va_rf ((f j).map (fun i => base + i)))) (fun h => by cases h) (by show ¬ (i < 0 ∨ (arrV _ _ _).slots.size ≤ _); rw [arrV_size]; exact hj.in) rfl rfl hd fun H1 e z oq => kk H1 _ ?_ z oq
  show H1[_]? = some (vp_cell _ (n, .inr (.inr (.inr (.inr _)))))
  rw [e, hj.cl]
  show some ((arrV (aC k) n (fun q => va_rf ((f q).map (fun i => base + i)))).setSlot j (.null)) = some (arrV (aC k) n (fun q => va_rf ((va_up f j none q).map (fun i => base + i))))
  rw [arrV_store]
  congr 2
  funext q
  by_cases hq : q = j
  · subst hq; simp [updV, va_up, va_rf]
  · simp [updV, va_up, hq]
end LGc
