/-! rules of making, of calls, and a method's contract out of its body -/
/-- a class that is made by this link, and its first fields -/
def NOK (own : String) (idx ci : Nat) (fs : List Value) : Prop := ∃ (C : String) (T : u_T) (N : Nat) (ty : Nat → FieldType), vwCl[ci]? = some (C, T, N) ∧ (∀ w ∈ u_ws C T N, w ∈ gT) ∧ Cond.classLink own idx C ∈ gT ∧ Cond.instantiable C N ∈ gT ∧ Cond.initialized C ∈ gT ∧ (∀ k, k < N → parseFieldDescriptor (T k).2.2.1 = some (ty k)) ∧ fs.length = N ∧ (∀ b base, fs.map (cvV b base) = fs) ∧ ∀ j, j < N → defaultValue (ty j) = vp_V fs j
section LGd
variable {nm own : String} {cc : ByteArray} {nL : Nat} {ret : Option FieldType} {d lo : Nat} {sc : Option (Nat × (Nat → Int32))} {w0 : Wd} {Post : Option Value → Wd → Prop} {w : Wd} {pc : Nat} {ls ls' : List (Nat × Value)} {st : List Value}
theorem g_new {idx ci : Nat} {fs : List Value} (hd : decode cc pc = .ok (.new idx, 3)) (hf : NOK own idx ci fs) (kk : GP nm own cc nL ret d lo sc w0 Post (w ++ [.inr (ci, fs)]) (pc + 3) ls (.ref w.length :: st)) : GP nm own cc nL ret d lo sc w0 Post w pc ls st := by
  refine GP.go ⟨by simp, by rw [slW_app]; exact Nat.le_add_right _ _⟩ kk fun {l} {p} {e} {R} {s} {m} {args} {below} {meth} {c} {D} {aC} {b} {base} {Q} {lsA} {H} {locs} hC _ _ hcl hsl h0 h1 hl hI hS kk => ?_
  obtain ⟨hx, hb, -, ho, hts, -, -, -, hK, -⟩ := hC
  obtain ⟨C, T, N, ty, hc, hin, hlk, hins, hini, hty, hN, hcv, hdf⟩ := hf
  have e1 : (w ++ [(.inr (ci, fs) : Ce)]).length - w0.length = w.length - w0.length + 1 := by simp; omega
  have e2 : slW (w ++ [(.inr (ci, fs) : Ce)]) - slW w0 = slW w - slW w0 + N := by rw [slW_app]; show slW w + fs.length - _ = _; omega
  rw [e1, e2] at kk
  rw [e1] at hcl
  rw [e2] at hsl
  have hKn := hK.1 ci _ hc
  refine W.newcK hx hb ho (hts _ hlk) (hts _ hins) (hts _ hini) rfl hd hcl hsl hKn.2.1 rfl fun H1 kC hkC g1 z1 o1 => ?_
  have hb1 : H.size = base + w.length := hI.1
  have := kk lsA H1 locs hl (hI.push z1 ⟨_, hc, ?_⟩ o1) (hS.push z1 o1)
  · rw [hb1]
    exact this
  · have h9 := (u_born ty hts hin hKn hkC g1 hty).to hdf
    rw [hb1] at h9
    show t_OB (base + w.length) _ _ _ _ (vp_V (fs.map (cvV b base)))
    rw [hcv]
    exact h9
/-- what is the same of every new array -/
theorem GP.newa {k N : Nat} {c1 : Ce} {n : Int32} {pc' : Nat} (hsl : slE c1 = N) (kk : GP nm own cc nL ret d lo sc w0 Post (w ++ [c1]) pc' ls (.ref w.length :: st))
    (h : ∀ {l : Launch} {p : Program} {e : Env} {R : Room} {s : State} {m : MethodId} {args : Array Value} {below : List Frame} {meth : Method} {c : Code} {D : va_G} {aC : Nat → ClassId} {b base cells slots : Nat} {Q : State → Prop} {lsA : Array Slot} {H : Heap} {locs : List Loc}, p.tables.exec = Jvm.exec → c.code = cc → s.vm.findClass own = some m.cls → (∀ w ∈ gT, w.before args s = true) → va_K D vwCl (atys aC) s → Kx s → cells + 1 ≤ R.cells → slots + N ≤ R.slots →
      (∀ H1 : Heap, va_at D vwCl (H.size, cvE aC b base c1) H1 → H1.size = H.size + 1 → (∀ q : Nat, q < H.size → H1[q]? = H[q]?) → W p l e R s m args below meth c H1 locs (cells + 1) (slots + N) Q (F0 m pc' lsA (.ref H.size :: st.map (cvV b base)))) →
      W p l e R s m args below meth c H locs cells slots Q (F0 m pc lsA (.int n :: st.map (cvV b base)))) : GP nm own cc nL ret d lo sc w0 Post w pc ls (.int n :: st) := by
  refine GP.go ⟨by simp, by rw [slW_app]; exact Nat.le_add_right _ _⟩ kk fun {l} {p} {e} {R} {s} {m} {args} {below} {meth} {c} {D} {aC} {b} {base} {Q} {lsA} {H} {locs} hC _ _ hcl hs2 h0 h1 hl hI hS kk => ?_
  obtain ⟨hx, hb, -, ho, hts, -, -, -, hK, hKx, -⟩ := hC
  have e1 : (w ++ [c1]).length - w0.length = w.length - w0.length + 1 := by simp; omega
  have e2 : slW (w ++ [c1]) - slW w0 = slW w - slW w0 + N := by rw [slW_app, hsl]; omega
  rw [e1, e2] at kk
  rw [e1] at hcl
  rw [e2] at hs2
  have hb1 : H.size = base + w.length := hI.1
  refine h hx hb ho hts hK hKx hcl hs2 fun H1 ha z o1 => ?_
  have := kk lsA H1 locs hl (hI.push z (by rw [← hb1]; exact ha) o1) (hS.push z o1)
  rw [hb1]
  exact this
theorem g_newaI {n : Int32} (N : Nat) (hd : decode cc pc = .ok (.newarray .int, 2)) (ha : Cond.arrayClass .int ∈ gT) (hn : n.toInt = (N : Int)) (hN : N ≤ 100000) (kk : GP nm own cc nL ret d lo sc w0 Post (w ++ [aI 0 N (fun _ => 0)]) (pc + 2) ls (.ref w.length :: st)) : GP nm own cc nL ret d lo sc w0 Post w pc ls (.int n :: st) := by
  refine GP.newa (k := 0) rfl kk fun {l} {p} {e} {R} {s} {m} {args} {below} {meth} {c} {D} {aC} {b} {base} {cells} {slots} {Q} {lsA} {H} {locs} hx hb ho hts hK hKx hcl hsl kk => ?_
  have hcN : n.toNatClampNeg = N := by show n.toInt.toNat = N; rw [hn]; rfl
  refine va_newaK (atype := .int) hx hb (hts _ ha) rfl hd rfl (by rw [Int32.lt_iff_toInt_lt, hn]; show ¬ (N : Int) < 0; omega) hcN (by show N * 4 ≤ _; omega) hcl hsl rfl fun H1 cA g1 z1 o1 hA hf => kk H1 ?_ z1 o1
  have hc : s.vm.findClass "[I" = some (aC 0) := (hK.2 0 _ rfl).2
  have hf' : s.vm.findClass "[I" = some cA := hf
  cases hc.symm.trans hf'
  exact g1
theorem g_newaL {n : Int32} (N : Nat) (hd : decode cc pc = .ok (.newarray .long, 2)) (ha : Cond.arrayClass .long ∈ gT) (hn : n.toInt = (N : Int)) (hN : N ≤ 100000) (kk : GP nm own cc nL ret d lo sc w0 Post (w ++ [aL N (fun _ => 0)]) (pc + 2) ls (.ref w.length :: st)) : GP nm own cc nL ret d lo sc w0 Post w pc ls (.int n :: st) := by
  refine GP.newa (k := 1) rfl kk fun {l} {p} {e} {R} {s} {m} {args} {below} {meth} {c} {D} {aC} {b} {base} {cells} {slots} {Q} {lsA} {H} {locs} hx hb ho hts hK hKx hcl hsl kk => ?_
  have hcN : n.toNatClampNeg = N := by show n.toInt.toNat = N; rw [hn]; rfl
  refine va_newaK (atype := .long) hx hb (hts _ ha) rfl hd rfl (by rw [Int32.lt_iff_toInt_lt, hn]; show ¬ (N : Int) < 0; omega) hcN (by show N * 8 ≤ _; omega) hcl hsl rfl fun H1 cA g1 z1 o1 hA hf => kk H1 ?_ z1 o1
  have hc : s.vm.findClass "[J" = some (aC 1) := (hK.2 1 _ rfl).2
  have hf' : s.vm.findClass "[J" = some cA := hf
  cases hc.symm.trans hf'
  exact g1
theorem g_newaB {n : Int32} (N : Nat) (hd : decode cc pc = .ok (.newarray .byte, 2)) (ha : Cond.arrayClass .byte ∈ gT) (hn : n.toInt = (N : Int)) (hN : N ≤ 100000) (kk : GP nm own cc nL ret d lo sc w0 Post (w ++ [aI 2 N (fun _ => 0)]) (pc + 2) ls (.ref w.length :: st)) : GP nm own cc nL ret d lo sc w0 Post w pc ls (.int n :: st) := by
  refine GP.newa (k := 2) rfl kk fun {l} {p} {e} {R} {s} {m} {args} {below} {meth} {c} {D} {aC} {b} {base} {cells} {slots} {Q} {lsA} {H} {locs} hx hb ho hts hK hKx hcl hsl kk => ?_
  have hcN : n.toNatClampNeg = N := by show n.toInt.toNat = N; rw [hn]; rfl
  refine va_newaK (atype := .byte) hx hb (hts _ ha) rfl hd rfl (by rw [Int32.lt_iff_toInt_lt, hn]; show ¬ (N : Int) < 0; omega) hcN (by show N * 1 ≤ _; omega) hcl hsl rfl fun H1 cA g1 z1 o1 hA hf => kk H1 ?_ z1 o1
  have hc : s.vm.findClass "[B" = some (aC 2) := (hK.2 2 _ rfl).2
  have hf' : s.vm.findClass "[B" = some cA := hf
  cases hc.symm.trans hf'
  exact g1
theorem g_newaZ {n : Int32} (N : Nat) (hd : decode cc pc = .ok (.newarray .boolean, 2)) (ha : Cond.arrayClass .boolean ∈ gT) (hn : n.toInt = (N : Int)) (hN : N ≤ 100000) (kk : GP nm own cc nL ret d lo sc w0 Post (w ++ [aI 3 N (fun _ => 0)]) (pc + 2) ls (.ref w.length :: st)) : GP nm own cc nL ret d lo sc w0 Post w pc ls (.int n :: st) := by
  refine GP.newa (k := 3) rfl kk fun {l} {p} {e} {R} {s} {m} {args} {below} {meth} {c} {D} {aC} {b} {base} {cells} {slots} {Q} {lsA} {H} {locs} hx hb ho hts hK hKx hcl hsl kk => ?_
  have hcN : n.toNatClampNeg = N := by show n.toInt.toNat = N; rw [hn]; rfl
  refine va_newaK (atype := .boolean) hx hb (hts _ ha) rfl hd rfl (by rw [Int32.lt_iff_toInt_lt, hn]; show ¬ (N : Int) < 0; omega) hcN (by show N * 1 ≤ _; omega) hcl hsl rfl fun H1 cA g1 z1 o1 hA hf => kk H1 ?_ z1 o1
  have hc : s.vm.findClass "[Z" = some (aC 3) := (hK.2 3 _ rfl).2
  have hf' : s.vm.findClass "[Z" = some cA := hf
  cases hc.symm.trans hf'
  exact g1
theorem g_newq {n : Int32} {idx k : Nat} {C : String} (N : Nat) (hd : decode cc pc = .ok (.anewarray idx, 3)) (hlk : Cond.classLink own idx C ∈ gT) (hk : (k = 4 ∧ C = "MahlerBox$Poly") ∨ (k = 5 ∧ C = "MahlerBox$Shelf") ∨ (k = 6 ∧ C = "MahlerBox$Whole")) (hn : n.toInt = (N : Int)) (hN : N ≤ 100000) (kk : GP nm own cc nL ret d lo sc w0 Post (w ++ [aR k N (fun _ => none)]) (pc + 3) ls (.ref w.length :: st)) : GP nm own cc nL ret d lo sc w0 Post w pc ls (.int n :: st) := by
  refine GP.newa (k := k) rfl kk fun {l} {p} {e} {R} {s} {m} {args} {below} {meth} {c} {D} {aC} {b} {base} {cells} {slots} {Q} {lsA} {H} {locs} hx hb ho hts hK hKx hcl hsl kk => ?_
  have hcN : n.toNatClampNeg = N := by show n.toInt.toNat = N; rw [hn]; rfl
  have hAO : va_AO C s := by
    rcases hk with ⟨-, rfl⟩ | ⟨-, rfl⟩ | ⟨-, rfl⟩
    · exact hKx.1
    · exact hKx.2.1
    · exact hKx.2.2.1
  have hfc : s.vm.findClass ("[" ++ (FieldType.object C).toString) = some (aC k) := by
    rcases hk with ⟨rfl, rfl⟩ | ⟨rfl, rfl⟩ | ⟨rfl, rfl⟩
    · obtain ⟨_, _, _, _, _, h⟩ := (hK.2 4 _ rfl).2; exact h
    · obtain ⟨_, _, _, _, _, h⟩ := (hK.2 5 _ rfl).2; exact h
    · obtain ⟨_, _, _, _, _, h⟩ := (hK.2 6 _ rfl).2; exact h
  subst hcN
  refine W.anew hx hb ho (hts _ hlk) (va_AO.use hAO) rfl hd rfl (by rw [Int32.lt_iff_toInt_lt, hn]; show ¬ ((n.toNatClampNeg : Nat) : Int) < 0; omega) (by omega) hcl hsl fun cA kA comp f1 f2 f3 f4 => ?_
  cases hfc.symm.trans f1
  refine kk _ ?_ (by simp) (fun q hq => by rw [Array.getElem?_push, if_neg (Nat.ne_of_lt hq)])
  show (H.push _)[H.size]? = some (vp_cell (aC k) (n.toNatClampNeg, .inr (.inr (.inr (.inr (fun _ => none))))))
  rw [vp_cell_q, arrV_new]
  simp [va_rf]
/-- the script -/
theorem g_sld {L : Nat} {xs : Nat → Int32} {x : UInt32} {i : Int32} (j : Nat) (hsc : sc = some (L, xs)) (hd : decode cc pc = .ok (.iaload, 1)) (hj : IX i L j) (kk : GP nm own cc nL ret d lo sc w0 Post w (pc + 1) ls (.int (xs j) :: st)) : GP nm own cc nL ret d lo sc w0 Post w pc ls (.int i :: .float x :: st) := by
  refine GP.go ⟨Nat.le_refl _, Nat.le_refl _⟩ kk fun {l} {p} {e} {R} {s} {m} {args} {below} {meth} {c} {D} {aC} {b} {base} {Q} {lsA} {H} {locs} hC _ _ _ _ _ _ hl hI hS kk => ?_
  obtain ⟨hx, hb, -, ho, ht, -, -, -, hK, -, hbb, hbs, hX⟩ := hC
  refine va_sld hx hb (hX _ hsc) (by rw [hbs]; omega) (Nat.not_le.mpr hbb) hS hj.in hd ?_
  show W _ _ _ _ _ _ _ _ _ _ _ _ _ _ _ (F0 m (pc + 1) lsA (.int (xs i.toNatClampNeg) :: _))
  rw [hj.cl]
  exact kk _ _ _ hl hI hS
theorem g_slen {L : Nat} {xs : Nat → Int32} {x : UInt32} (hsc : sc = some (L, xs)) (hd : decode cc pc = .ok (.arraylength, 1)) (kk : GP nm own cc nL ret d lo sc w0 Post w (pc + 1) ls (.int (nI L) :: st)) : GP nm own cc nL ret d lo sc w0 Post w pc ls (.float x :: st) := by
  refine GP.go ⟨Nat.le_refl _, Nat.le_refl _⟩ kk fun {l} {p} {e} {R} {s} {m} {args} {below} {meth} {c} {D} {aC} {b} {base} {Q} {lsA} {H} {locs} hC _ _ _ _ _ _ hl hI hS kk => ?_
  obtain ⟨hx, hb, -, ho, ht, -, -, -, hK, -, hbb, hbs, hX⟩ := hC
  exact va_slen hx hb (hX _ hsc) (by rw [hbs]; omega) (Nat.not_le.mpr hbb) hS hd (kk _ _ _ hl hI hS)
/-- Object's constructor -/
theorem g_oinit {idx o : Nat} (hd : decode cc pc = .ok (.invokespecial idx, 3)) (hlk : Cond.methodLink own idx Lib.objectInit ∈ gT) (hin : Cond.instanceMethod Lib.objectInit ∈ gT) (hco : Cond.code Lib.objectInit ⟨#[0xb1]⟩ 1 none ∈ gT) (hf : 1 ≤ d) (hst : (st.map fun v => v.category).sum ≤ 8) (hlo : 20 ≤ lo) (kk : GP nm own cc nL ret d lo sc w0 Post w (pc + 3) ls st) : GP nm own cc nL ret d lo sc w0 Post w pc ls (.ref o :: st) := by
  refine GP.go ⟨Nat.le_refl _, Nat.le_refl _⟩ kk fun {l} {p} {e} {R} {s} {m} {args} {below} {meth} {c} {D} {aC} {b} {base} {Q} {lsA} {H} {locs} hC hdR hloR _ _ _ _ hl hI hS kk => ?_
  obtain ⟨hx, hb, hml, ho, ht, -, -, -, hK, -⟩ := hC
  have hcat : ((st.map (cvV b base)).map fun v => v.category).sum = (st.map fun v => v.category).sum := by
    rw [List.map_map]
    congr 1
    apply List.map_congr_left
    intro v _
    exact cvV_cat b base v
  refine W.objInit hx hb ho (ht _ hlk) (ht _ hin) (ht _ hco) rfl (by rw [hml]; exact hl.1) rfl hd (Nat.le_trans hf hdR) ?_ (kk _ _ _ hl hI hS)
  rw [hcat]
  show 2 * 0 + _ + 12 ≤ _
  omega
end LGd
def wsY (y : MethodName) (cc : ByteArray) (nL : Nat) (ret : Option FieldType) : List Cond := .code y cc nL ret :: gT
def EvP (D : va_G) (aC : Nat → ClassId) (b base : Nat) (As : List Value) (w : Wd) : Array Value → State → Prop := fun a U => a = (As.map (cvV b base)).toArray ∧ IN D aC b base w U.heap ∧ va_K D vwCl (atys aC) U ∧ Kx U ∧ b < base
def EvQ (D : va_G) (aC : Nat → ClassId) (b base : Nat) (r : Option Value) (wf : Wd) : Array Value → State → Outcome → State → Prop := fun _ s o t => o = .returned (r.map (cvV b base)) ∧ IN D aC b base wf t.heap ∧ ∀ q, q < base → t.heap[q]? = s.heap[q]?
abbrev rmE (d : Nat) (w wf : Wd) : Room := { frames := d, cells := wf.length - w.length, slots := slW wf - slW w, locals := 39 * d }
/-- method y, called with As over w, answers r over wf -/
def Ev (y : MethodName) (cc : ByteArray) (nL : Nat) (ret : Option FieldType) (d : Nat) (As : List Value) (w : Wd) (r : Option Value) (wf : Wd) : Prop :=
  (w.length ≤ wf.length ∧ slW w ≤ slW wf) ∧ ∀ (l : Launch) (D : va_G) (aC : Nat → ClassId) (b base : Nat), Met l y (wsY y cc nL ret) (rmE d w wf) (EvP D aC b base As w) (EvQ D aC b base r wf) (wf.length - w.length) (slW wf - slW w) (Inn base)
def EP (y : MethodName) (cc : ByteArray) (nL : Nat) (ret : Option FieldType) (d : Nat) (As : List Value) (w : Wd) (Post : Option Value → Wd → Prop) : Prop := ∃ (r : Option Value) (wf : Wd), Post r wf ∧ Ev y cc nL ret d As w r wf
theorem EP.mono {y : MethodName} {cc : ByteArray} {nL : Nat} {ret : Option FieldType} {d : Nat} {As : List Value} {w : Wd} {P1 P2 : Option Value → Wd → Prop} (h : EP y cc nL ret d As w P1) (hp : ∀ r wf, P1 r wf → P2 r wf) : EP y cc nL ret d As w P2 := by
  obtain ⟨r, wf, h1, h2⟩ := h
  exact ⟨r, wf, hp r wf h1, h2⟩
/-- an answer of the method's type -/
def rOK : Option FieldType → Option Value → Prop
  | none, none => True
  | some .int, some (.int _) => True
  | some .boolean, some (.int v) => v = 0 ∨ v = 1
  | some .long, some (.long _) => True
  | some (.object _), some (.ref _) => True
  | some (.object _), some .null => True
  | some (.array _), some (.ref _) => True
  | some (.array _), some .null => True
  | _, _ => False
theorem lv_args_map (b base : Nat) : ∀ (vs : List Value) (k : Nat), lv_args k (vs.map (cvV b base)) = mapL b base (lv_args k vs)
  | [], _ => rfl
  | v :: vs, k => by
    have h := lv_args_map b base vs
    cases v <;> simp [lv_args, mapL, cvV, h, Value.category]
theorem lg_sl_cons (v : Value) (vs : List Value) : (lg_sl (v :: vs)).length = v.category + (lg_sl vs).length := by
  simp only [lg_sl, List.flatMap_cons, List.length_append]
  cases v <;> rfl
theorem lg_sl_map (b base : Nat) : ∀ vs : List Value, (lg_sl (vs.map (cvV b base))).length = (lg_sl vs).length
  | [] => rfl
  | v :: vs => by rw [List.map_cons, lg_sl_cons, lg_sl_cons, lg_sl_map b base vs, cvV_cat]
theorem W.anyret {p : Program} {l : Launch} {e : Env} {R : Room} {s : State} {m : MethodId} {args : Array Value} {below : List Frame} {meth : Method} {c : Code} {H : Heap} {locs : List Loc} {cells slots b base pc : Nat} {cc : ByteArray} {ls : Array Slot} {Qc : Array Value → State → Outcome → State → Prop} {free : Addr → Prop} {r : Option Value} {ret : Option FieldType} (hrr : rOK ret r) (hrt : rtI cc pc r) (hx : p.tables.exec = Jvm.exec) (hb : c.code = cc) (hret : meth.sig.returnType = ret) (hq : ∀ t : State, t.heap = H → s.WarmedH t.vm → Qc args s (.returned (r.map (cvV b base))) t) (hf : ∀ q ∈ locs, free q.base) (hlocks : meth.locks = false) : W p l e R s m args below meth c H locs cells slots (MQ below Qc args s cells slots free) (F0 m pc ls (r.toList.map (cvV b base))) := by
  cases r with
  | none =>
    cases ret with
    | none => exact W.vret hx hb hret hq hf hrt hlocks
    | some t => exact absurd hrr (by cases t <;> exact id)
  | some v =>
    cases ret with
    | none => exact absurd hrr (by cases v <;> exact id)
    | some t =>
      cases v with
      | int v =>
        cases t with
        | int => exact W.iret hx hb hret hq hf hrt hlocks
        | boolean => exact W.zret hx hb hret (by rcases hrr with rfl | rfl <;> rfl) hq hf hrt hlocks
        | _ => exact absurd hrr id
      | long v =>
        cases t with
        | long => exact W.lret hx hb hret hq hf hrt hlocks
        | _ => exact absurd hrr id
      | ref a =>
        cases t with
        | object C => exact W.aret hx hb hret (Or.inl ⟨_, rfl⟩) (Or.inr ⟨_, rfl⟩) hq hf hrt hlocks
        | array C => exact W.aret hx hb hret (Or.inr ⟨_, rfl⟩) (Or.inr ⟨_, rfl⟩) hq hf hrt hlocks
        | _ => exact absurd hrr id
      | null =>
        cases t with
        | object C => exact W.aret hx hb hret (Or.inl ⟨_, rfl⟩) (Or.inl rfl) hq hf hrt hlocks
        | array C => exact W.aret hx hb hret (Or.inr ⟨_, rfl⟩) (Or.inl rfl) hq hf hrt hlocks
        | _ => exact absurd hrr id
      | float v => exact absurd hrt id
      | double v => exact absurd hrt id
      | retAddr v => exact absurd hrt id
/-- THE CONTRACT OUT OF THE BODY -/
theorem EP.of {y : MethodName} {cc : ByteArray} {nL : Nat} {ret : Option FieldType} {d : Nat} {As : List Value} {w : Wd} {Post : Option Value → Wd → Prop} (hy : plainFor y = true) (ls : List (Nat × Value)) (hls : lv_args 0 As = ls) (hAs : (lg_sl As).length ≤ nL) (hr : ∀ r wf, Post r wf → rOK ret r) (k : GP y.name y.cls cc nL ret d (39 * d) none w Post w 0 ls []) : EP y cc nL ret d As w Post := by
  obtain ⟨r, wf, hp, hg, hG⟩ := k
  have hrr := hr r wf hp
  refine ⟨r, wf, hp, hg, fun l D aC b base => ?_⟩
  refine va_MetF (cc := cc) (maxL := nL) (ret := ret) hy rfl ?_
  intro p e s m args below meth c s₁ B hml hv
  obtain ⟨rfl, hI, hK, hKx, hbb⟩ := hv
  have hts := atoms_spec (ws := wsY y cc nL ret) B.pre
  have hown : s.vm.findClass y.cls = some m.cls := findClass_of_methodNamed B.named
  have hnm : meth.name = y.name := (name_of_methodNamed B.named B.method).1
  have hC : CXT y.name y.cls cc nL ret none w D aC b base p s m (As.map (cvV b base)).toArray meth c := ⟨B.exec, B.bytes, hml, hown, fun w hw => hts w (List.mem_cons_of_mem _ hw), B.returns, B.notSynchronized, hnm, hK, hKx, hbb, hI.1, fun q h => by cases h⟩
  have hl := lv_entry (As.map (cvV b base)) (n := nL) (by rw [lg_sl_map]; exact hAs)
  rw [lv_args_map, hls] at hl
  have hS : va_S (Inn base) s.heap s.heap [] := va_S.rf
  have hlocks : meth.locks = false := B.notSynchronized
  have hret : meth.sig.returnType = ret := B.returns
  have hx := B.exec
  have hb := B.bytes
  have h0 := hG l p e (rmE d w wf) s m (As.map (cvV b base)).toArray below meth c D aC b base (MQ below (EvQ D aC b base r wf) (As.map (cvV b base)).toArray s (wf.length - w.length) (slW wf - slW w) (Inn base)) hC (Nat.le_refl _) (Nat.le_refl _) (Nat.le_refl _) (Nat.le_refl _) ?_ (Nat.le_refl _) (Nat.le_refl _) _ s.heap [] hl hI hS
  · rw [Nat.sub_self, Nat.sub_self] at h0
    rw [lg_entry_eq]
    exact h0
  · intro pc' lsA H locs hrt hI2 hS2
    have hq : ∀ t : State, t.heap = H → s.WarmedH t.vm → EvQ D aC b base r wf (As.map (cvV b base)).toArray s (.returned (r.map (cvV b base))) t := fun t ht _ => ⟨rfl, by rw [ht]; exact hI2, fun q hq => by
      rw [ht]
      exact hS2.2.1 q (Nat.lt_of_lt_of_le hq (by rw [hI.1]; exact Nat.le_add_right _ _)) (Nat.not_le.mpr hq)⟩
    exact W.anyret hrr hrt hx hb hret hq hS2.2.2 hlocks
