/-! returns and calls -/
section LGe
variable {nm own : String} {cc : ByteArray} {nL : Nat} {ret : Option FieldType} {d lo : Nat} {sc : Option (Nat × (Nat → Int32))} {w0 : Wd} {Post : Option Value → Wd → Prop} {w : Wd} {pc : Nat} {ls ls' : List (Nat × Value)} {st : List Value}
theorem g_iret {v : Int32} (hd : decode cc pc = .ok (.ireturn, 1)) (hp : Post (some (.int v)) w) : GP nm own cc nL ret d lo sc w0 Post w pc ls [.int v] :=
  ⟨some (.int v), w, hp, ⟨Nat.le_refl _, Nat.le_refl _⟩, fun _ _ _ _ _ _ _ _ _ _ _ _ _ _ _ _ _ _ _ _ hret _ _ lsA H locs _ hI hS => hret pc lsA H locs hd hI hS⟩
theorem g_lret {v : Int64} (hd : decode cc pc = .ok (.lreturn, 1)) (hp : Post (some (.long v)) w) : GP nm own cc nL ret d lo sc w0 Post w pc ls [.long v] :=
  ⟨some (.long v), w, hp, ⟨Nat.le_refl _, Nat.le_refl _⟩, fun _ _ _ _ _ _ _ _ _ _ _ _ _ _ _ _ _ _ _ _ hret _ _ lsA H locs _ hI hS => hret pc lsA H locs hd hI hS⟩
theorem g_aret {v : Nat} (hd : decode cc pc = .ok (.areturn, 1)) (hp : Post (some (.ref v)) w) : GP nm own cc nL ret d lo sc w0 Post w pc ls [.ref v] :=
  ⟨some (.ref v), w, hp, ⟨Nat.le_refl _, Nat.le_refl _⟩, fun _ _ _ _ _ _ _ _ _ _ _ _ _ _ _ _ _ _ _ _ hret _ _ lsA H locs _ hI hS => hret pc lsA H locs hd hI hS⟩
theorem g_nret (hd : decode cc pc = .ok (.areturn, 1)) (hp : Post (some .null) w) : GP nm own cc nL ret d lo sc w0 Post w pc ls [.null] :=
  ⟨some .null, w, hp, ⟨Nat.le_refl _, Nat.le_refl _⟩, fun _ _ _ _ _ _ _ _ _ _ _ _ _ _ _ _ _ _ _ _ hret _ _ lsA H locs _ hI hS => hret pc lsA H locs hd hI hS⟩
theorem g_vret (hd : decode cc pc = .ok (.return_, 1)) (hp : Post none w) : GP nm own cc nL ret d lo sc w0 Post w pc ls [] :=
  ⟨none, w, hp, ⟨Nat.le_refl _, Nat.le_refl _⟩, fun _ _ _ _ _ _ _ _ _ _ _ _ _ _ _ _ _ _ _ _ hret _ _ lsA H locs _ hI hS => hret pc lsA H locs hd hI hS⟩
end LGe
theorem EvP.blind {D : va_G} {aC : Nat → ClassId} {b base : Nat} {As : List Value} {w : Wd} : FrameBlind (EvP D aC b base As w) := by
  intro a U g mk h
  obtain ⟨h1, h2, h3, h4, h5⟩ := h
  exact ⟨h1, h2, va_K.moved (u := U) (U := U.calling g mk a) (Vm.Alike.refl U.vm) h3, Kx.same (s := U) (U := U.calling g mk a) rfl h4, h5⟩
theorem cat_map {b base : Nat} (st : List Value) : ((st.map (cvV b base)).map fun v => v.category).sum = (st.map fun v => v.category).sum := by
  rw [List.map_map]
  congr 1
  apply List.map_congr_left
  intro v _
  exact cvV_cat b base v
/-- what every call needs of the tables -/
def COK (own : String) (idx : Nat) (y : MethodName) (cy : ByteArray) (nLy : Nat) (rety : Option FieldType) (n : Nat) : Prop :=
  Cond.methodLink own idx y ∈ gT ∧ Cond.initialized y.cls ∈ gT ∧ Cond.code y cy nLy rety ∈ gT ∧ y.cls ≠ "java/lang/invoke/MethodHandle" ∧ y.cls ≠ "java/lang/invoke/VarHandle" ∧ (parseMethodDescriptor y.desc).map (fun d => d.parameters.length) = some n
theorem good_wsY {y : MethodName} {cy : ByteArray} {nLy : Nat} {rety : Option FieldType} (h : Cond.code y cy nLy rety ∈ gT) : GoodIn gT (wsY y cy nLy rety) := by
  intro w hw
  rcases List.mem_cons.mp hw with rfl | hw
  · exact ⟨h, good_of_word (List.mem_filter.mp h).2⟩
  · exact gT_good (fun _ h => h) w hw
section LGf
variable {nm own : String} {cc : ByteArray} {nL : Nat} {ret : Option FieldType} {d lo : Nat} {sc : Option (Nat × (Nat → Int32))} {w0 : Wd} {Post : Option Value → Wd → Prop} {w : Wd} {pc : Nat} {ls ls' : List (Nat × Value)} {st : List Value}
/-- a call, by what its run says: the same for every kind of call -/
theorem GP.call {y : MethodName} {cy : ByteArray} {nLy : Nat} {rety : Option FieldType} {d' : Nat} {As : List Value} {P2 : Option Value → Wd → Prop} {st0 : List Value} (he : EP y cy nLy rety d' As w P2) (kk : ∀ r w2, P2 r w2 → GP nm own cc nL ret d lo sc w0 Post w2 (pc + 3) ls (r.toList ++ st))
    (h : ∀ {l : Launch} {p : Program} {e : Env} {R : Room} {s : State} {m : MethodId} {args : Array Value} {below : List Frame} {meth : Method} {c : Code} {D : va_G} {aC : Nat → ClassId} {b base cells slots mc ms : Nat} {lsA : Array Slot} {H : Heap} {locs : List Loc} {r : Option Value} {w2 : Wd}, CallFix p m c cc nL s args gT own → d ≤ R.frames → lo ≤ R.locals → va_K D vwCl (atys aC) s → Kx s → IN D aC b base w H → lsA.size = nL → mc = w2.length - w.length → ms = slW w2 - slW w → Met l y (wsY y cy nLy rety) (rmE d' w w2) (EvP D aC b base As w) (EvQ D aC b base r w2) mc ms (Inn base) →
      (∀ U : State, U.heap = H → s.WarmedH U.vm → EvP D aC b base As w (As.map (cvV b base)).toArray U) → cells + mc ≤ R.cells ∧ slots + ms ≤ R.slots →
      va_Run p l e R s m args below meth c H locs cells slots mc ms (F0 m pc lsA (st0.map (cvV b base))) (st.map (cvV b base)) (EvQ D aC b base r w2 (As.map (cvV b base)).toArray) (Inn base)) : GP nm own cc nL ret d lo sc w0 Post w pc ls st0 := by
  obtain ⟨r, w2, hp2, hg2, hM⟩ := he
  obtain ⟨rf, wf, hpf, hgf, hG⟩ := kk r w2 hp2
  refine ⟨rf, wf, hpf, ⟨Nat.le_trans hg2.1 hgf.1, Nat.le_trans hg2.2 hgf.2⟩, ?_⟩
  intro l p e R s m args below meth c D aC b base Q hC hd hlo hc hs hret h0 h1 lsA H locs hl hI hS
  have hC' := hC
  obtain ⟨hx, hb, hml, ho, hts, -, -, -, hK, hKx, hbb, -⟩ := hC'
  have hgf1 := hgf.1
  have hgf2 := hgf.2
  have hg21 := hg2.1
  have hg22 := hg2.2
  have hrun := h (l := l) (p := p) (e := e) (R := R) (s := s) (m := m) (args := args) (below := below) (meth := meth) (c := c) (cells := w.length - w0.length) (slots := slW w - slW w0) (lsA := lsA) (H := H) (locs := locs) ⟨hx, hb, hml, ho, hts⟩ hd hlo hK hKx hI hl.1 rfl rfl (hM l D aC b base) (fun U hU hW => ⟨rfl, by rw [hU]; exact hI, va_K.moved hW.alike hK, hKx.moved hW, hbb⟩) (by constructor <;> omega)
  intro T hT X
  obtain ⟨v, st₀, t, T', L, e0, X', hL, e1, e2, ⟨q1, q2, q3⟩, stp⟩ := hrun T hT X
  have hv : v = r.map (cvV b base) := by injection q1
  have ec : w.length - w0.length + (w2.length - w.length) = w2.length - w0.length := by omega
  have es : slW w - slW w0 + (slW w2 - slW w) = slW w2 - slW w0 := by omega
  rw [ec, es] at X'
  have hS2 : va_S (Inn base) s.heap T'.heap (locs ++ L) := by
    refine ⟨?_, fun q hq hn => ?_, fun q hq => ?_⟩
    · have h2 := hI.1
      have h3 := q2.1
      have h4 := hS.1
      rw [e1, h3]
      omega
    · rw [e1, q3 q (Nat.not_le.mp hn), e0]
      exact hS.2.1 q hq hn
    · rcases List.mem_append.mp hq with h | h
      · exact hS.2.2 q h
      · exact hL q h
  obtain ⟨t2, a1, b1⟩ := hG l p e R s m args below meth c D aC b base Q hC hd hlo hc hs hret (Nat.le_trans h0 hg21) (Nat.le_trans h1 hg22) lsA T'.heap (locs ++ L) hl (by rw [e1]; exact q2) hS2 T' rfl X'
  refine ⟨t2, stp t2 ?_, b1⟩
  rw [hv]
  have e9 : (r.map (cvV b base)).toList ++ st.map (cvV b base) = (r.toList ++ st).map (cvV b base) := by
    cases r <;> simp
  rw [e9]
  exact a1
theorem g_callV {idx o ci n : Nat} {fs : List Value} {y : MethodName} {cy : ByteArray} {nLy : Nat} {rety : Option FieldType} {d' : Nat} {P2 : Option Value → Wd → Prop} {st0 : List Value} (As : List Value) (hd : decode cc pc = .ok (.invokevirtual idx, 3)) (hc : COK own idx y cy nLy rety n) (hin : Cond.instanceMethod y ∈ gT) (hsel : Cond.selects y.cls y y ∈ gT) (hci : ∃ T N, vwCl[ci]? = some (y.cls, T, N)) (hw : w[o]? = some (.inr (ci, fs))) (hn : As.length = n) (hst : As.reverse ++ .ref o :: st = st0) (hcat : (st.map fun v => v.category).sum ≤ 8) (hdep : d' + 1 ≤ d) (hlo : 19 + nLy + 39 * d' ≤ lo)
    (he : EP y cy nLy rety d' (.ref o :: As) w P2) (kk : ∀ r w2, P2 r w2 → GP nm own cc nL ret d lo sc w0 Post w2 (pc + 3) ls (r.toList ++ st)) : GP nm own cc nL ret d lo sc w0 Post w pc ls st0 := by
  subst hst
  refine GP.call he kk fun {l} {p} {e} {R} {s} {m} {args} {below} {meth} {c} {D} {aC} {b} {base} {cells} {slots} {mc} {ms} {lsA} {H} {locs} {r} {w2} S hdR hloR hK hKx hI hsz hmc hms hM hpre hroom => ?_
  obtain ⟨hlk, hini, hco, hm1, hm2, hpar⟩ := hc
  obtain ⟨T, N, hcl⟩ := hci
  have hts := S.2.2.2.2
  have cw : CallW R s args own y.cls idx y cy nLy rety (wsY y cy nLy rety) (rmE d' w w2) mc ms n := ⟨callB_of n hts (good_wsY hco) rfl hmc.symm hms.symm (hts _ hini) (hts _ hlk) ⟨hm1, hm2, hpar⟩ ⟨Nat.le_trans hdep hdR, by show 8 + (nLy + 11) + 39 * d' ≤ _; omega⟩, hts _ hin, hts _ hsel⟩
  exact va_runV (b := base + o) (As := As.map (cvV b base)) S hM cw ⟨EvP.blind, va_recv hK hI.2 hcl (cvW_get hw), hpre⟩ rfl (by rw [List.length_map]; exact hn) hsz (by simp [cvV]) (lv_room (by rw [cat_map]; exact hcat)) hd hroom
theorem g_callS {idx n : Nat} {y : MethodName} {cy : ByteArray} {nLy : Nat} {rety : Option FieldType} {d' : Nat} {P2 : Option Value → Wd → Prop} {st0 : List Value} (As : List Value) (hd : decode cc pc = .ok (.invokestatic idx, 3)) (hc : COK own idx y cy nLy rety n) (hsta : Cond.static y ∈ gT) (hn : As.length = n) (hst : As.reverse ++ st = st0) (hcat : (st.map fun v => v.category).sum ≤ 8) (hdep : d' + 1 ≤ d) (hlo : 19 + nLy + 39 * d' ≤ lo)
    (he : EP y cy nLy rety d' As w P2) (kk : ∀ r w2, P2 r w2 → GP nm own cc nL ret d lo sc w0 Post w2 (pc + 3) ls (r.toList ++ st)) : GP nm own cc nL ret d lo sc w0 Post w pc ls st0 := by
  subst hst
  refine GP.call he kk fun {l} {p} {e} {R} {s} {m} {args} {below} {meth} {c} {D} {aC} {b} {base} {cells} {slots} {mc} {ms} {lsA} {H} {locs} {r} {w2} S hdR hloR hK hKx hI hsz hmc hms hM hpre hroom => ?_
  obtain ⟨hlk, hini, hco, hm1, hm2, hpar⟩ := hc
  have hts := S.2.2.2.2
  have cw : CallB R s args own idx y cy nLy rety (wsY y cy nLy rety) (rmE d' w w2) mc ms n ∧ (Cond.static y).before args s = true := ⟨callB_of n hts (good_wsY hco) rfl hmc.symm hms.symm (hts _ hini) (hts _ hlk) ⟨hm1, hm2, hpar⟩ ⟨Nat.le_trans hdep hdR, by show 8 + (nLy + 11) + 39 * d' ≤ _; omega⟩, hts _ hsta⟩
  exact va_runS (As := As.map (cvV b base)) S hM cw ⟨EvP.blind, hpre⟩ rfl (by rw [List.length_map]; exact hn) hsz (by simp) (lv_room (by rw [cat_map]; exact hcat)) hd hroom
theorem g_callI {idx o n : Nat} {y : MethodName} {cy : ByteArray} {nLy : Nat} {d' : Nat} {P2 : Option Value → Wd → Prop} {st0 : List Value} (As : List Value) (hd : decode cc pc = .ok (.invokespecial idx, 3)) (hc : COK own idx y cy nLy none n) (hin : Cond.instanceMethod y ∈ gT) (hy : y.name = "<init>") (hn : As.length = n) (hst : As.reverse ++ .ref o :: st = st0) (hcat : (st.map fun v => v.category).sum ≤ 8) (hdep : d' + 1 ≤ d) (hlo : 19 + nLy + 39 * d' ≤ lo)
    (he : EP y cy nLy none d' (.ref o :: As) w P2) (kk : ∀ r w2, P2 r w2 → GP nm own cc nL ret d lo sc w0 Post w2 (pc + 3) ls (r.toList ++ st)) : GP nm own cc nL ret d lo sc w0 Post w pc ls st0 := by
  subst hst
  refine GP.call he kk fun {l} {p} {e} {R} {s} {m} {args} {below} {meth} {c} {D} {aC} {b} {base} {cells} {slots} {mc} {ms} {lsA} {H} {locs} {r} {w2} S hdR hloR hK hKx hI hsz hmc hms hM hpre hroom => ?_
  obtain ⟨hlk, hini, hco, hm1, hm2, hpar⟩ := hc
  have hts := S.2.2.2.2
  have cw : CallB R s args own idx y cy nLy none (wsY y cy nLy none) (rmE d' w w2) mc ms n ∧ y.name = "<init>" ∧ (Cond.instanceMethod y).before args s = true := ⟨callB_of n hts (good_wsY hco) rfl hmc.symm hms.symm (hts _ hini) (hts _ hlk) ⟨hm1, hm2, hpar⟩ ⟨Nat.le_trans hdep hdR, by show 8 + (nLy + 11) + 39 * d' ≤ _; omega⟩, hy, hts _ hin⟩
  exact va_runI (b := base + o) (As := As.map (cvV b base)) S hM cw ⟨EvP.blind, hpre⟩ rfl (by rw [List.length_map]; exact hn) hsz (by simp [cvV]) (lv_room (by rw [cat_map]; exact hcat)) hd hroom
/-- a nest mate's private constructor -/
theorem g_callIN {idx o n : Nat} {host : String} {y : MethodName} {cy : ByteArray} {nLy : Nat} {d' : Nat} {P2 : Option Value → Wd → Prop} {st0 : List Value} (As : List Value) (hd : decode cc pc = .ok (.invokespecial idx, 3)) (hnw : ∀ s, Kx s → va_Nw (.methodLinkNest own idx y host) s) (hini : Cond.initialized y.cls ∈ gT) (hco : Cond.code y cy nLy none ∈ gT) (hpar : y.cls ≠ "java/lang/invoke/MethodHandle" ∧ y.cls ≠ "java/lang/invoke/VarHandle" ∧ (parseMethodDescriptor y.desc).map (fun d => d.parameters.length) = some n) (hin : Cond.instanceMethod y ∈ gT) (hy : y.name = "<init>") (hn : As.length = n) (hst : As.reverse ++ .ref o :: st = st0) (hcat : (st.map fun v => v.category).sum ≤ 8) (hdep : d' + 1 ≤ d) (hlo : 19 + nLy + 39 * d' ≤ lo)
    (he : EP y cy nLy none d' (.ref o :: As) w P2) (kk : ∀ r w2, P2 r w2 → GP nm own cc nL ret d lo sc w0 Post w2 (pc + 3) ls (r.toList ++ st)) : GP nm own cc nL ret d lo sc w0 Post w pc ls st0 := by
  subst hst
  refine GP.call he kk fun {l} {p} {e} {R} {s} {m} {args} {below} {meth} {c} {D} {aC} {b} {base} {cells} {slots} {mc} {ms} {lsA} {H} {locs} {r} {w2} S hdR hloR hK hKx hI hsz hmc hms hM hpre hroom => ?_
  have hts := S.2.2.2.2
  have cw : va_CN R s args own idx y host cy nLy none (wsY y cy nLy none) (rmE d' w w2) mc ms n ∧ y.name = "<init>" ∧ (Cond.instanceMethod y).before args s = true := ⟨va_cnB n hts (good_wsY hco) rfl hmc.symm hms.symm (hnw s hKx) (hts _ hini) hpar ⟨Nat.le_trans hdep hdR, by show 8 + (nLy + 11) + 39 * d' ≤ _; omega⟩, hy, hts _ hin⟩
  exact va_runIN (b := base + o) (As := As.map (cvV b base)) S hM cw ⟨EvP.blind, hpre⟩ rfl (by rw [List.length_map]; exact hn) hsz (by simp [cvV]) (lv_room (by rw [cat_map]; exact hcat)) hd hroom
end LGf
