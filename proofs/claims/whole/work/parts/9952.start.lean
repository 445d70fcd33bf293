/-! THE CLAIM OUT OF ONE WALK OF THE LAW'S BODY. Your part is whole_start (and what it stands on); all else here is the same for every law, but numbers. -/
def R_law : String := "MahlerBoxLaw"
def lw_P (b : Addr) (xs : List Int32) (args : Array Value) (s : State) : Prop := args = #[.ref b] ∧ s.IntsAt b xs ∧ xs.length ≤ 3072 ∧ (Jvm.Cond.and given_1 narrow_1).before args s = true
def lw_Q (_ : Array Value) (s : State) (o : Outcome) (t : State) : Prop := o = .returned (some (.int 1)) ∧ Framed s o t [] 600000 7302250
def lw_Z (below : List Frame) (a : Array Value) (s : State) : State → Prop := fun t => ∃ o, t.status = .running ∧ Ended t below o ∧ lw_Q a s o t
/-- the law's own end, with 1 on the stack, nothing written that was there before, its room as the claim has it -/
theorem lw_ret {p : Program} {l : Launch} {e : Env} {s : State} {m : MethodId} {below : List Frame} {meth : Method} {c : Code} {b : Nat} (hx : p.tables.exec = Jvm.exec) (hb : c.code = code) (hr : meth.sig.returnType = ret) (hlocks : meth.locks = false) {pc : Nat} {H : Heap} {ls : Array Slot} (hdg : decode code pc = .ok (.ireturn, 1)) : W p l e room_1 s m #[Value.ref b] below meth c H [] 600000 7302250 (lw_Z below #[Value.ref b] s) (F0 m pc ls [.int 1]) := by
  intro T hT X
  obtain ⟨fs, hret, hrun, hended, hW, hframe⟩ := X.leave (v := some (.int 1)) (hlocks := hlocks) (fun h => by rw [hr] at h; cases h)
  have hmeth' : T.vm.method? m = some meth := X.method'
  refine ⟨T.setFrames fs, ?_, .returned (some (.int 1)), hrun, hended, rfl, ⟨_, rfl⟩, hW, hframe⟩
  jvm_step X.here [X.here.top, hx, hb, hdg, hmeth', hr, ret, narrow_b1]
  (try refine ⟨rfl, ?_⟩); (try refine ⟨rfl, ?_⟩)
  first | (intro acts; rw [hret _ acts rfl rfl rfl]) | rw [hret _ _ rfl rfl rfl]
  exact Steps.refl _
/-- what holds at the law's entry: the machine, the code, the tables' words (any of lw_tbl by 'hts w (by decide +kernel)'), the script of L ints xs at the cell b, what the Statement gives of the start (any of its parts by flat_of_before) -/
def lw_At (p : Program) (s : State) (m : MethodId) (meth : Method) (c : Code) (b L : Nat) (xs : Nat → Int32) : Prop :=
  p.tables.exec = Jvm.exec ∧ c.code = code ∧ meth.sig.returnType = ret ∧ c.maxLocals = 4 ∧ s.vm.findClass R_law = some m.cls ∧ (∀ w ∈ lw_tbl, w.before #[Value.ref b] s = true) ∧ va_X b L xs s s.heap ∧ b < s.heap.size ∧ meth.locks = false ∧ (Jvm.Cond.and given_1 narrow_1).before #[Value.ref b] s = true
theorem ml1 (i : Nat) {w : Cond} (h : tables_1_1[i]? = some w) : w ∈ lw_tbl := List.mem_append_right _ (List.mem_append_left _ (List.mem_of_getElem? h))
theorem ml2 (i : Nat) {w : Cond} (h : tables_1_2[i]? = some w) : w ∈ lw_tbl := List.mem_append_right _ (List.mem_append_right _ (List.mem_append_left _ (List.mem_of_getElem? h)))
theorem ml4 (i : Nat) {w : Cond} (h : tables_1_4[i]? = some w) : w ∈ lw_tbl := List.mem_append_right _ (List.mem_append_right _ (List.mem_append_right _ (List.mem_append_right _ (List.mem_append_left _ (List.mem_of_getElem? h)))))
theorem law_Kx {s : State} {args : Array Value} (h : ∀ w ∈ lw_tbl, w.before args s = true) : Kx s := ⟨va_AO.of (h _ (ml1 156 rfl)), va_AO.of (h _ (ml2 25 rfl)), va_AO.of (h _ (ml1 78 rfl)), va_Nw.of rfl (h _ (ml1 27 rfl)), va_Nw.of rfl (h _ (ml1 47 rfl)), va_Nw.of rfl (h _ (ml2 20 rfl)), va_Nw.of rfl (h _ (ml4 18 rfl)), h _ (ml1 52 rfl), h _ (ml1 80 rfl)⟩
theorem law_K {s : State} {args : Array Value} (hts : ∀ w ∈ gT, w.before args s = true) (hx : Kx s) : ∃ (D : va_G) (aC : Nat → ClassId), va_K D vwCl (atys aC) s := by
  obtain ⟨c0, i0, k0⟩ := u_known hts inX0 (hts _ tw_219)
  obtain ⟨c1, i1, k1⟩ := u_known hts inX1 (hts _ tw_355)
  obtain ⟨c2, i2, k2⟩ := u_known hts inX2 (hts _ tw_141)
  obtain ⟨c3, i3, k3⟩ := u_known hts inX3 (hts _ tw_289)
  obtain ⟨c4, i4, k4⟩ := u_known hts inX4 (hts _ tw_115)
  obtain ⟨c5, i5, k5⟩ := u_known hts inX5 (hts _ tw_328)
  obtain ⟨c6, i6, k6⟩ := u_known hts inX6 (hts _ tw_230)
  obtain ⟨c7, i7, k7⟩ := u_known hts inX7 (hts _ tw_347)
  obtain ⟨c8, i8, k8⟩ := u_known hts inX8 (hts _ tw_95)
  obtain ⟨c9, i9, k9⟩ := u_known hts inX10 (hts _ tw_150)
  obtain ⟨c10, i10, k10⟩ := u_known hts inX11 (hts _ tw_87)
  obtain ⟨c11, i11, k11⟩ := u_known hts inX12 (hts _ tw_1025)
  obtain ⟨a0, b0, m0, f0, g0, h0⟩ := Cond.arrayClass_spec (hts _ acI)
  obtain ⟨a1, b1, m1, f1, g1, h1⟩ := Cond.arrayClass_spec (hts _ acL)
  obtain ⟨a2, b2, m2, f2, g2, h2⟩ := Cond.arrayClass_spec (hts _ acB)
  obtain ⟨a3, b3, m3, f3, g3, h3⟩ := Cond.arrayClass_spec (hts _ acZ)
  obtain ⟨m4, a4, b4, f4, -, g4, h4, j4⟩ := Cond.arrayOver_spec hx.1
  obtain ⟨m5, a5, b5, f5, -, g5, h5, j5⟩ := Cond.arrayOver_spec hx.2.1
  obtain ⟨m6, a6, b6, f6, -, g6, h6, j6⟩ := Cond.arrayOver_spec hx.2.2.1
  obtain ⟨m7, a7, b7, -, g7, h7, f7⟩ := Cond.arrayOver_specA hx.2.2.2.2.2.2.2.1
  obtain ⟨m8, a8, b8, -, g8, h8, f8⟩ := Cond.arrayOver_specA hx.2.2.2.2.2.2.2.2
  refine ⟨(fun c => ([c0, c1, c2, c3, c4, c5, c6, c7, c8, c9, c10, c11] : List ClassId).getD c c0, fun c => ([i0, i1, i2, i3, i4, i5, i6, i7, i8, i9, i10, i11] : List (Nat → Nat)).getD c i0), fun k => ([a0, a1, a2, a3, a4, a5, a6, a7, a8] : List ClassId).getD k a0, fun c q hq => ?_, fun k q hq => ?_⟩
  · have hc : c < 12 := (List.getElem?_eq_some_iff.mp hq).1
    rcases (show c = 0 ∨ c = 1 ∨ c = 2 ∨ c = 3 ∨ c = 4 ∨ c = 5 ∨ c = 6 ∨ c = 7 ∨ c = 8 ∨ c = 9 ∨ c = 10 ∨ c = 11 by omega) with rfl | rfl | rfl | rfl | rfl | rfl | rfl | rfl | rfl | rfl | rfl | rfl
    · obtain rfl := Option.some.inj (show some (RX0, TX0, 7) = some q from hq)
      exact k0
    · obtain rfl := Option.some.inj (show some (RX1, TX1, 6) = some q from hq)
      exact k1
    · obtain rfl := Option.some.inj (show some (RX2, TX2, 8) = some q from hq)
      exact k2
    · obtain rfl := Option.some.inj (show some (RX3, TX3, 10) = some q from hq)
      exact k3
    · obtain rfl := Option.some.inj (show some (RX4, TX4, 3) = some q from hq)
      exact k4
    · obtain rfl := Option.some.inj (show some (RX5, TX5, 3) = some q from hq)
      exact k5
    · obtain rfl := Option.some.inj (show some (RX6, TX6, 2) = some q from hq)
      exact k6
    · obtain rfl := Option.some.inj (show some (RX7, TX7, 2) = some q from hq)
      exact k7
    · obtain rfl := Option.some.inj (show some (RX8, TX8, 3) = some q from hq)
      exact k8
    · obtain rfl := Option.some.inj (show some (RX10, TX10, 2) = some q from hq)
      exact k9
    · obtain rfl := Option.some.inj (show some (RX11, TX11, 13) = some q from hq)
      exact k10
    · obtain rfl := Option.some.inj (show some (RX12, TX12, 33) = some q from hq)
      exact k11
  · have hc : k < 9 := (List.getElem?_eq_some_iff.mp hq).1
    rcases (show k = 0 ∨ k = 1 ∨ k = 2 ∨ k = 3 ∨ k = 4 ∨ k = 5 ∨ k = 6 ∨ k = 7 ∨ k = 8 by omega) with rfl | rfl | rfl | rfl | rfl | rfl | rfl | rfl | rfl
    · obtain rfl := Option.some.inj (show some (a0, aTy 0) = some q from hq)
      exact ⟨fun N z => ⟨(fun k h => by cases h), b0, g0, m0, h0⟩, f0⟩
    · obtain rfl := Option.some.inj (show some (a1, aTy 1) = some q from hq)
      exact ⟨fun N z => ⟨(fun k h => by cases h), b1, g1, m1, h1⟩, f1⟩
    · obtain rfl := Option.some.inj (show some (a2, aTy 2) = some q from hq)
      exact ⟨fun N z => ⟨(fun k h => by cases h), b2, g2, m2, h2⟩, f2⟩
    · obtain rfl := Option.some.inj (show some (a3, aTy 3) = some q from hq)
      exact ⟨fun N z => ⟨(fun k h => by cases h), b3, g3, m3, h3⟩, f3⟩
    · obtain rfl := Option.some.inj (show some (a4, aTy 4) = some q from hq)
      exact ⟨fun N z => ⟨(fun k h => by cases h), b4, g4, m4, h4⟩, ⟨b4, m4, g4, h4, f4, j4⟩⟩
    · obtain rfl := Option.some.inj (show some (a5, aTy 5) = some q from hq)
      exact ⟨fun N z => ⟨(fun k h => by cases h), b5, g5, m5, h5⟩, ⟨b5, m5, g5, h5, f5, j5⟩⟩
    · obtain rfl := Option.some.inj (show some (a6, aTy 6) = some q from hq)
      exact ⟨fun N z => ⟨(fun k h => by cases h), b6, g6, m6, h6⟩, ⟨b6, m6, g6, h6, f6, j6⟩⟩
    · obtain rfl := Option.some.inj (show some (a7, aTy 7) = some q from hq)
      exact ⟨fun N z => ⟨(fun k h => by cases h), b7, g7, m7, h7⟩, f7⟩
    · obtain rfl := Option.some.inj (show some (a8, aTy 8) = some q from hq)
      exact ⟨fun N z => ⟨(fun k h => by cases h), b8, g8, m8, h8⟩, f8⟩
theorem whole_start0 (HL : AGL) {p : Program} {e : Env} {s : State} {m : MethodId} {below : List Frame} {meth : Method} {c : Code} (l : Launch) (hflags : l.flags = flags0) {b L : Nat} {xs : Nat → Int32} (hL : L ≤ 3072) (C0 : lw_At p s m meth c b L xs) : W p l e room_1 s m #[Value.ref b] below meth c s.heap [] 0 0 (lw_Z below #[Value.ref b] s) (entryFrame m ([Value.ref b] : List Value).toArray 4) := by
  obtain ⟨hx, hb, hr, hml, hown, hts, hX, hbl, hlk, hgv⟩ := C0
  have htg : ∀ w ∈ gT, w.before #[Value.ref b] s = true := fun w hw => hts w (List.mem_filter.mp hw).1
  have hKx := law_Kx hts
  obtain ⟨D, aC, hK⟩ := law_K htg hKx
  obtain ⟨r, wf, ⟨rfl, hw1, hw2⟩, hg, hG⟩ := law_all (nm := meth.name) (L := L) (xs := xs) HL hL
  have hC : CXT meth.name RL cL_law 4 (some .boolean) (some (L, xs)) [] D aC b s.heap.size p s m #[Value.ref b] meth c := ⟨hx, hb, hml, hown, htg, hr, hlk, rfl, hK, hKx, hbl, rfl, fun q h => by cases h; exact hX⟩
  have hl := lv_entry [Value.ref b] (n := 4) (Nat.le_of_ble_eq_true rfl)
  have hI : IN D aC b s.heap.size [] s.heap := ⟨rfl, fun k q h => by simp [cvW] at h⟩
  have h0 := hG l p e room_1 s m #[Value.ref b] below meth c D aC b s.heap.size (lw_Z below #[Value.ref b] s) hC (Nat.le_refl _) (Nat.le_refl _) (Nat.le_trans (Nat.sub_le _ _) hw1) (Nat.le_trans (Nat.sub_le _ _) hw2) ?_ (Nat.le_refl _) (Nat.le_refl _) _ s.heap [] hl hI va_S.rf
  · rw [Nat.sub_self, Nat.sub_self] at h0
    rw [lg_entry_eq]
    exact h0
  · intro pc' lsA H locs hrt hI2 hS2
    refine va_forget (fun q hq => hS2.2.2 q hq) ?_
    refine W.widen (k := 600000) (n := 7302250) (Nat.le_trans (Nat.sub_le _ _) hw1) (Nat.le_trans (Nat.sub_le _ _) hw2) ?_
    exact lw_ret hx hb hr hlk hrt
