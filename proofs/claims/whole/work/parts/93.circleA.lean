/-! Circle: what writeCyclotomic reckons is the table -/
def cyDn (d : Nat) (l : List Int64) : List Int64 := (List.range 13).map (fun p => if d ≤ p then l.getD p 0 - l.getD (p - d) 0 else l.getD p 0)
def cyUp (d : Nat) (l : List Int64) : Nat → List Int64
  | 0 => []
  | p + 1 => let a := cyUp d l p; a ++ [if d ≤ p then l.getD p 0 + a.getD (p - d) 0 else l.getD p 0]
def cyE1 (n : Nat) : Nat → Int × List Int64
  | 0 => (0, (List.range 13).map (fun p => if p = 0 then (if n = 1 then -1 else 1) else 0))
  | d + 1 => let r := cyE1 n d; let y := cyWy n (d + 1); (r.1 + y * (d + 1 : Nat), if 0 < y then cyDn (d + 1) r.2 else if y < 0 then cyUp (d + 1) r.2 13 else r.2)
theorem cyUp_len (d : Nat) (l : List Int64) : ∀ m, (cyUp d l m).length = m
  | 0 => rfl
  | m + 1 => by
    show (cyUp d l m ++ [_]).length = m + 1
    rw [List.length_append, cyUp_len d l m]
    rfl
theorem cyUp_get (d : Nat) (l : List Int64) (g : Nat → Int64) (m : Nat) (h : ∀ p, p < m → (p < d → g p = l.getD p 0) ∧ (d ≤ p → g p = l.getD p 0 + g (p - d))) (hd : 1 ≤ d) : ∀ p, p < m → g p = (cyUp d l m).getD p 0 := by
  induction m with
  | zero => intro p hp; omega
  | succ m ih =>
    intro p hp
    have ih' := ih (fun q hq => h q (by omega))
    show g p = (cyUp d l m ++ [if d ≤ m then l.getD m 0 + (cyUp d l m).getD (m - d) 0 else l.getD m 0]).getD p 0
    have hl := cyUp_len d l m
    by_cases e : p = m
    · subst e
      rw [List.getD_eq_getElem?_getD, List.getElem?_append_right (by omega), hl, Nat.sub_self]
      show g p = if d ≤ p then _ else _
      by_cases e2 : d ≤ p
      · rw [if_pos e2, ← ih' (p - d) (by omega)]
        exact (h p (by omega)).2 e2
      · rw [if_neg e2]
        exact (h p (by omega)).1 (by omega)
    · rw [List.getD_eq_getElem?_getD, List.getElem?_append_left (by omega), ← List.getD_eq_getElem?_getD]
      exact ih' p (by omega)
theorem map13 {f : Nat → Int64} {p : Nat} (hp : p < 13) : ((List.range 13).map f).getD p 0 = f p := by
  rw [List.getD_eq_getElem?_getD, List.getElem?_map, List.getElem?_range hp]
  rfl
theorem wcR_E {n : Nat} : ∀ {d : Nat} {dg : Int} {f : Nat → Int64}, wcR n d dg f → dg = (cyE1 n d).1 ∧ ∀ p, p < 13 → f p = (cyE1 n d).2.getD p 0
  | 0, dg, f, h => ⟨h.1, fun p hp => by rw [h.2 p hp]; exact (map13 (f := fun p => if p = 0 then (if n = 1 then -1 else 1) else 0) hp).symm⟩
  | d + 1, dg, f, h => by
    obtain ⟨dg', f', h1, h2, h3⟩ := h
    obtain ⟨a, b⟩ := wcR_E h1
    refine ⟨by rw [h2, a]; rfl, fun p hp => ?_⟩
    show f p = (if 0 < cyWy n (d + 1) then cyDn (d + 1) (cyE1 n d).2 else if cyWy n (d + 1) < 0 then cyUp (d + 1) (cyE1 n d).2 13 else (cyE1 n d).2).getD p 0
    by_cases c1 : 0 < cyWy n (d + 1)
    · rw [if_pos c1, h3.1 c1 p hp]
      unfold cyDn
      rw [map13 hp]
      by_cases c2 : d + 1 ≤ p
      · rw [if_pos c2, if_pos c2, b p hp, b (p - (d + 1)) (by omega)]
      · rw [if_neg c2, if_neg c2, b p hp]
    · rw [if_neg c1]
      by_cases c2 : cyWy n (d + 1) < 0
      · rw [if_pos c2]
        exact cyUp_get (d + 1) _ f 13 (fun q hq => ⟨fun h9 => by rw [((h3.2.1 c2 q hq).1 h9), b q hq], fun h9 => by rw [((h3.2.1 c2 q hq).2 h9), b q hq]⟩) (by omega) p hp
      · rw [if_neg c2, h3.2.2 (by omega) p hp, b p hp]
