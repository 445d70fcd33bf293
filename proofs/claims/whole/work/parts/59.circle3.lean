/-! Circle: x and the cyclotomic ones; values of products -/
def cyL : List (List Int) := [[0, 1],
  [-1, 1],
  [1, 1],
  [1, 1, 1],
  [1, 0, 1],
  [1, 1, 1, 1, 1],
  [1, -1, 1],
  [1, 1, 1, 1, 1, 1, 1],
  [1, 0, 0, 0, 1],
  [1, 0, 0, 1, 0, 0, 1],
  [1, -1, 1, -1, 1],
  [1, 1, 1, 1, 1, 1, 1, 1, 1, 1, 1],
  [1, 0, -1, 0, 1],
  [1, 1, 1, 1, 1, 1, 1, 1, 1, 1, 1, 1, 1],
  [1, -1, 1, -1, 1, -1, 1],
  [1, -1, 0, 1, -1, 1, 0, -1, 1],
  [1, 0, 0, 0, 0, 0, 0, 0, 1],
  [],
  [1, 0, 0, -1, 0, 0, 1],
  [],
  [1, 0, -1, 0, 1, 0, -1, 0, 1],
  [1, -1, 0, 1, -1, 0, 1, 0, -1, 1, 0, -1, 1],
  [1, -1, 1, -1, 1, -1, 1, -1, 1, -1, 1],
  [],
  [1, 0, 0, 0, -1, 0, 0, 0, 1],
  [],
  [1, -1, 1, -1, 1, -1, 1, -1, 1, -1, 1, -1, 1],
  [],
  [1, 0, -1, 0, 1, 0, -1, 0, 1, 0, -1, 0, 1],
  [],
  [1, 1, 0, -1, -1, -1, 0, 1, 1],
  [],
  [],
  [],
  [],
  [],
  [1, 0, 0, 0, 0, 0, -1, 0, 0, 0, 0, 0, 1],
  [],
  [],
  [],
  [],
  [],
  [1, 1, 0, -1, -1, 0, 1, 0, -1, -1, 0, 1, 1]]
def cyDg (n : Nat) : Nat := (cyL.getD n []).length - 1
def cyG (n j : Nat) : Int := (cyL.getD n []).getD j 0
def cyIs (n : Nat) : Prop := cyL.getD n [] ≠ []
theorem cy_dg : ∀ n : Fin 43, cyL.getD n.1 [] ≠ [] → 1 ≤ cyDg n.1 ∧ cyDg n.1 ≤ 12 ∧ cyG n.1 (cyDg n.1) = 1 ∧ hev (cyG n.1) 4 (cyDg n.1) (cyDg n.1 + 1) ≠ 0 := by decide +kernel
theorem cy_sm : ∀ n : Fin 43, ∀ j : Fin 13, -9999 ≤ cyG n.1 j.1 ∧ cyG n.1 j.1 ≤ 9999 := by decide +kernel
def pev (F : Nat → Int) (x : Int) : Nat → Int
  | 0 => 0
  | m + 1 => pev F x m + F m * x ^ m
theorem hev_pev {F : Nat → Int} {x : Int} {n : Nat} : ∀ m, m ≤ n + 1 → hev F x n m * x ^ (n + 1 - m) + pev F x (n + 1 - m) = pev F x (n + 1)
  | 0, _ => by simp [hev]
  | m + 1, hm => by
    have ih := hev_pev (F := F) (x := x) (n := n) m (by omega)
    have e : n + 1 - m = n - m + 1 := by omega
    rw [e] at ih
    have e3 : n + 1 - (m + 1) = n - m := by omega
    rw [e3]
    rw [← ih]
    show (hev F x n m * x + F (n - m)) * x ^ (n - m) + pev F x (n - m) = hev F x n m * x ^ (n - m + 1) + (pev F x (n - m) + F (n - m) * x ^ (n - m))
    rw [Int.pow_succ]
    generalize x ^ (n - m) = X
    grind
theorem hev_all {F : Nat → Int} {x : Int} {n : Nat} : hev F x n (n + 1) = pev F x (n + 1) := by
  have h := hev_pev (F := F) (x := x) (n := n) (n + 1) (by omega)
  rw [Nat.sub_self, Int.pow_zero, Int.mul_one] at h
  rw [← h]
  simp [pev]
theorem pev_cong {F G : Nat → Int} {x : Int} : ∀ m, (∀ i, i < m → F i = G i) → pev F x m = pev G x m
  | 0, _ => rfl
  | m + 1, h => by
    show pev F x m + _ = pev G x m + _
    rw [pev_cong m (fun i hi => h i (by omega)), h m (by omega)]
theorem pev_add {F G : Nat → Int} {x : Int} : ∀ m, pev (fun i => F i + G i) x m = pev F x m + pev G x m
  | 0 => rfl
  | m + 1 => by
    show pev (fun i => F i + G i) x m + (F m + G m) * x ^ m = pev F x m + F m * x ^ m + (pev G x m + G m * x ^ m)
    rw [pev_add m]
    generalize x ^ m = X
    grind
theorem pev_zero {F : Nat → Int} {x : Int} : ∀ m, (∀ i, i < m → F i = 0) → pev F x m = 0
  | 0, _ => rfl
  | m + 1, h => by
    show pev F x m + F m * x ^ m = 0
    rw [pev_zero m (fun i hi => h i (by omega)), h m (by omega)]
    simp
theorem pev_one {F : Nat → Int} {x a : Int} {c n : Nat} : ∀ m, m ≤ n + 1 → pev (fun i => if c ≤ i ∧ i - c ≤ n then a * F (i - c) else 0) x (c + m) = a * x ^ c * pev F x m
  | 0, _ => by
    rw [Nat.add_zero, pev_zero]
    · simp [pev]
    · intro i hi
      rw [if_neg (by omega)]
  | m + 1, hm => by
    have ih := pev_one (F := F) (x := x) (a := a) (c := c) (n := n) m (by omega)
    show pev _ x (c + m) + (if c ≤ c + m ∧ c + m - c ≤ n then a * F (c + m - c) else 0) * x ^ (c + m) = a * x ^ c * (pev F x m + F m * x ^ m)
    rw [ih, if_pos (by omega), show c + m - c = m by omega, Int.pow_add]
    generalize x ^ c = X
    generalize x ^ m = Y
    grind
theorem pev_more {F : Nat → Int} {x : Int} {m : Nat} : ∀ z, (∀ i, m ≤ i → F i = 0) → pev F x (m + z) = pev F x m
  | 0, _ => rfl
  | z + 1, h => by
    show pev F x (m + z) + F (m + z) * x ^ (m + z) = _
    rw [pev_more z h, h (m + z) (by omega)]
    simp
theorem pev_mulT {q F : Nat → Int} {x : Int} {n T : Nat} : ∀ k, k ≤ T + 1 → pev (mulT q F n T k) x (T + n + 1) + pev q x (T + 1 - k) * pev F x (n + 1) = pev (fun i => if i < T + 1 - k then 0 else 0) x 0 + pev q x (T + 1) * pev F x (n + 1) - (pev q x (T + 1) - pev q x (T + 1 - k) - (pev q x (T + 1) - pev q x (T + 1 - k))) * pev F x (n + 1)
  | 0, _ => by
    rw [pev_zero (F := mulT q F n T 0) _ (fun i _ => rfl)]
    simp [pev]
  | k + 1, hk => by
    have ih := pev_mulT (q := q) (F := F) (x := x) (n := n) (T := T) k (by omega)
    have e1 : pev (mulT q F n T (k + 1)) x (T + n + 1) = pev (mulT q F n T k) x (T + n + 1) + q (T - k) * x ^ (T - k) * pev F x (n + 1) := by
      rw [show mulT q F n T (k + 1) = (fun i => mulT q F n T k i + (fun i => if T - k ≤ i ∧ i - (T - k) ≤ n then q (T - k) * F (i - (T - k)) else 0) i) from rfl, pev_add]
      congr 1
      rw [show T + n + 1 = (T - k + (n + 1)) + k by omega, pev_more k (fun i hi => by rw [if_neg (by omega)])]
      exact pev_one (n + 1) (Nat.le_refl _)
    have e2 : T + 1 - k = T - k + 1 := by omega
    have e3 : T + 1 - (k + 1) = T - k := by omega
    rw [e2] at ih
    rw [e1, e3]
    have e4 : pev q x (T - k + 1) = pev q x (T - k) + q (T - k) * x ^ (T - k) := rfl
    rw [e4] at ih
    simp only [pev] at ih ⊢
    grind
theorem hev_mul {q F g : Nat → Int} {x : Int} {n T : Nat} (h : ∀ i, i ≤ T + n → g i = mulT q F n T (T + 1) i) : hev g x (T + n) (T + n + 1) = hev q x T (T + 1) * hev F x n (n + 1) := by
  rw [hev_all, hev_all, hev_all, pev_cong (T + n + 1) (fun i hi => h i (by omega))]
  have h1 := pev_mulT (q := q) (F := F) (x := x) (n := n) (T := T) (T + 1) (Nat.le_refl _)
  rw [Nat.sub_self] at h1
  simp only [pev] at h1
  simp at h1
  exact h1
theorem mulT_congF {q F F' : Nat → Int} {n T i : Nat} (h : ∀ j, j ≤ n → F j = F' j) : ∀ k, mulT q F n T k i = mulT q F' n T k i
  | 0 => rfl
  | k + 1 => by
    show mulT q F n T k i + _ = mulT q F' n T k i + _
    rw [mulT_congF h k]
    congr 1
    by_cases hc : T - k ≤ i ∧ i - (T - k) ≤ n
    · rw [if_pos hc, if_pos hc, h _ hc.2]
    · rw [if_neg hc, if_neg hc]
theorem divOk_cong {q F F' g g' : Nat → Int} {n T : Nat} (hF : ∀ j, j ≤ n → F j = F' j) (hg : ∀ i, i ≤ T + n → g i = g' i) (h : divOk q F g n T) : divOk q F' g' n T :=
  ⟨h.1, fun i hi => by rw [← hg i hi, h.2 i hi, mulT_congF hF]⟩
theorem divOk_congq {q q' F g : Nat → Int} {n T : Nat} (hq : ∀ j, j ≤ T → q j = q' j) (h : divOk q F g n T) : divOk q' F g n T :=
  ⟨fun j hj => by rw [← hq j hj]; exact h.1 j hj, fun i hi => by rw [h.2 i hi]; exact mulT_cong _ (Nat.le_refl _) (fun j _ hj => hq j hj)⟩
