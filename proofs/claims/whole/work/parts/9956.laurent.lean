/-! Laurent polynomials: lists of (exponent, number); what counts is the number at each exponent -/
abbrev LPo : Type := List (Int × Int)
def lsu (g : Int → Int) : LPo → Int
  | [] => 0
  | x :: L => x.2 * g x.1 + lsu g L
def dlt (d e : Int) : Int := if e = d then 1 else 0
def cf (L : LPo) (d : Int) : Int := lsu (dlt d) L
theorem lsu_app (g : Int → Int) : ∀ A B : LPo, lsu g (A ++ B) = lsu g A + lsu g B
  | [], B => (Int.zero_add _).symm
  | x :: A, B => by
    show x.2 * g x.1 + lsu g (A ++ B) = x.2 * g x.1 + lsu g A + lsu g B
    rw [lsu_app g A B]
    omega
theorem lsu_ext {g h : Int → Int} (e : ∀ d, g d = h d) (A : LPo) : lsu g A = lsu h A := by rw [funext e]
theorem lsu_add (g h : Int → Int) : ∀ A : LPo, lsu (fun d => g d + h d) A = lsu g A + lsu h A
  | [] => rfl
  | x :: A => by
    show x.2 * (g x.1 + h x.1) + lsu (fun d => g d + h d) A = x.2 * g x.1 + lsu g A + (x.2 * h x.1 + lsu h A)
    rw [lsu_add g h A, Int.mul_add]
    omega
theorem lsu_mul (c : Int) (g : Int → Int) : ∀ A : LPo, lsu (fun d => c * g d) A = c * lsu g A
  | [] => (Int.mul_zero c).symm
  | x :: A => by
    show x.2 * (c * g x.1) + lsu (fun d => c * g d) A = c * (x.2 * g x.1 + lsu g A)
    rw [lsu_mul c g A, Int.mul_add, Int.mul_left_comm]
theorem lsu_z : ∀ A : LPo, lsu (fun _ => 0) A = 0
  | [] => rfl
  | x :: A => by
    show x.2 * 0 + lsu (fun _ => 0) A = 0
    rw [lsu_z A, Int.mul_zero]
    rfl
/-- to and fro: a double sum -/
theorem lsu_swap (g : Int → Int → Int) : ∀ A B : LPo, lsu (fun a => lsu (fun b => g a b) B) A = lsu (fun b => lsu (fun a => g a b) A) B
  | [], B => (lsu_z B).symm
  | x :: A, B => by
    show x.2 * lsu (fun b => g x.1 b) B + lsu (fun a => lsu (fun b => g a b) B) A = lsu (fun b => x.2 * g x.1 b + lsu (fun a => g a b) A) B
    rw [lsu_swap g A B, lsu_add, lsu_mul]
def ngL (A : LPo) : LPo := A.map (fun x => (x.1, -x.2))
theorem lsu_ng (g : Int → Int) : ∀ A : LPo, lsu g (ngL A) = -lsu g A
  | [] => rfl
  | x :: A => by
    show -x.2 * g x.1 + lsu g (ngL A) = -(x.2 * g x.1 + lsu g A)
    rw [lsu_ng g A, Int.neg_mul]
    omega
theorem lsu_cut (g : Int → Int) (e : Int) : ∀ A : LPo, lsu g A = cf A e * g e + lsu g (A.filter (fun x => decide (x.1 ≠ e)))
  | [] => by show 0 = 0 * g e + 0; omega
  | x :: A => by
    have ih := lsu_cut g e A
    show x.2 * g x.1 + lsu g A = (x.2 * dlt e x.1 + cf A e) * g e + lsu g ((x :: A).filter (fun x => decide (x.1 ≠ e)))
    by_cases h : x.1 = e
    · rw [List.filter_cons_of_neg (by simp [h]), ih, Int.add_mul]
      have e1 : dlt e x.1 = 1 := if_pos h
      rw [e1, h, Int.mul_one]
      omega
    · rw [List.filter_cons_of_pos (by simp [h])]
      have e1 : dlt e x.1 = 0 := if_neg h
      show _ = (x.2 * dlt e x.1 + cf A e) * g e + (x.2 * g x.1 + lsu g (A.filter (fun x => decide (x.1 ≠ e))))
      rw [e1, Int.mul_zero, Int.zero_add, ih]
      omega
theorem lsu_zero (g : Int → Int) : ∀ (m : Nat) (A : LPo), A.length ≤ m → (∀ d, cf A d = 0) → lsu g A = 0
  | _, [], _, _ => rfl
  | 0, x :: A, h, _ => by simp at h
  | m + 1, x :: A, h, hz => by
    rw [lsu_cut g x.1, hz, Int.zero_mul, Int.zero_add]
    refine lsu_zero g m _ ?_ (fun d => ?_)
    · rw [List.filter_cons_of_neg (by simp)]
      have h1 := List.length_filter_le (fun y => decide (y.1 ≠ x.1)) A
      have h2 : A.length + 1 ≤ m + 1 := h
      omega
    · have h3 := lsu_cut (dlt d) x.1 (x :: A)
      have h4 : lsu (dlt d) (x :: A) = 0 := hz d
      rw [h4, hz, Int.zero_mul, Int.zero_add] at h3
      exact h3.symm
/-- what counts -/
theorem lsu_cg (g : Int → Int) {A B : LPo} (h : ∀ d, cf A d = cf B d) : lsu g A = lsu g B := by
  have h1 := lsu_zero g (A ++ ngL B).length (A ++ ngL B) (Nat.le_refl _) (fun d => by
    show lsu (dlt d) (A ++ ngL B) = 0
    rw [lsu_app, lsu_ng]
    have := h d
    unfold cf at this
    omega)
  rw [lsu_app, lsu_ng] at h1
  omega
def shL (e c : Int) (B : LPo) : LPo := B.map (fun y => (e + y.1, c * y.2))
theorem lsu_sh (g : Int → Int) (e c : Int) : ∀ B : LPo, lsu g (shL e c B) = c * lsu (fun b => g (e + b)) B
  | [] => (Int.mul_zero c).symm
  | y :: B => by
    show c * y.2 * g (e + y.1) + lsu g (shL e c B) = c * (y.2 * g (e + y.1) + lsu (fun b => g (e + b)) B)
    rw [lsu_sh g e c B, Int.mul_add, Int.mul_assoc]
def mlP : LPo → LPo → LPo
  | [], _ => []
  | x :: A, B => shL x.1 x.2 B ++ mlP A B
theorem lsu_ml (g : Int → Int) : ∀ A B : LPo, lsu g (mlP A B) = lsu (fun a => lsu (fun b => g (a + b)) B) A
  | [], B => rfl
  | x :: A, B => by
    show lsu g (shL x.1 x.2 B ++ mlP A B) = x.2 * lsu (fun b => g (x.1 + b)) B + lsu (fun a => lsu (fun b => g (a + b)) B) A
    rw [lsu_app, lsu_sh, lsu_ml g A B]
/-- alike: the same number at each exponent -/
def alk (A B : LPo) : Prop := ∀ g : Int → Int, lsu g A = lsu g B
theorem alk_of {A B : LPo} (h : ∀ d, cf A d = cf B d) : alk A B := fun g => lsu_cg g h
theorem alk.ml {A A' B B' : LPo} (h1 : alk A A') (h2 : alk B B') : alk (mlP A B) (mlP A' B') := fun g => by
  rw [lsu_ml, lsu_ml, h1]
  exact lsu_ext (fun a => h2 _) A'
theorem ml_com (A B : LPo) : alk (mlP A B) (mlP B A) := fun g => by
  rw [lsu_ml, lsu_ml, lsu_swap]
  exact lsu_ext (fun b => lsu_ext (fun a => by rw [Int.add_comm]) A) B
theorem ml_ass (A B C : LPo) : alk (mlP (mlP A B) C) (mlP A (mlP B C)) := fun g => by
  rw [lsu_ml, lsu_ml, lsu_ml]
  refine lsu_ext (fun a => ?_) A
  rw [lsu_ml]
  exact lsu_ext (fun b => lsu_ext (fun c => by rw [Int.add_assoc]) C) B
theorem ml_addr (A B C : LPo) : alk (mlP A (B ++ C)) (mlP A B ++ mlP A C) := fun g => by
  rw [lsu_app, lsu_ml, lsu_ml, lsu_ml, ← lsu_add]
  exact lsu_ext (fun a => lsu_app _ B C) A
theorem ml_addl (A B C : LPo) : alk (mlP (A ++ B) C) (mlP A C ++ mlP B C) := fun g => by
  rw [lsu_app, lsu_ml, lsu_ml, lsu_ml, lsu_app]
def unL : LPo := [(0, 1)]
theorem ml_one (A : LPo) : alk (mlP unL A) A := fun g => by
  rw [lsu_ml]
  show 1 * lsu (fun b => g (0 + b)) A + 0 = lsu g A
  rw [lsu_ext (fun d => by rw [Int.zero_add]) A (h := g)]
  omega
def stL (A : LPo) : LPo := A.map (fun x => (-x.1, x.2))
theorem lsu_st (g : Int → Int) : ∀ A : LPo, lsu g (stL A) = lsu (fun d => g (-d)) A
  | [] => rfl
  | x :: A => by
    show x.2 * g (-x.1) + lsu g (stL A) = x.2 * g (-x.1) + lsu (fun d => g (-d)) A
    rw [lsu_st g A]
theorem st_ml (A B : LPo) : alk (stL (mlP A B)) (mlP (stL A) (stL B)) := fun g => by
  rw [lsu_st, lsu_ml, lsu_ml, lsu_st]
  refine lsu_ext (fun a => ?_) A
  rw [lsu_st]
  exact lsu_ext (fun b => by rw [Int.neg_add]) B
/-- the constant term; squares have one that is not negative -/
def CT (A : LPo) : Int := lsu (dlt 0) A
def psd (K : LPo) : Prop := ∀ v : LPo, 0 ≤ CT (mlP K (mlP v (stL v)))
