/-! whole numbers: a quotient is no greater than what was divided, where x^i has the weight i! -/
def fkF : Nat → Int
  | 0 => 1
  | k + 1 => ((k : Int) + 1) * fkF k
def sgm (f : Nat → Int) : Nat → Int
  | 0 => 0
  | k + 1 => sgm f k + f k
theorem fkF_1 : ∀ k, 1 ≤ fkF k
  | 0 => Int.le_refl _
  | k + 1 => by
    have h := fkF_1 k
    show 1 ≤ ((k : Int) + 1) * fkF k
    have h2 : 0 ≤ (k : Int) * fkF k := Int.mul_nonneg (by omega) (by omega)
    have h3 : ((k : Int) + 1) * fkF k = k * fkF k + fkF k := by rw [Int.add_mul, Int.one_mul]
    omega
theorem sgm_add (f g : Nat → Int) : ∀ N, sgm (fun k => f k + g k) N = sgm f N + sgm g N
  | 0 => rfl
  | N + 1 => by
    have h := sgm_add f g N
    show sgm (fun k => f k + g k) N + (f N + g N) = sgm f N + f N + (sgm g N + g N)
    omega
theorem sgm_mul (c : Int) (f : Nat → Int) : ∀ N, sgm (fun k => c * f k) N = c * sgm f N
  | 0 => (Int.mul_zero c).symm
  | N + 1 => by
    have h := sgm_mul c f N
    show sgm (fun k => c * f k) N + c * f N = c * (sgm f N + f N)
    rw [h, Int.mul_add]
theorem sgm_ext {f g : Nat → Int} : ∀ {N}, (∀ k, k < N → f k = g k) → sgm f N = sgm g N
  | 0, _ => rfl
  | N + 1, h => by
    show sgm f N + f N = sgm g N + g N
    rw [sgm_ext (fun k hk => h k (by omega)), h N (by omega)]
theorem sgm_nn {f : Nat → Int} : ∀ {N}, (∀ k, k < N → 0 ≤ f k) → 0 ≤ sgm f N
  | 0, _ => Int.le_refl _
  | N + 1, h => Int.add_nonneg (sgm_nn (fun k hk => h k (by omega))) (h N (by omega))
theorem sgm_le {f g : Nat → Int} : ∀ {N}, (∀ k, k < N → f k ≤ g k) → sgm f N ≤ sgm g N
  | 0, _ => Int.le_refl _
  | N + 1, h => Int.add_le_add (sgm_le (fun k hk => h k (by omega))) (h N (by omega))
theorem sgm_sh (f : Nat → Int) : ∀ N, sgm f (N + 1) = f 0 + sgm (fun k => f (k + 1)) N
  | 0 => by show 0 + f 0 = f 0 + 0; omega
  | N + 1 => by
    have h := sgm_sh f N
    show sgm f (N + 1) + f (N + 1) = f 0 + (sgm (fun k => f (k + 1)) N + f (N + 1))
    omega
theorem sgm_one {f : Nat → Int} {N j : Nat} (hj : j < N) (h : ∀ k, k < N → 0 ≤ f k) : f j ≤ sgm f N := by
  induction N with
  | zero => omega
  | succ N ih =>
    show f j ≤ sgm f N + f N
    by_cases e : j = N
    · have := sgm_nn (f := f) (N := N) (fun k hk => h k (by omega))
      rw [e]; omega
    · have h1 := ih (by omega) (fun k hk => h k (by omega))
      have h2 := h N (by omega)
      omega
theorem sgm_long {f : Nat → Int} {M : Nat} (h : ∀ k, M ≤ k → f k = 0) : ∀ d, sgm f (M + d) = sgm f M
  | 0 => rfl
  | d + 1 => by
    show sgm f (M + d) + f (M + d) = sgm f M
    rw [sgm_long h d, h (M + d) (by omega)]
    omega
def upP (f : Nat → Int) : Nat → Int
  | 0 => 0
  | k + 1 => f k
def dnP (f : Nat → Int) (k : Nat) : Int := ((k : Int) + 1) * f (k + 1)
def ipP (N : Nat) (f g : Nat → Int) : Int := sgm (fun k => fkF k * (f k * g k)) N
theorem ip_ext {N : Nat} {f f' g g' : Nat → Int} (h1 : ∀ k, f k = f' k) (h2 : ∀ k, g k = g' k) : ipP N f g = ipP N f' g' := sgm_ext (fun k _ => by rw [h1, h2])
theorem ip_addr (N : Nat) (f g g' : Nat → Int) : ipP N f (fun k => g k + g' k) = ipP N f g + ipP N f g' := by
  unfold ipP
  rw [← sgm_add]
  exact sgm_ext (fun k _ => by rw [Int.mul_add, Int.mul_add])
theorem ip_com (N : Nat) (f g : Nat → Int) : ipP N f g = ipP N g f := sgm_ext (fun k _ => by rw [Int.mul_comm (f k)])
theorem ip_addl (N : Nat) (f f' g : Nat → Int) : ipP N (fun k => f k + f' k) g = ipP N f g + ipP N f' g := by rw [ip_com, ip_addr, ip_com N g f, ip_com N g f']
theorem ip_mulr (N : Nat) (c : Int) (f g : Nat → Int) : ipP N f (fun k => c * g k) = c * ipP N f g := by
  unfold ipP
  rw [← sgm_mul]
  exact sgm_ext (fun k _ => by rw [Int.mul_left_comm (f k) c, Int.mul_left_comm (fkF k) c])
theorem ip_mull (N : Nat) (c : Int) (f g : Nat → Int) : ipP N (fun k => c * f k) g = c * ipP N f g := by rw [ip_com, ip_mulr, ip_com]
theorem ip_ad {N : Nat} {f g : Nat → Int} (h : g N = 0) : ipP N (upP f) g = ipP N f (dnP g) := by
  cases N with
  | zero => rfl
  | succ M =>
    unfold ipP
    rw [sgm_sh]
    show fkF 0 * (0 * g 0) + sgm (fun k => fkF (k + 1) * (f k * g (k + 1))) M = sgm (fun k => fkF k * (f k * dnP g k)) M + fkF M * (f M * dnP g M)
    have e1 : dnP g M = 0 := by unfold dnP; rw [h, Int.mul_zero]
    rw [e1, Int.mul_zero, Int.mul_zero, Int.zero_mul, Int.mul_zero, Int.zero_add, Int.add_zero]
    refine sgm_ext (fun k _ => ?_)
    show ((k : Int) + 1) * fkF k * (f k * g (k + 1)) = fkF k * (f k * (((k : Int) + 1) * g (k + 1)))
    rw [Int.mul_left_comm (f k), Int.mul_left_comm (fkF k), Int.mul_assoc]
def mlL : List Int → (Nat → Int) → Nat → Int
  | [], _ => fun _ => 0
  | c :: D, Q => fun k => c * Q k + upP (mlL D Q) k
def hsL : List Int → Nat → (Nat → Int) → Nat → Int
  | [], _, _ => fun _ => 0
  | c :: D, 0, R => fun k => c * R k + dnP (hsL D 0 R) k
  | _ :: D, a + 1, R => fun k => dnP (hsL D (a + 1) R) k + hsL D a R k
def addL : List Int → List Int → List Int
  | [], B => B
  | a :: A, [] => a :: A
  | a :: A, b :: B => (a + b) :: addL A B
def derL : List Int → List Int
  | [] => []
  | _ :: E => addL E (0 :: derL E)
theorem up_ext {f g : Nat → Int} (h : ∀ k, f k = g k) (k : Nat) : upP f k = upP g k := by
  cases k with
  | zero => rfl
  | succ k => exact h k
theorem dn_ext {f g : Nat → Int} (h : ∀ k, f k = g k) (k : Nat) : dnP f k = dnP g k := by unfold dnP; rw [h]
theorem up_add (f g : Nat → Int) (k : Nat) : upP (fun k => f k + g k) k = upP f k + upP g k := by
  cases k with
  | zero => rfl
  | succ k => rfl
theorem dn_add (f g : Nat → Int) (k : Nat) : dnP (fun k => f k + g k) k = dnP f k + dnP g k := by unfold dnP; exact Int.mul_add _ _ _
theorem dn_mul (c : Int) (f : Nat → Int) (k : Nat) : dnP (fun k => c * f k) k = c * dnP f k := by unfold dnP; exact Int.mul_left_comm _ _ _
theorem up_z (k : Nat) : upP (fun _ => 0) k = 0 := by
  cases k with
  | zero => rfl
  | succ k => rfl
theorem dn_z (k : Nat) : dnP (fun _ => 0) k = 0 := by unfold dnP; exact Int.mul_zero _
theorem dn_up (f : Nat → Int) (k : Nat) : dnP (upP f) k = f k + upP (dnP f) k := by
  cases k with
  | zero => show (((0 : Nat) : Int) + 1) * f 0 = f 0 + 0; omega
  | succ k =>
    show (((k + 1 : Nat) : Int) + 1) * f (k + 1) = f (k + 1) + ((k : Int) + 1) * f (k + 1)
    rw [Int.add_mul, Int.one_mul, Int.add_comm]
    rfl
theorem ml_add (Q : Nat → Int) : ∀ (A B : List Int) (k : Nat), mlL (addL A B) Q k = mlL A Q k + mlL B Q k
  | [], B, k => by show mlL B Q k = 0 + mlL B Q k; omega
  | a :: A, [], k => by show mlL (a :: A) Q k = mlL (a :: A) Q k + 0; omega
  | a :: A, b :: B, k => by
    show (a + b) * Q k + upP (mlL (addL A B) Q) k = a * Q k + upP (mlL A Q) k + (b * Q k + upP (mlL B Q) k)
    rw [up_ext (ml_add Q A B) k, up_add, Int.add_mul]
    omega
theorem hs_add (Q : Nat → Int) : ∀ (A B : List Int) (a k : Nat), hsL (addL A B) a Q k = hsL A a Q k + hsL B a Q k
  | [], B, a, k => by show hsL B a Q k = 0 + hsL B a Q k; omega
  | c :: A, [], a, k => by show hsL (c :: A) a Q k = hsL (c :: A) a Q k + 0; omega
  | c :: A, b :: B, 0, k => by
    show (c + b) * Q k + dnP (hsL (addL A B) 0 Q) k = c * Q k + dnP (hsL A 0 Q) k + (b * Q k + dnP (hsL B 0 Q) k)
    rw [dn_ext (hs_add Q A B 0) k, dn_add, Int.add_mul]
    omega
  | c :: A, b :: B, a + 1, k => by
    show dnP (hsL (addL A B) (a + 1) Q) k + hsL (addL A B) a Q k = dnP (hsL A (a + 1) Q) k + hsL A a Q k + (dnP (hsL B (a + 1) Q) k + hsL B a Q k)
    rw [dn_ext (hs_add Q A B (a + 1)) k, dn_add, hs_add Q A B a k]
    omega
theorem hs_dn (R : Nat → Int) : ∀ (D : List Int) (a k : Nat), hsL D a (dnP R) k = dnP (hsL D a R) k
  | [], a, k => (dn_z k).symm
  | c :: D, 0, k => by
    show c * dnP R k + dnP (hsL D 0 (dnP R)) k = dnP (fun k => c * R k + dnP (hsL D 0 R) k) k
    rw [dn_add, dn_mul, dn_ext (hs_dn R D 0) k]
  | c :: D, a + 1, k => by
    show dnP (hsL D (a + 1) (dnP R)) k + hsL D a (dnP R) k = dnP (fun k => dnP (hsL D (a + 1) R) k + hsL D a R k) k
    rw [dn_add, dn_ext (hs_dn R D (a + 1)) k, hs_dn R D a k]
theorem hs_der (Q : Nat → Int) : ∀ (E : List Int) (a k : Nat), hsL (derL E) a Q k = ((a : Int) + 1) * hsL E (a + 1) Q k
  | [], a, k => (Int.mul_zero _).symm
  | c :: E, 0, k => by
    show hsL (addL E (0 :: derL E)) 0 Q k = (((0 : Nat) : Int) + 1) * (dnP (hsL E 1 Q) k + hsL E 0 Q k)
    rw [hs_add]
    show hsL E 0 Q k + (0 * Q k + dnP (hsL (derL E) 0 Q) k) = _
    rw [dn_ext (fun k => (hs_der Q E 0 k).trans (show (((0 : Nat) : Int) + 1) * hsL E 1 Q k = hsL E 1 Q k by omega)) k]
    omega
  | c :: E, a + 1, k => by
    show hsL (addL E (0 :: derL E)) (a + 1) Q k = (((a + 1 : Nat) : Int) + 1) * (dnP (hsL E (a + 1 + 1) Q) k + hsL E (a + 1) Q k)
    rw [hs_add]
    show hsL E (a + 1) Q k + (dnP (hsL (derL E) (a + 1) Q) k + hsL (derL E) a Q k) = _
    rw [dn_ext (hs_der Q E (a + 1)) k, dn_mul, hs_der Q E a k, Int.mul_add]
    have e : (((a + 1 : Nat) : Int) + 1) * hsL E (a + 1) Q k = ((a : Int) + 1) * hsL E (a + 1) Q k + hsL E (a + 1) Q k := by
      rw [Int.add_mul (((a + 1 : Nat) : Int)), Int.one_mul]
      rfl
    omega
theorem ml_dn (R : Nat → Int) : ∀ (E : List Int) (k : Nat), dnP (mlL E R) k = mlL E (dnP R) k + mlL (derL E) R k
  | [], k => by rw [show dnP (mlL [] R) k = 0 from dn_z k]; rfl
  | c :: E, k => by
    show dnP (fun k => c * R k + upP (mlL E R) k) k = c * dnP R k + upP (mlL E (dnP R)) k + mlL (addL E (0 :: derL E)) R k
    rw [dn_add, dn_mul, dn_up, up_ext (ml_dn R E) k, up_add, ml_add]
    show _ = c * dnP R k + upP (mlL E (dnP R)) k + (mlL E R k + (0 * R k + upP (mlL (derL E) R) k))
    omega
theorem addL_len : ∀ (A B : List Int) (n : Nat), A.length ≤ n → B.length ≤ n → (addL A B).length ≤ n
  | [], B, n, _, h => h
  | a :: A, [], n, h, _ => h
  | a :: A, b :: B, 0, h, _ => by simp at h
  | a :: A, b :: B, n + 1, h1, h2 => by
    have := addL_len A B n (by simp at h1; omega) (by simp at h2; omega)
    show (addL A B).length + 1 ≤ n + 1
    omega
theorem derL_len : ∀ E : List Int, (derL E).length ≤ E.length
  | [] => Nat.le_refl _
  | c :: E => by
    have h := derL_len E
    exact addL_len E (0 :: derL E) (E.length + 1) (by omega) (by show (derL E).length + 1 ≤ _; omega)
theorem ml_sup {R : Nat → Int} {M : Nat} (hR : ∀ k, M ≤ k → R k = 0) : ∀ (E : List Int) (k : Nat), M + E.length ≤ k → mlL E R k = 0
  | [], k, _ => rfl
  | c :: E, k, h => by
    have h9 : M + (E.length + 1) ≤ k := h
    show c * R k + upP (mlL E R) k = 0
    cases k with
    | zero => omega
    | succ k =>
      rw [hR _ (by omega), Int.mul_zero]
      show 0 + mlL E R k = 0
      rw [ml_sup hR E k (by omega)]
      rfl
theorem dn_sup {R : Nat → Int} {M : Nat} (hR : ∀ k, M ≤ k → R k = 0) (k : Nat) (h : M ≤ k) : dnP R k = 0 := by
  unfold dnP
  rw [hR _ (by omega), Int.mul_zero]
theorem ip_base {N : Nat} {R : Nat → Int} : ∀ (E : List Int) (Q : Nat → Int), (∀ k, N ≤ k → Q k = 0) → ipP N Q (mlL E R) = ipP N (hsL E 0 Q) R
  | [], Q, _ => by
    have h1 : ipP N Q (mlL [] R) = 0 * ipP N Q R := by rw [← ip_mulr]; exact ip_ext (fun _ => rfl) (fun k => (Int.zero_mul _).symm)
    have h2 : ipP N (hsL [] 0 Q) R = 0 * ipP N Q R := by rw [← ip_mull]; exact ip_ext (fun k => (Int.zero_mul _).symm) (fun _ => rfl)
    rw [h1, h2]
  | c :: E, Q, hQ => by
    show ipP N Q (fun k => c * R k + upP (mlL E R) k) = ipP N (fun k => c * Q k + dnP (hsL E 0 Q) k) R
    rw [ip_addr, ip_addl, ip_mulr, ip_mull, ip_com N Q (upP (mlL E R)), ip_ad (hQ N (Nat.le_refl _)), ip_com N (mlL E R), ip_base E (dnP Q) (fun k hk => dn_sup hQ k hk)]
    rw [ip_ext (hs_dn Q E 0) (fun _ => rfl)]
theorem fock {N : Nat} {Q : Nat → Int} (hQ : ∀ k, N ≤ k → Q k = 0) : ∀ (D E : List Int) (R : Nat → Int) (M K : Nat), (∀ k, M ≤ k → R k = 0) → M + E.length ≤ N → D.length ≤ K → ipP N (mlL D Q) (mlL E R) = sgm (fun a => fkF a * ipP N (hsL E a Q) (hsL D a R)) K
  | [], E, R, M, K, _, _, _ => by
    have h1 : ipP N (mlL [] Q) (mlL E R) = 0 * ipP N Q (mlL E R) := by rw [← ip_mull]; exact ip_ext (fun k => (Int.zero_mul _).symm) (fun _ => rfl)
    rw [h1, Int.zero_mul]
    have h2 : sgm (fun a => fkF a * ipP N (hsL E a Q) (hsL [] a R)) K = sgm (fun a => 0 * fkF a) K := sgm_ext (fun a _ => by
      have h3 : ipP N (hsL E a Q) (hsL [] a R) = 0 * ipP N (hsL E a Q) R := by rw [← ip_mulr]; exact ip_ext (fun _ => rfl) (fun k => (Int.zero_mul _).symm)
      rw [h3, Int.zero_mul, Int.mul_zero, Int.zero_mul])
    rw [h2, sgm_mul, Int.zero_mul]
  | c :: D, E, R, M, 0, _, _, h => by simp at h
  | c :: D, E, R, M, K + 1, hR, hN, hK => by
    have hK' : D.length ≤ K := by simp at hK; omega
    have I1 := fock hQ D E (dnP R) M (K + 1) (fun k hk => dn_sup hR k hk) hN (by omega)
    have I2 := fock hQ D (derL E) R M K hR (by have := derL_len E; omega) hK'
    show ipP N (fun k => c * Q k + upP (mlL D Q) k) (mlL E R) = _
    rw [ip_addl, ip_mull, ip_base E Q hQ, ip_ad (ml_sup hR E N hN), ip_ext (fun _ => rfl) (ml_dn R E), ip_addr, I1, I2, sgm_sh, sgm_sh]
    show _ = fkF 0 * ipP N (hsL E 0 Q) (fun k => c * R k + dnP (hsL D 0 R) k) + sgm (fun a => fkF (a + 1) * ipP N (hsL E (a + 1) Q) (fun k => dnP (hsL D (a + 1) R) k + hsL D a R k)) K
    have e1 : sgm (fun a => fkF (a + 1) * ipP N (hsL E (a + 1) Q) (fun k => dnP (hsL D (a + 1) R) k + hsL D a R k)) K = sgm (fun a => fkF (a + 1) * ipP N (hsL E (a + 1) Q) (hsL D (a + 1) (dnP R))) K + sgm (fun a => fkF a * ipP N (hsL (derL E) a Q) (hsL D a R)) K := by
      rw [← sgm_add]
      refine sgm_ext (fun a _ => ?_)
      rw [ip_addr, Int.mul_add, ip_ext (fun _ => rfl) (hs_dn R D (a + 1)), ip_ext (hs_der Q E a) (fun _ => rfl), ip_mull]
      show _ = _ + fkF a * (((a : Int) + 1) * ipP N (hsL E (a + 1) Q) (hsL D a R))
      have e9 : fkF (a + 1) = ((a : Int) + 1) * fkF a := rfl
      rw [e9, Int.mul_left_comm (fkF a), ← Int.mul_assoc ((a : Int) + 1)]
    rw [e1, ip_addr, ip_mulr, ip_ext (fun _ => rfl) (hs_dn R D 0)]
    have e0 : fkF 0 = 1 := rfl
    rw [e0]
    omega
theorem hs_z (Q : Nat → Int) : ∀ (D : List Int) (a k : Nat), D.length ≤ a → hsL D a Q k = 0
  | [], a, k, _ => rfl
  | c :: D, 0, k, h => by simp at h
  | c :: D, a + 1, k, h => by
    have h9 : D.length ≤ a := by simp at h; omega
    show dnP (hsL D (a + 1) Q) k + hsL D a Q k = 0
    rw [dn_ext (fun j => hs_z Q D (a + 1) j (by omega)) k, dn_z, hs_z Q D a k h9]
    rfl
theorem hs_top (Q : Nat → Int) : ∀ (D : List Int) (a k : Nat), D.length = a + 1 → hsL D a Q k = D.getD a 0 * Q k
  | [], a, k, h => by simp at h
  | c :: D, 0, k, h => by
    have h9 : D.length = 0 := by simp at h; simp [h]
    show c * Q k + dnP (hsL D 0 Q) k = c * Q k
    rw [dn_ext (fun j => hs_z Q D 0 j (by omega)) k, dn_z]
    omega
  | c :: D, a + 1, k, h => by
    have h9 : D.length = a + 1 := by simp at h; omega
    show dnP (hsL D (a + 1) Q) k + hsL D a Q k = D.getD a 0 * Q k
    rw [dn_ext (fun j => hs_z Q D (a + 1) j (by omega)) k, dn_z, hs_top Q D a k h9]
    omega
theorem sq_nn9 (x : Int) : 0 ≤ x * x := by
  rcases Int.le_total 0 x with h | h
  · exact Int.mul_nonneg h h
  · have := Int.mul_nonneg (show 0 ≤ -x by omega) (show 0 ≤ -x by omega)
    rw [Int.neg_mul_neg] at this
    exact this
theorem sq_1 {x : Int} (h : x ≠ 0) : 1 ≤ x * x := by
  rcases Int.lt_or_gt_of_ne h with g | g
  · have := Int.mul_le_mul (show 1 ≤ -x by omega) (show 1 ≤ -x by omega) (by omega) (by omega)
    rw [Int.neg_mul_neg] at this
    omega
  · have := Int.mul_le_mul (show 1 ≤ x by omega) (show 1 ≤ x by omega) (by omega) (by omega)
    omega
theorem ip_nn (N : Nat) (f : Nat → Int) : 0 ≤ ipP N f f := sgm_nn (fun k _ => Int.mul_nonneg (by have := fkF_1 k; omega) (sq_nn9 _))
theorem fock_le {N M n : Nat} {Q : Nat → Int} {D : List Int} (hQ : ∀ k, M ≤ k → Q k = 0) (hN : M + D.length ≤ N) (hD : D.length = n + 1) (h0 : D.getD n 0 ≠ 0) : ipP N Q Q ≤ ipP N (mlL D Q) (mlL D Q) := by
  rw [fock (fun k hk => hQ k (by omega)) D D Q M (n + 1) hQ hN (by omega)]
  have h1 : fkF n * ipP N (hsL D n Q) (hsL D n Q) ≤ sgm (fun a => fkF a * ipP N (hsL D a Q) (hsL D a Q)) (n + 1) := sgm_one (f := fun a => fkF a * ipP N (hsL D a Q) (hsL D a Q)) (by omega) (fun k _ => Int.mul_nonneg (by have := fkF_1 k; omega) (ip_nn _ _))
  refine Int.le_trans ?_ h1
  rw [ip_ext (fun k => hs_top Q D n k hD) (fun k => hs_top Q D n k hD), ip_mull, ip_mulr]
  have g := ip_nn N Q
  generalize ipP N Q Q = p at g ⊢
  generalize D.getD n 0 = d at h0 ⊢
  rw [← Int.mul_assoc d d p, ← Int.mul_assoc]
  have k1 : 1 ≤ fkF n * (d * d) := by
    have := Int.mul_le_mul (fkF_1 n) (sq_1 h0) (by omega) (by have := fkF_1 n; omega)
    omega
  have k2 := Int.mul_le_mul_of_nonneg_right k1 g
  omega
/-- the list of the first numbers of a row -/
def lsF : Nat → (Nat → Int) → List Int
  | 0, _ => []
  | k + 1, F => F 0 :: lsF k (fun j => F (j + 1))
theorem lsF_len : ∀ (k : Nat) (F : Nat → Int), (lsF k F).length = k
  | 0, _ => rfl
  | k + 1, F => congrArg (· + 1) (lsF_len k _)
theorem lsF_at : ∀ (k : Nat) (F : Nat → Int) (j : Nat), (lsF k F).getD j 0 = if j < k then F j else 0
  | 0, F, j => by simp [lsF]
  | k + 1, F, 0 => by simp [lsF]
  | k + 1, F, j + 1 => by
    have h := lsF_at k (fun j => F (j + 1)) j
    simp only [lsF, List.getD_cons_succ]
    rw [h]
    by_cases g : j < k
    · rw [if_pos g, if_pos (by omega)]
    · rw [if_neg g, if_neg (by omega)]
theorem ml_lin (Q R : Nat → Int) : ∀ (D : List Int) (k : Nat), mlL D (fun j => Q j + R j) k = mlL D Q k + mlL D R k
  | [], k => rfl
  | c :: D, k => by
    show c * (Q k + R k) + upP (mlL D (fun j => Q j + R j)) k = c * Q k + upP (mlL D Q) k + (c * R k + upP (mlL D R) k)
    rw [up_ext (ml_lin Q R D) k, up_add, Int.mul_add]
    omega
theorem ml_ext {Q R : Nat → Int} (h : ∀ k, Q k = R k) : ∀ (D : List Int) (k : Nat), mlL D Q k = mlL D R k := fun D k => by rw [show Q = R from funext h]
theorem ml_del (c : Int) (s : Nat) : ∀ (D : List Int) (i : Nat), mlL D (fun j => if j = s then c else 0) i = if s ≤ i then c * D.getD (i - s) 0 else 0
  | [], i => by
    show 0 = _
    by_cases h : s ≤ i
    · rw [if_pos h]; simp
    · rw [if_neg h]
  | d :: D, 0 => by
    show d * (if 0 = s then c else 0) + 0 = _
    by_cases h : 0 = s
    · rw [if_pos h, ← h]; simp [Int.mul_comm]
    · rw [if_neg h, if_neg (by omega)]; simp
  | d :: D, i + 1 => by
    show d * (if i + 1 = s then c else 0) + mlL D (fun j => if j = s then c else 0) i = _
    rw [ml_del c s D i]
    by_cases h : i + 1 = s
    · rw [if_pos h, if_neg (by omega), if_pos (by omega), show i + 1 - s = 0 by omega]
      simp [Int.mul_comm]
    · rw [if_neg h]
      by_cases g : s ≤ i
      · rw [if_pos g, if_pos (by omega), show i + 1 - s = (i - s) + 1 by omega, List.getD_cons_succ]
        omega
      · rw [if_neg g, if_neg (by omega)]
        omega
theorem ml_mulT {q F : Nat → Int} {n T : Nat} (i : Nat) : ∀ k, k ≤ T + 1 → mulT q F n T k i = mlL (lsF (n + 1) F) (fun j => if T < j + k ∧ j ≤ T then q j else 0) i
  | 0, _ => by
    have e : (fun j => if T < j + 0 ∧ j ≤ T then q j else 0) = fun j => if j = T + 1 then 0 else 0 := by
      funext j
      rw [if_neg (by omega)]
      by_cases h : j = T + 1
      · rw [if_pos h]
      · rw [if_neg h]
    rw [e, ml_del]
    show 0 = _
    by_cases h : T + 1 ≤ i
    · rw [if_pos h, Int.zero_mul]
    · rw [if_neg h]
  | k + 1, hk => by
    have e : (fun j => if T < j + (k + 1) ∧ j ≤ T then q j else 0) = fun j => (if T < j + k ∧ j ≤ T then q j else 0) + (if j = T - k then q (T - k) else 0) := by
      funext j
      by_cases h : j = T - k
      · rw [if_pos h, if_pos (by omega), if_neg (by omega), h]; omega
      · rw [if_neg h]
        by_cases g : T < j + k ∧ j ≤ T
        · rw [if_pos g, if_pos (by omega)]; omega
        · rw [if_neg g, if_neg (by omega)]; rfl
    rw [e, ml_lin, ml_del, ← ml_mulT i k (by omega)]
    show mulT q F n T k i + _ = _
    refine congrArg (mulT q F n T k i + ·) ?_
    rw [lsF_at]
    by_cases h : T - k ≤ i
    · rw [if_pos h]
      by_cases g : i - (T - k) ≤ n
      · rw [if_pos ⟨h, g⟩, if_pos (by omega)]
      · rw [if_neg (fun x => g x.2), if_neg (by omega), Int.mul_zero]
    · rw [if_neg h, if_neg (fun x => h x.1)]
/-- the weight of a row up to its degree -/
def wgt (g : Nat → Int) (m : Nat) : Int := ipP (m + 1) g g
theorem wgt_div {q D g : Nat → Int} {n T : Nat} (h0 : D n ≠ 0) (hg : ∀ i, i ≤ T + n → g i = mulT q D n T (T + 1) i) : wgt q T ≤ wgt g (T + n) := by
  obtain ⟨q', eq'⟩ : ∃ q' : Nat → Int, q' = fun j => if T < j + (T + 1) ∧ j ≤ T then q j else 0 := ⟨_, rfl⟩
  have hq : ∀ j, j ≤ T → q' j = q j := fun j hj => by rw [eq']; exact if_pos (by omega)
  have hz : ∀ j, T + 1 ≤ j → q' j = 0 := fun j hj => by rw [eq']; exact if_neg (by omega)
  have L : (lsF (n + 1) D).length = n + 1 := lsF_len _ _
  have h1 := fock_le (N := T + 1 + (n + 1)) hz (D := lsF (n + 1) D) (n := n) (by omega) L (by rw [lsF_at, if_pos (by omega)]; exact h0)
  have e1 : ipP (T + 1 + (n + 1)) q' q' = wgt q T := by
    unfold wgt ipP
    rw [sgm_long (M := T + 1) (fun k hk => by rw [hz k hk, Int.zero_mul, Int.mul_zero]) (n + 1)]
    exact sgm_ext (fun k hk => by rw [hq k (by omega)])
  have e2 : ipP (T + 1 + (n + 1)) (mlL (lsF (n + 1) D) q') (mlL (lsF (n + 1) D) q') = wgt g (T + n) := by
    unfold wgt ipP
    rw [show T + 1 + (n + 1) = (T + n + 1) + 1 by omega]
    have e3 : mlL (lsF (n + 1) D) q' (T + n + 1) = 0 := by
      rw [eq', ← ml_mulT (T + n + 1) (T + 1) (Nat.le_refl _)]
      have h9 := mulT_stop (q := q) (F := D) (n := n) (T := T) (k := 0) (i := T + n + 1) (by omega) (T + 1) (by omega)
      rw [Nat.zero_add] at h9
      exact h9
    show sgm (fun k => fkF k * (mlL (lsF (n + 1) D) q' k * mlL (lsF (n + 1) D) q' k)) (T + n + 1) + fkF (T + n + 1) * (mlL (lsF (n + 1) D) q' (T + n + 1) * mlL (lsF (n + 1) D) q' (T + n + 1)) = _
    rw [e3, Int.zero_mul, Int.mul_zero, Int.add_zero]
    refine sgm_ext (fun k hk => ?_)
    rw [hg k (by omega), ml_mulT k (T + 1) (Nat.le_refl _), ← eq']
  omega
/-- no row of small weight has a great number -/
theorem wgt_b {q : Nat → Int} {T : Nat} (h : wgt q T ≤ 60000000000000000) {j : Nat} (hj : j ≤ T) : -1000000000 ≤ q j ∧ q j ≤ 1000000000 := by
  have h1 : fkF j * (q j * q j) ≤ wgt q T := sgm_one (f := fun k => fkF k * (q k * q k)) (by omega) (fun k _ => Int.mul_nonneg (by have := fkF_1 k; omega) (sq_nn9 _))
  have h2 : q j * q j ≤ fkF j * (q j * q j) := by
    have h3 := Int.mul_le_mul_of_nonneg_right (fkF_1 j) (sq_nn9 (q j))
    omega
  have h4 : q j * q j ≤ 60000000000000000 := by omega
  constructor
  · refine Int.not_lt.mp (fun g => ?_)
    have h5 := Int.mul_le_mul (show 1000000000 ≤ -q j by omega) (show 1000000000 ≤ -q j by omega) (by omega) (by omega)
    rw [Int.neg_mul_neg] at h5
    omega
  · refine Int.not_lt.mp (fun g => ?_)
    have h5 := Int.mul_le_mul (show 1000000000 ≤ q j by omega) (show 1000000000 ≤ q j by omega) (by omega) (by omega)
    omega
theorem wgt_ok {F : Nat → Int} {T : Nat} (hT : T ≤ 12) (hF : ∀ j, j ≤ T → -9999 ≤ F j ∧ F j ≤ 9999) : wgt F T ≤ 60000000000000000 := by
  have h1 : wgt F T ≤ sgm (fun k => 99980001 * fkF k) (T + 1) := sgm_le (fun k hk => by
    obtain ⟨g1, g2⟩ := hF k (by omega)
    have h3 : F k * F k ≤ 99980001 := by
      rcases Int.le_total 0 (F k) with g | g
      · have := Int.mul_le_mul g2 g2 g (by omega)
        omega
      · have := Int.mul_le_mul (show -F k ≤ 9999 by omega) (show -F k ≤ 9999 by omega) (by omega) (by omega)
        rw [Int.neg_mul_neg] at this
        omega
    have h4 := Int.mul_le_mul_of_nonneg_left h3 (show 0 ≤ fkF k by have := fkF_1 k; omega)
    rw [Int.mul_comm 99980001]
    exact h4)
  rw [sgm_mul] at h1
  have h5 : sgm fkF (T + 1) ≤ sgm fkF 13 := by
    have h6 : ∀ d, sgm fkF (T + 1) ≤ sgm fkF (T + 1 + d) := fun d => by
      induction d with
      | zero => exact Int.le_refl _
      | succ d ih =>
        have := fkF_1 (T + 1 + d)
        show _ ≤ sgm fkF (T + 1 + d) + fkF (T + 1 + d)
        omega
    have h7 := h6 (12 - T)
    rw [show T + 1 + (12 - T) = 13 by omega] at h7
    exact h7
  have h8 : sgm fkF 13 = 522956314 := by decide
  omega
/-- divided within 10^12 or within 10^9: the same -/
theorem dvm_ok {q D g : Nat → Int} {n T : Nat} (h0 : D n ≠ 0) (hw : wgt g (T + n) ≤ 60000000000000000) (h : divOm q D g n T) : divOk q D g n T ∧ wgt q T ≤ 60000000000000000 := by
  have h1 := Int.le_trans (wgt_div h0 h.2) hw
  exact ⟨⟨fun j hj => wgt_b h1 hj, h.2⟩, h1⟩
theorem dok_m {q D g : Nat → Int} {n T : Nat} (h : divOk q D g n T) : divOm q D g n T := ⟨fun j hj => by have := h.1 j hj; omega, h.2⟩
