/-! Turns are those of both halves. -/
def upp (g : ShG) : Nat := sF g 0 * sF g 1
def lwr (g : ShG) : Nat := sF g 2 * sF g 3
theorem tot_ul (g : ShG) : tot g = upp g * lwr g := by unfold tot upp lwr; rw [Nat.mul_assoc]
theorem upp_b {g : ShG} (h : ShW g) : 1 ≤ upp g ∧ upp g ≤ 100 := mul_b (sF_b h 0) (sF_b h 1)
theorem lwr_b {g : ShG} (h : ShW g) : 1 ≤ lwr g ∧ lwr g ≤ 100 := mul_b (sF_b h 2) (sF_b h 3)
theorem fgo_hi {g : ShG} (h : ShW g) {w : Nat} (hw : sW g ≤ w) (n : Nat) : fgo g n w = 0 := by
  have := fgo_lt h n w
  have := (h.2.2.1 w hw).1
  omega
theorem trn_4 {g : ShG} (h : ShW g) (a b : Nat) : trn g a b = sumN (fun w => tnw g w (fgo g a w) (fgo g b w)) 4 := by
  have h4 := h.1
  have := sumN_cut (f := fun w => tnw g w (fgo g a w) (fgo g b w)) (k := sW g) (fun c hc => by
    show tnw g c (fgo g a c) (fgo g b c) = 0
    rw [fgo_hi h hc a, fgo_hi h hc b]
    exact tnw_0 g c 0) (4 - sW g)
  rw [show sW g + (4 - sW g) = 4 from by omega] at this
  exact this.symm
theorem trn_ul {g : ShG} (h : ShW g) {a b : Nat} (ha : a < tot g) (hb : b < tot g) : trn g a b = t2 g 0 (a / lwr g) (b / lwr g) + t2 g 2 (a % lwr g) (b % lwr g) := by
  have h1 : ∀ {x}, x < tot g → fgo g x 0 = x / lwr g / sF g 1 := fun {x} hx => by
    have hf := sF_b h 1
    have hl := lwr_b h
    show x / (sF g 1 * (sF g 2 * sF g 3)) % sF g 0 = _
    rw [show sF g 1 * (sF g 2 * sF g 3) = lwr g * sF g 1 from Nat.mul_comm _ _, ← Nat.div_div_eq_div_mul]
    refine Nat.mod_eq_of_lt (div_lt2 (div_lt2 ?_))
    rw [tot_ul] at hx
    exact hx
  have h2 : ∀ x, fgo g x 1 = x / lwr g % sF g 1 := fun x => rfl
  have h3 : ∀ x, fgo g x 2 = x % lwr g / sF g 3 := fun x => (Nat.mod_mul_left_div_self _ _ _).symm
  have h4 : ∀ x, fgo g x 3 = x % lwr g % sF g 3 := fun x => by
    show x / 1 % sF g 3 = x % (sF g 2 * sF g 3) % sF g 3
    rw [Nat.div_one, Nat.mod_mul_left_mod]
  rw [trn_4 h]
  show 0 + tnw g 0 (fgo g a 0) (fgo g b 0) + tnw g 1 (fgo g a 1) (fgo g b 1) + tnw g 2 (fgo g a 2) (fgo g b 2) + tnw g 3 (fgo g a 3) (fgo g b 3) = _
  rw [h1 ha, h1 hb, h2, h2, h3, h3, h4, h4]
  simp only [t2, Nat.reduceAdd, Nat.zero_add]
  omega
theorem pr2_0 {g : ShG} (h : ShW g) {n : Nat} (hn : n < tot g) : pr2 g n 0 = n / lwr g := by
  have hf := sF_b h 1
  have e : fgo g n 0 = n / lwr g / sF g 1 := by
    show n / (sF g 1 * (sF g 2 * sF g 3)) % sF g 0 = _
    rw [show sF g 1 * (sF g 2 * sF g 3) = lwr g * sF g 1 from Nat.mul_comm _ _, ← Nat.div_div_eq_div_mul]
    refine Nat.mod_eq_of_lt (div_lt2 (div_lt2 ?_))
    rw [tot_ul] at hn
    exact hn
  unfold pr2
  rw [e, show fgo g n (0 + 1) = n / lwr g % sF g 1 from rfl, Nat.mul_comm]
  exact Nat.div_add_mod _ _
theorem pr2_2 {g : ShG} (n : Nat) : pr2 g n 2 = n % lwr g := by
  have e : fgo g n 2 = n % lwr g / sF g 3 := (Nat.mod_mul_left_div_self _ _ _).symm
  have e2 : fgo g n 3 = n % lwr g % sF g 3 := by
    show n / 1 % sF g 3 = n % (sF g 2 * sF g 3) % sF g 3
    rw [Nat.div_one, Nat.mod_mul_left_mod]
  unfold pr2
  rw [e, show fgo g n (2 + 1) = n % lwr g % sF g 3 from e2, Nat.mul_comm]
  exact Nat.div_add_mod _ _
/-- a sum over all numbers is one over both halves -/
theorem sum_ul (f : Nat → Nat) (L : Nat) (hL : 0 < L) : ∀ U, sumN f (U * L) = sumN (fun u => sumN (fun v => f (u * L + v)) L) U
  | 0 => by rw [Nat.zero_mul]; rfl
  | U + 1 => by
    have hs : ∀ j, sumN f (U * L + j) = sumN f (U * L) + sumN (fun v => f (U * L + v)) j := fun j => by
      induction j with
      | zero => rfl
      | succ j ih => rw [← Nat.add_assoc, sumN, ih, sumN]; omega
    rw [Nat.succ_mul, hs L, sum_ul f L hL U, sumN]
/-- how many rows of two numbers take just these seconds -/
def fRow2 (g : ShG) (a s1 s2 : Nat) : Nat := sumN (fun n => if trn g a n = s1 then cntN (fun m => decide (trn g n m = s2)) (tot g) else 0) (tot g)
