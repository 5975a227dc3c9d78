/-! Rows of two numbers: the halves meet. -/
theorem i01_0 {p q : Prop} [Decidable p] [Decidable q] (h : ¬ (p ∧ q)) : i01 p * i01 q = 0 := by rw [← i01_and]; exact if_neg h
theorem wq_sum {g : ShG} (hg : ShW g) {sa s1 s2 t t' : Nat} (hsa : sa < upp g) : wyQ (wyF g sa (upp g) 0) s1 t s2 t' = sumN (fun u => sumN (fun u2 => i01 (t2 g 0 sa u + t = s1) * i01 (t2 g 0 u u2 + t' = s2)) (upp g)) (upp g) := by
  unfold wyQ
  by_cases h : t ≤ s1 ∧ s1 - t < 163 ∧ t' ≤ s2 ∧ s2 - t' < 163
  · rw [if_pos h]
    unfold wyF
    have e0 : (if t2 g 0 sa (upp g) = s1 - t then cntN (fun b => decide (t2 g 0 (upp g) b = s2 - t')) 0 else 0) = 0 := by split <;> rfl
    rw [e0, Nat.add_zero]
    refine sumN_cg _ (fun u _ => ?_)
    by_cases h1 : t2 g 0 sa u = s1 - t
    · rw [if_pos h1, cnt_01]
      refine sumN_cg _ (fun u2 _ => ?_)
      rw [show i01 (t2 g 0 sa u + t = s1) = 1 from if_pos (by omega), Nat.one_mul]
      unfold i01
      by_cases h2 : t2 g 0 u u2 = s2 - t'
      · rw [if_pos h2, if_pos (by omega)]
      · rw [if_neg h2, if_neg (by omega)]
    · rw [if_neg h1]
      rw [sumN_cg _ (f2 := fun _ => 0) (fun u2 _ => ?_), sumN_0]
      rw [show i01 (t2 g 0 sa u + t = s1) = 0 from if_neg (by omega), Nat.zero_mul]
  · rw [if_neg h]
    rw [sumN_cg _ (f2 := fun _ => 0) (fun u hu => ?_), sumN_0]
    rw [sumN_cg _ (f2 := fun _ => 0) (fun u2 hu2 => ?_), sumN_0]
    refine i01_0 (fun q => h ?_)
    have b1 := t2_b (w := 0) hg (x := sa) (y := u) hsa hu
    have b2 := t2_b (w := 0) hg (x := u) (y := u2) hu hu2
    omega
theorem fPair_row {g : ShG} (hg : ShW g) {a s1 s2 : Nat} (ha : a < tot g) : fPair g a s1 s2 = fRow2 g a s1 s2 := by
  have hl := lwr_b hg
  have hA : a / lwr g < upp g := by rw [tot_ul] at ha; exact div_lt2 ha
  rw [row2_sum hg ha]
  unfold fPair wQ
  rw [pr2_0 hg ha, pr2_2]
  have e1 : ∀ v, v < lwr g → sumN (fun v2 => wyQ (wyF g (a / lwr g) (upp g) 0) s1 (t2 g 2 (a % lwr g) v) s2 (t2 g 2 v v2)) (lwr g) = sumN (fun u => sumN (fun u2 => sumN (fun v2 => i01 (t2 g 0 (a / lwr g) u + t2 g 2 (a % lwr g) v = s1) * i01 (t2 g 0 u u2 + t2 g 2 v v2 = s2)) (lwr g)) (upp g)) (upp g) := fun v _ => by
    rw [sumN_cg _ (fun v2 _ => wq_sum hg (s1 := s1) (s2 := s2) (t := t2 g 2 (a % lwr g) v) (t' := t2 g 2 v v2) hA)]
    rw [sumN_swap (fun v2 u => sumN (fun u2 => i01 (t2 g 0 (a / lwr g) u + t2 g 2 (a % lwr g) v = s1) * i01 (t2 g 0 u u2 + t2 g 2 v v2 = s2)) (upp g)) (upp g) (lwr g)]
    exact sumN_cg _ (fun u _ => sumN_swap (fun v2 u2 => i01 (t2 g 0 (a / lwr g) u + t2 g 2 (a % lwr g) v = s1) * i01 (t2 g 0 u u2 + t2 g 2 v v2 = s2)) (upp g) (lwr g))
  rw [sumN_cg _ e1]
  exact sumN_swap (fun v u => sumN (fun u2 => sumN (fun v2 => i01 (t2 g 0 (a / lwr g) u + t2 g 2 (a % lwr g) v = s1) * i01 (t2 g 0 u u2 + t2 g 2 v v2 = s2)) (lwr g)) (upp g)) (upp g) (lwr g)
