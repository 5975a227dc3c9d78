/-! Rows of two numbers, by halves and at once. -/
theorem sum_mul (c : Nat) (f : Nat → Nat) : ∀ n, sumN (fun k => c * f k) n = c * sumN f n
  | 0 => rfl
  | n + 1 => by rw [sumN, sumN, sum_mul c f n, Nat.mul_add]
theorem ul_div {L u v : Nat} (hv : v < L) : (u * L + v) / L = u ∧ (u * L + v) % L = v := by
  rw [Nat.mul_comm u L]
  exact ⟨by rw [Nat.mul_add_div (by omega), Nat.div_eq_of_lt hv, Nat.add_zero], by rw [Nat.mul_add_mod, Nat.mod_eq_of_lt hv]⟩
theorem ul_lt {U L u v : Nat} (hu : u < U) (hv : v < L) : u * L + v < U * L := dig_lt hu hv
def i01 (p : Prop) [Decidable p] : Nat := if p then 1 else 0
theorem i01_and {p q : Prop} [Decidable p] [Decidable q] : i01 (p ∧ q) = i01 p * i01 q := by
  unfold i01
  by_cases hp : p <;> by_cases hq : q <;> simp [hp, hq]
theorem cnt_01 (p : Nat → Prop) [∀ n, Decidable (p n)] (n : Nat) : cntN (fun k => decide (p k)) n = sumN (fun k => i01 (p k)) n := by
  rw [cnt_sum]
  refine sumN_cg n (fun k _ => ?_)
  unfold i01
  by_cases h : p k <;> simp [h]
/-- rows of two numbers, as a sum over four halves -/
theorem row2_sum {g : ShG} (hg : ShW g) {a s1 s2 : Nat} (ha : a < tot g) : fRow2 g a s1 s2 = sumN (fun u => sumN (fun v => sumN (fun u2 => sumN (fun v2 => i01 (t2 g 0 (a / lwr g) u + t2 g 2 (a % lwr g) v = s1) * i01 (t2 g 0 u u2 + t2 g 2 v v2 = s2)) (lwr g)) (upp g)) (lwr g)) (upp g) := by
  have hl := lwr_b hg
  unfold fRow2
  rw [tot_ul, sum_ul _ (lwr g) (by omega)]
  refine sumN_cg _ (fun u hu => sumN_cg _ (fun v hv => ?_))
  have hn : u * lwr g + v < tot g := by rw [tot_ul]; exact ul_lt hu hv
  have e1 := ul_div (u := u) hv
  have ht : trn g a (u * lwr g + v) = t2 g 0 (a / lwr g) u + t2 g 2 (a % lwr g) v := by rw [trn_ul hg ha hn, e1.1, e1.2]
  rw [ht, cnt_01, sum_ul _ (lwr g) (by omega)]
  have hin : ∀ u2, u2 < upp g → ∀ v2, v2 < lwr g → trn g (u * lwr g + v) (u2 * lwr g + v2) = t2 g 0 u u2 + t2 g 2 v v2 := fun u2 hu2 v2 hv2 => by
    have e2 := ul_div (u := u2) hv2
    rw [trn_ul hg hn (by rw [tot_ul]; exact ul_lt hu2 hv2), e1.1, e1.2, e2.1, e2.2]
  by_cases h : t2 g 0 (a / lwr g) u + t2 g 2 (a % lwr g) v = s1
  · rw [if_pos h]
    refine sumN_cg _ (fun u2 hu2 => sumN_cg _ (fun v2 hv2 => ?_))
    rw [hin u2 hu2 v2 hv2, show i01 (t2 g 0 (a / lwr g) u + t2 g 2 (a % lwr g) v = s1) = 1 from if_pos h, Nat.one_mul]
  · rw [if_neg h, sumN_cg _ (f2 := fun _ => 0) (fun u2 _ => ?_), sumN_0]
    rw [sumN_cg _ (f2 := fun _ => 0) (fun v2 _ => ?_), sumN_0]
    rw [show i01 (t2 g 0 (a / lwr g) u + t2 g 2 (a % lwr g) v = s1) = 0 from if_neg h, Nat.zero_mul]
