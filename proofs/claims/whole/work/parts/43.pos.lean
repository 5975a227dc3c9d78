/-! Places in an order: by rank, then by number. -/
theorem cnt_mono {p q : Nat → Bool} (h : ∀ k, p k = true → q k = true) : ∀ n, cntN p n ≤ cntN q n
  | 0 => Nat.le_refl _
  | n + 1 => by
    have := cnt_mono h n
    rw [cntN, cntN]
    by_cases e : p n = true
    · rw [if_pos e, if_pos (h n e)]; omega
    · rw [if_neg e]; omega
theorem cnt_up (p : Nat → Bool) {m n : Nat} (h : m ≤ n) : cntN p m ≤ cntN p n := by
  induction n with
  | zero => rw [show m = 0 from by omega]; exact Nat.le_refl _
  | succ n ih =>
    by_cases e : m = n + 1
    · rw [e]; exact Nat.le_refl _
    · have := ih (by omega)
      rw [cntN]
      omega
theorem cnt_lt {p : Nat → Bool} {m n : Nat} (h : m < n) (hp : p m = true) : cntN p m < cntN p n := by
  have h1 := cnt_up p (show m + 1 ≤ n from h)
  rw [cntN, if_pos hp] at h1
  omega
theorem cnt_cg {p q : Nat → Bool} : ∀ n, (∀ k, k < n → p k = q k) → cntN p n = cntN q n
  | 0, _ => rfl
  | n + 1, h => by rw [cntN, cntN, cnt_cg n (fun k hk => h k (by omega)), h n (by omega)]
theorem cnt_0 {p : Nat → Bool} (h : ∀ k, p k = false) : ∀ n, cntN p n = 0
  | 0 => rfl
  | n + 1 => by rw [cntN, cnt_0 h n, h n]; rfl
theorem cnt_nlt {p : Nat → Bool} {m n : Nat} (h : m < n) (hp : p m = false) : cntN p n < n := by
  induction n with
  | zero => omega
  | succ n ih =>
    by_cases e : m = n
    · subst e
      have := cntN_le p m
      rw [cntN, hp]
      simp only [Bool.false_eq_true, if_false]
      omega
    · have := ih (by omega)
      rw [cntN]
      split <;> omega
def cEq (E : Nat → Bool) (rk : Nat → Nat) (r n : Nat) : Nat := cntN (fun m => E m && decide (rk m = r)) n
def cLt (E : Nat → Bool) (rk : Nat → Nat) (r n : Nat) : Nat := cntN (fun m => E m && decide (rk m < r)) n
theorem c_split (E : Nat → Bool) (rk : Nat → Nat) (r : Nat) : ∀ n, cEq E rk r n + cLt E rk r n = cLt E rk (r + 1) n
  | 0 => rfl
  | n + 1 => by
    have ih := c_split E rk r n
    unfold cEq cLt at *
    rw [cntN, cntN, cntN]
    cases E n
    · simp only [Bool.false_and, Bool.false_eq_true, if_false]; omega
    · simp only [Bool.true_and, decide_eq_true_eq]
      repeat' split
      all_goals omega
theorem cLt_le (E : Nat → Bool) (rk : Nat → Nat) (r n : Nat) : cLt E rk r n ≤ cntN E n := cnt_mono (fun k h => by simp only [Bool.and_eq_true] at h; exact h.1) n
theorem cLt_mono (E : Nat → Bool) (rk : Nat → Nat) {r s : Nat} (h : r ≤ s) (n : Nat) : cLt E rk r n ≤ cLt E rk s n := cnt_mono (fun k q => by simp only [Bool.and_eq_true, decide_eq_true_eq] at q ⊢; exact ⟨q.1, by omega⟩) n
def pos (E : Nat → Bool) (rk : Nat → Nat) (N n : Nat) : Nat := cLt E rk (rk n) N + cEq E rk (rk n) n
theorem ceq_lt {E : Nat → Bool} {rk : Nat → Nat} {m n : Nat} (h : m < n) (hE : E m = true) : cEq E rk (rk m) m < cEq E rk (rk m) n := cnt_lt h (by simp [hE])
theorem pos_up {E : Nat → Bool} {rk : Nat → Nat} {N n : Nat} (h : n < N) (hE : E n = true) : pos E rk N n < cLt E rk (rk n + 1) N := by
  have h1 := ceq_lt (rk := rk) h hE
  have h2 := c_split E rk (rk n) N
  unfold pos
  omega
theorem pos_lt {E : Nat → Bool} {rk : Nat → Nat} {N n : Nat} (h : n < N) (hE : E n = true) : pos E rk N n < cntN E N := Nat.lt_of_lt_of_le (pos_up h hE) (cLt_le E rk _ N)
theorem pos_rk {E : Nat → Bool} {rk : Nat → Nat} {N m n : Nat} (hm : m < N) (hE : E m = true) (h : rk m < rk n) : pos E rk N m < pos E rk N n := by
  have h1 := pos_up (rk := rk) hm hE
  have h2 := cLt_mono E rk (show rk m + 1 ≤ rk n from h) N
  have h3 : cLt E rk (rk n) N ≤ pos E rk N n := Nat.le_add_right _ _
  omega
theorem pos_inj {E : Nat → Bool} {rk : Nat → Nat} {N m n : Nat} (hm : m < N) (hn : n < N) (hEm : E m = true) (hEn : E n = true) (h : m < n) : pos E rk N n ≠ pos E rk N m := by
  rcases Nat.lt_trichotomy (rk m) (rk n) with q | q | q
  · have := pos_rk (rk := rk) hm hEm q; omega
  · have h1 := ceq_lt (rk := rk) h hEm
    unfold pos
    rw [q] at h1 ⊢
    omega
  · have := pos_rk (rk := rk) hn hEn q; omega
def bgA (E : Nat → Bool) (rk : Nat → Nat) (n : Nat) : Nat → Nat
  | 0 => 0
  | r + 1 => cEq E rk r n
theorem bg_no {E : Nat → Bool} {rk : Nat → Nat} {n : Nat} (h : E n = false) (j : Nat) : bgA E rk (n + 1) j = bgA E rk n j := by
  cases j with
  | zero => rfl
  | succ r => exact (cn_n rfl (by show (E n && _) = false; rw [h]; rfl)).symm
theorem bg_hit {E : Nat → Bool} {rk : Nat → Nat} {n : Nat} (h : E n = true) : bgA E rk n (rk n + 1) + 1 = bgA E rk (n + 1) (rk n + 1) := cn_y rfl (by show (E n && decide _) = true; rw [h, decide_eq_true rfl]; rfl)
theorem bg_miss {E : Nat → Bool} {rk : Nat → Nat} {n j : Nat} (h : j ≠ rk n + 1) : bgA E rk (n + 1) j = bgA E rk n j := by
  cases j with
  | zero => rfl
  | succ r => exact (cn_n rfl (by show (E n && decide (rk n = r)) = false; rw [decide_eq_false (fun q => h (by omega)), Bool.and_false])).symm
def pfx (E : Nat → Bool) (rk : Nat → Nat) (N k j : Nat) : Nat := if j ≤ k then cLt E rk j N else bgA E rk N j
theorem pfx_0 (E : Nat → Bool) (rk : Nat → Nat) (N j : Nat) : pfx E rk N 0 j = bgA E rk N j := by
  unfold pfx
  by_cases h : j ≤ 0
  · rw [if_pos h, show j = 0 from by omega]
    exact cnt_0 (fun k => by simp) N
  · rw [if_neg h]
theorem pfx_s (E : Nat → Bool) (rk : Nat → Nat) (N k : Nat) : pfx E rk N k (k + 1) + pfx E rk N k k = pfx E rk N (k + 1) (k + 1) := by
  unfold pfx
  rw [if_neg (by omega), if_pos (Nat.le_refl _), if_pos (Nat.le_refl _)]
  exact c_split E rk k N
theorem pfx_o (E : Nat → Bool) (rk : Nat → Nat) (N k j : Nat) (h : j ≠ k + 1) : pfx E rk N (k + 1) j = pfx E rk N k j := by
  unfold pfx
  by_cases h2 : j ≤ k
  · rw [if_pos h2, if_pos (by omega)]
  · rw [if_neg h2, if_neg (by omega)]
theorem pfx_b (E : Nat → Bool) (rk : Nat → Nat) (N k j : Nat) : pfx E rk N k j ≤ N := by
  unfold pfx
  split
  · exact cntN_le _ N
  · cases j with
    | zero => exact Nat.zero_le _
    | succ r => exact cntN_le _ N
theorem bg_b (E : Nat → Bool) (rk : Nat → Nat) (n j : Nat) : bgA E rk n j ≤ n := by
  cases j with
  | zero => exact Nat.zero_le _
  | succ r => exact cntN_le _ n
def fnB (E : Nat → Bool) (rk : Nat → Nat) (N n j : Nat) : Nat := cLt E rk j N + cEq E rk j n
theorem fn_no {E : Nat → Bool} {rk : Nat → Nat} {N n : Nat} (h : E n = false) (j : Nat) : fnB E rk N (n + 1) j = fnB E rk N n j := congrArg (cLt E rk j N + ·) (bg_no (rk := rk) h (j + 1))
theorem fn_hit {E : Nat → Bool} {rk : Nat → Nat} {N n : Nat} (h : E n = true) : fnB E rk N n (rk n) + 1 = fnB E rk N (n + 1) (rk n) := by
  have : cEq E rk (rk n) n + 1 = cEq E rk (rk n) (n + 1) := bg_hit (rk := rk) h
  unfold fnB
  omega
theorem fn_miss {E : Nat → Bool} {rk : Nat → Nat} {N n j : Nat} (h : j ≠ rk n) : fnB E rk N (n + 1) j = fnB E rk N n j := congrArg (cLt E rk j N + ·) (bg_miss (rk := rk) (j := j + 1) (by omega))
theorem fn_0 (E : Nat → Bool) (rk : Nat → Nat) (N j : Nat) : fnB E rk N 0 j = cLt E rk j N := rfl
theorem rkF_lt {f : Nat → Nat} {m n : Nat} (h : m < n) : rkF f m n < n := cnt_nlt h (by show (_ && decide (f m < f m)) = false; rw [decide_eq_false (by omega), Bool.and_false])
