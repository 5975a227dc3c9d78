/-! Sums along an order are sums over all that it holds. -/
theorem sumN_cg {f f2 : Nat → Nat} : ∀ n, (∀ k, k < n → f k = f2 k) → sumN f n = sumN f2 n
  | 0, _ => rfl
  | n + 1, h => by rw [sumN, sumN, sumN_cg n (fun k hk => h k (by omega)), h n (by omega)]
theorem sumN_0 : ∀ n, sumN (fun _ => 0) n = 0
  | 0 => rfl
  | n + 1 => by rw [sumN, sumN_0 n]
theorem sumN_add (f f2 : Nat → Nat) : ∀ n, sumN (fun k => f k + f2 k) n = sumN f n + sumN f2 n
  | 0 => rfl
  | n + 1 => by rw [sumN, sumN, sumN, sumN_add f f2 n]; omega
theorem sumN_swap (f : Nat → Nat → Nat) (n : Nat) : ∀ m, sumN (fun k => sumN (fun j => f k j) n) m = sumN (fun j => sumN (fun k => f k j) m) n
  | 0 => (sumN_0 n).symm
  | m + 1 => by
    rw [sumN, sumN_swap f n m, ← sumN_add]
    exact sumN_cg n (fun k _ => rfl)
theorem sumN_one {x : Nat} (v : Nat) : ∀ n, x < n → sumN (fun k => if k = x then v else 0) n = v
  | 0, h => absurd h (Nat.not_lt_zero _)
  | n + 1, h => by
    rw [sumN]
    by_cases e : n = x
    · rw [if_pos e, sumN_cg n (f2 := fun _ => 0) (fun k hk => if_neg (by omega)), sumN_0]
      omega
    · rw [if_neg e, sumN_one v n (by omega), Nat.add_zero]
theorem cnt_sum (p : Nat → Bool) : ∀ n, cntN p n = sumN (fun k => if p k then 1 else 0) n
  | 0 => rfl
  | n + 1 => by rw [cntN, sumN, cnt_sum p n]
theorem sum_full {c : Nat → Nat} : ∀ n, (∀ k, k < n → c k ≤ 1) → sumN c n = n → ∀ k, k < n → c k = 1
  | 0, _, _, k, h => absurd h (Nat.not_lt_zero _)
  | n + 1, h1, h2, k, h => by
    have a := sumN_le (f := c) (c := 1) n (fun j hj => h1 j (by omega))
    have b := h1 n (by omega)
    rw [sumN] at h2
    by_cases e : k = n
    · rw [e]; omega
    · exact sum_full n (fun j hj => h1 j (by omega)) (by omega) k (by omega)
/-- o is the order of those that E takes, by rk -/
def Ordr (E : Nat → Bool) (rk : Nat → Nat) (N : Nat) (o : Nat → Nat) : Prop := ∀ n, n < N → E n = true → o (pos E rk N n) = n
theorem pos_inj2 {E : Nat → Bool} {rk : Nat → Nat} {N m n : Nat} (hm : m < N) (hn : n < N) (hEm : E m = true) (hEn : E n = true) (h : pos E rk N m = pos E rk N n) : m = n := by
  rcases Nat.lt_trichotomy m n with q | q | q
  · exact absurd h.symm (pos_inj hm hn hEm hEn q)
  · exact q
  · exact absurd h (pos_inj hn hm hEn hEm q)
theorem cnt_1 {p : Nat → Bool} : ∀ N, (∀ m n, m < N → n < N → p m = true → p n = true → m = n) → cntN p N ≤ 1
  | 0, _ => Nat.zero_le _
  | N + 1, h => by
    have ih := cnt_1 N (fun m n hm hn => h m n (by omega) (by omega))
    rw [cntN]
    by_cases e : p N = true
    · rw [if_pos e, cnt_cg N (q := fun _ => false) (fun k hk => by
        cases q : p k
        · rfl
        · exact absurd (h k N (by omega) (by omega) q e) (by omega)), cnt_0 (fun _ => rfl)]
      omega
    · rw [if_neg e]; exact ih
theorem cnt_ex {p : Nat → Bool} : ∀ N, 0 < cntN p N → ∃ n, n < N ∧ p n = true
  | 0, h => absurd h (Nat.lt_irrefl _)
  | N + 1, h => by
    by_cases e : p N = true
    · exact ⟨N, by omega, e⟩
    · rw [cntN, if_neg e] at h
      obtain ⟨n, hn, hp⟩ := cnt_ex N h
      exact ⟨n, by omega, hp⟩
theorem pos_sur (E : Nat → Bool) (rk : Nat → Nat) (N : Nat) {k : Nat} (hk : k < cntN E N) : ∃ n, n < N ∧ E n = true ∧ pos E rk N n = k := by
  have h1 : sumN (fun k => cntN (fun n => E n && decide (pos E rk N n = k)) N) (cntN E N) = cntN E N := by
    rw [sumN_cg _ (f2 := fun k => sumN (fun n => if (E n && decide (pos E rk N n = k)) = true then 1 else 0) N) (fun k _ => cnt_sum _ N), sumN_swap]
    rw [show cntN E N = sumN (fun n => if E n then 1 else 0) N from cnt_sum E N]
    refine sumN_cg N (fun n hn => ?_)
    rw [← cnt_sum E N]
    cases e : E n
    · simp only [Bool.false_and, Bool.false_eq_true, if_false]; exact sumN_0 _
    · simp only [Bool.true_and, decide_eq_true_eq, if_true]
      rw [sumN_cg _ (f2 := fun k => if k = pos E rk N n then 1 else 0) (fun k _ => by
        by_cases q : pos E rk N n = k
        · rw [if_pos q, if_pos q.symm]
        · rw [if_neg q, if_neg (fun z => q z.symm)])]
      exact sumN_one 1 _ (pos_lt hn e)
  have h2 := sum_full _ (fun k _ => cnt_1 N (fun m n hm hn pm pn => by
    simp only [Bool.and_eq_true, decide_eq_true_eq] at pm pn
    exact pos_inj2 (rk := rk) hm hn pm.1 pn.1 (pm.2.trans pn.2.symm))) h1 k hk
  obtain ⟨n, hn, hp⟩ := cnt_ex N (show 0 < cntN (fun n => E n && decide (pos E rk N n = k)) N by omega)
  simp only [Bool.and_eq_true, decide_eq_true_eq] at hp
  exact ⟨n, hn, hp.1, hp.2⟩
theorem ord_in {E : Nat → Bool} {rk : Nat → Nat} {N : Nat} {o : Nat → Nat} (ho : Ordr E rk N o) {k : Nat} (hk : k < cntN E N) : o k < N ∧ E (o k) = true ∧ pos E rk N (o k) = k := by
  obtain ⟨n, hn, hE, e⟩ := pos_sur E rk N hk
  have := ho n hn hE
  rw [e] at this
  rw [this]
  exact ⟨hn, hE, e⟩
/-- a sum along the order -/
theorem ord_sum {E : Nat → Bool} {rk : Nat → Nat} {N : Nat} {o : Nat → Nat} (ho : Ordr E rk N o) (f : Nat → Nat) : sumN (fun k => f (o k)) (cntN E N) = sumN (fun n => if E n then f n else 0) N := by
  have h1 : sumN (fun k => f (o k)) (cntN E N) = sumN (fun k => sumN (fun n => if n = o k then f n else 0) N) (cntN E N) := by
    refine sumN_cg _ (fun k hk => ?_)
    have := (ord_in ho hk).1
    rw [sumN_cg N (f2 := fun n => if n = o k then f (o k) else 0) (fun n _ => by
      by_cases q : n = o k
      · rw [if_pos q, if_pos q, q]
      · rw [if_neg q, if_neg q])]
    exact (sumN_one (f (o k)) N this).symm
  rw [h1, sumN_swap]
  refine sumN_cg N (fun n hn => ?_)
  cases e : E n
  · simp only [Bool.false_eq_true, if_false]
    rw [sumN_cg _ (f2 := fun _ => 0) (fun k hk => if_neg (fun q => by
      have := (ord_in ho hk).2.1
      rw [← q, e] at this
      exact Bool.noConfusion this))]
    exact sumN_0 _
  · simp only [if_true]
    rw [sumN_cg _ (f2 := fun k => if k = pos E rk N n then f n else 0) (fun k hk => by
      by_cases q : n = o k
      · rw [if_pos q, if_pos (by rw [q]; exact (ord_in ho hk).2.2.symm)]
      · rw [if_neg q, if_neg (fun z => q (by rw [z]; exact (ho n hn e).symm))])]
    exact sumN_one _ _ (pos_lt hn e)
/-- the order itself is one -/
theorem ord_eq {E : Nat → Bool} {rk : Nat → Nat} {N : Nat} {o o2 : Nat → Nat} (ho : Ordr E rk N o) (ho2 : Ordr E rk N o2) {k : Nat} (hk : k < cntN E N) : o k = o2 k := by
  obtain ⟨n, hn, hE, e⟩ := pos_sur E rk N hk
  have h1 := ho n hn hE
  have h2 := ho2 n hn hE
  rw [e] at h1 h2
  rw [h1, h2]
/-- ranks by weight and weights themselves give the same places -/
theorem pos_cg {E : Nat → Bool} {rk rk2 : Nat → Nat} {N : Nat} (hl : ∀ m n, m < N → n < N → (rk m < rk n ↔ rk2 m < rk2 n)) {n : Nat} (hn : n < N) : pos E rk N n = pos E rk2 N n := by
  unfold pos cLt cEq
  refine congr (congrArg HAdd.hAdd ?_) ?_
  · exact cnt_cg N (fun k hk => by simp only [hl k n hk hn])
  · refine cnt_cg n (fun k hk => ?_)
    have h1 := hl k n (by omega) hn
    have h2 := hl n k hn (by omega)
    rw [show decide (rk k = rk n) = decide (rk2 k = rk2 n) from decide_eq_decide.mpr (by omega)]
