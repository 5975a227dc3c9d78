/-! Ranks go by weight; what is left, for both. -/
theorem dif_or (f : Nat → Nat) (i : Nat) : ∀ k, dif f i k = true ∨ ∃ j, j < k ∧ f j = f i
  | 0 => Or.inl rfl
  | k + 1 => by
    rcases dif_or f i k with h | ⟨j, hj, e⟩
    · by_cases q : f k = f i
      · exact Or.inr ⟨k, by omega, q⟩
      · refine Or.inl ?_
        rw [dif, h, decide_eq_true q]; rfl
    · exact Or.inr ⟨j, by omega, e⟩
theorem dif_first (f : Nat → Nat) : ∀ n a, a ≤ n → ∃ i, i ≤ a ∧ f i = f a ∧ dif f i i = true
  | 0, a, h => ⟨a, Nat.le_refl _, rfl, by rw [show a = 0 from by omega]; rfl⟩
  | n + 1, a, h => by
    rcases dif_or f a a with q | ⟨j, hj, e⟩
    · exact ⟨a, Nat.le_refl _, rfl, q⟩
    · obtain ⟨i, hi, e2, d⟩ := dif_first f n j (by omega)
      exact ⟨i, by omega, e2.trans e, d⟩
theorem cnt_slt {p q : Nat → Bool} (h : ∀ k, p k = true → q k = true) {i : Nat} (hp : p i = false) (hq : q i = true) : ∀ n, i < n → cntN p n < cntN q n
  | 0, hi => absurd hi (Nat.not_lt_zero _)
  | n + 1, hi => by
    rw [cntN, cntN]
    by_cases e : i = n
    · subst e
      rw [hp, hq]
      have := cnt_mono h i
      simp only [Bool.false_eq_true, if_false, if_true]
      omega
    · have := cnt_slt h hp hq n (by omega)
      by_cases e2 : p n = true
      · rw [if_pos e2, if_pos (h n e2)]; omega
      · rw [if_neg e2]; omega
theorem rk_iff (f : Nat → Nat) {a b n : Nat} (ha : a < n) (_ : b < n) : rkF f a n < rkF f b n ↔ f b < f a := by
  constructor
  · intro h
    refine Classical.byContradiction fun q => ?_
    have : rkF f b n ≤ rkF f a n := cnt_mono (fun k h => by
      simp only [Bool.and_eq_true, decide_eq_true_eq] at h ⊢
      exact ⟨h.1, by omega⟩) n
    omega
  · intro h
    obtain ⟨i, hi, e, d⟩ := dif_first f a a (Nat.le_refl _)
    refine cnt_slt (i := i) (fun k q => ?_) ?_ ?_ n (by omega)
    · simp only [Bool.and_eq_true, decide_eq_true_eq] at q ⊢
      exact ⟨q.1, by omega⟩
    · rw [d, decide_eq_false (by omega)]; rfl
    · rw [d, decide_eq_true (by omega)]; rfl
/-- the more the weight, the less the key -/
def key (g : ShG) (kn n : Nat) : Nat := 100000000 - wtK g kn (sH g n)
theorem key_iff {g : ShG} (h : ShW g) (kn m n : Nat) : rkN g kn m < rkN g kn n ↔ key g kn m < key g kn n := by
  have h1 := wtK_b h kn (sH g m)
  have h2 := wtK_b h kn (sH g n)
  unfold rkN key
  rw [rk_iff _ (hH h m) (hH h n)]
  omega
/-- those left are the model's, with all clues and what was felt -/
theorem elg_lft {g : ShG} {l : LkG} (hg : ShW g) (hl : LkW g l) (n : Nat) : elg g l (evr g) true n = lft g l n := by
  have h1 := sH_b hg n
  have h2 := hl.2.2.1 n
  have h3 := agr_le g l n (sW g)
  have h4 : agA g l n ≤ 1 := h3
  unfold elg lft cel nol wtA
  rw [Bool.eq_iff_iff]
  simp only [Bool.and_eq_true, decide_eq_true_eq, Bool.not_true, Bool.false_or]
  split <;> omega
/-- the model's order, as numbers -/
def ordOf (h : Hp) (k : Nat) : Nat := (rI h 140 k).toNatClampNeg
theorem mo_ord {E : Nat → Bool} {g : ShG} {kn : Nat} {h : Hp} (hg : ShW g) (mo : MO E g kn h) : Ordr E (rkN g kn) (tot g) (ordOf h) := fun n hn hE => by
  have := tot_b hg
  rw [ordOf, mo.2 n hn hE, nI_clamp (by omega)]
theorem mo_at {E : Nat → Bool} {g : ShG} {kn : Nat} {h : Hp} (hg : ShW g) (mo : MO E g kn h) {k : Nat} (hk : k < cntN E (tot g)) : rI h 140 (nI k).toNatClampNeg = nI (ordOf h k) := by
  have ht := tot_b hg
  have hc := cntN_le E (tot g)
  obtain ⟨n, hn, hE, e⟩ := pos_sur E (rkN g kn) (tot g) hk
  have := mo.2 n hn hE
  rw [e] at this
  rw [nI_clamp (by omega), ordOf, this, nI_clamp (by omega)]
