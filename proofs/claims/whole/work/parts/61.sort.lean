/-! Masks sorted by weight; their leaders; where each begins. -/
def Srt (w c : Nat → Nat) (m f : Nat) (s : Nat → Nat) : Prop := (∀ j, j < f → s j < m ∧ 0 < c (s j)) ∧ (∀ k, k < m → 0 < c k → ∃ j, j < f ∧ s j = k) ∧ (∀ i j, i < j → j < f → w (s j) ≤ w (s i)) ∧ ∀ i j, i < f → j < f → s i = s j → i = j
def insS (s : Nat → Nat) (a m : Nat) : Nat → Nat := fun j => if j < a then s j else if j = a then m else s (j - 1)
theorem ins_lt {s : Nat → Nat} {a m j : Nat} (h : j < a) : insS s a m j = s j := if_pos h
theorem ins_eq {s : Nat → Nat} {a m : Nat} : insS s a m a = m := by unfold insS; rw [if_neg (by omega), if_pos rfl]
theorem ins_gt {s : Nat → Nat} {a m j : Nat} (h : a < j) : insS s a m j = s (j - 1) := by unfold insS; rw [if_neg (by omega), if_neg (by omega)]
theorem srt_no {w c : Nat → Nat} {m f : Nat} {s : Nat → Nat} (h : Srt w c m f s) (hc : c m = 0) : Srt w c (m + 1) f s :=
  ⟨fun j hj => ⟨by have := (h.1 j hj).1; omega, (h.1 j hj).2⟩, fun k hk hp => h.2.1 k (by
    rcases Nat.lt_or_ge k m with q | q
    · exact q
    · rw [show k = m from by omega] at hp; omega) hp, h.2.2⟩
theorem srt_ins {w c : Nat → Nat} {m f a : Nat} {s : Nat → Nat} (h : Srt w c m f s) (hc : 0 < c m) (ha : a ≤ f) (hl : ∀ j, j < a → w m ≤ w (s j)) (hr : ∀ j, a ≤ j → j < f → w (s j) ≤ w m) : Srt w c (m + 1) (f + 1) (insS s a m) := by
  obtain ⟨h1, h2, h3, h4⟩ := h
  have hv : ∀ j, j < f + 1 → insS s a m j = m ∨ ∃ i, i < f ∧ insS s a m j = s i := fun j hj => by
    rcases Nat.lt_trichotomy j a with q | q | q
    · exact Or.inr ⟨j, by omega, ins_lt q⟩
    · subst q; exact Or.inl ins_eq
    · exact Or.inr ⟨j - 1, by omega, ins_gt q⟩
  refine ⟨fun j hj => ?_, fun k hk hp => ?_, fun i j hi hj => ?_, fun i j hi hj e => ?_⟩
  · rcases hv j hj with e | ⟨i, hi, e⟩
    · rw [e]; exact ⟨by omega, hc⟩
    · rw [e]; have := h1 i hi; exact ⟨by omega, this.2⟩
  · by_cases q : k = m
    · exact ⟨a, by omega, by rw [ins_eq, q]⟩
    · obtain ⟨j, hj, e⟩ := h2 k (by omega) hp
      by_cases q2 : j < a
      · exact ⟨j, by omega, by rw [ins_lt q2, e]⟩
      · exact ⟨j + 1, by omega, by rw [ins_gt (by omega), Nat.add_sub_cancel, e]⟩
  · rcases Nat.lt_trichotomy i a with q | q | q
    · rw [ins_lt q]
      rcases Nat.lt_trichotomy j a with r | r | r
      · rw [ins_lt r]; exact h3 i j hi (by omega)
      · subst r; rw [ins_eq]; exact hl i q
      · rw [ins_gt r]
        by_cases z : i = j - 1
        · rw [z]; exact Nat.le_refl _
        · exact h3 i (j - 1) (by omega) (by omega)
    · subst q
      rw [ins_eq, ins_gt hi]
      exact hr _ (by omega) (by omega)
    · rw [ins_gt q, ins_gt (by omega)]
      exact h3 (i - 1) (j - 1) (by omega) (by omega)
  · have hm : ∀ x, x < f → s x ≠ m := fun x hx q => by have := (h1 x hx).1; omega
    rcases Nat.lt_trichotomy i a with q | q | q <;> rcases Nat.lt_trichotomy j a with r | r | r
    · rw [ins_lt q, ins_lt r] at e; exact h4 i j (by omega) (by omega) e
    · subst r; rw [ins_lt q, ins_eq] at e; exact absurd e (hm i (by omega))
    · rw [ins_lt q, ins_gt r] at e; have := h4 i (j - 1) (by omega) (by omega) e; omega
    · subst q; rw [ins_eq, ins_lt r] at e; exact absurd e.symm (hm j (by omega))
    · omega
    · subst q; rw [ins_eq, ins_gt r] at e; exact absurd e.symm (hm (j - 1) (by omega))
    · rw [ins_gt q, ins_lt r] at e; have := h4 (i - 1) j (by omega) (by omega) e; omega
    · subst r; rw [ins_gt q, ins_eq] at e; exact absurd e (hm (i - 1) (by omega))
    · rw [ins_gt q, ins_gt r] at e; have := h4 (i - 1) (j - 1) (by omega) (by omega) e; omega
theorem srt_le {w c : Nat → Nat} {m f : Nat} {s : Nat → Nat} (h : Srt w c m f s) {i j : Nat} (hi : i ≤ j) (hj : j < f) : w (s j) ≤ w (s i) := by
  rcases Nat.eq_or_lt_of_le hi with e | e
  · rw [e]; exact Nat.le_refl _
  · exact h.2.2.1 i j e hj
/-- the leader of the mask at the place i -/
def Lf (w s : Nat → Nat) : Nat → Nat
  | 0 => s 0
  | i + 1 => if w (s (i + 1)) = w (Lf w s i) then Lf w s i else s (i + 1)
theorem Lf_w (w s : Nat → Nat) : ∀ i, w (Lf w s i) = w (s i)
  | 0 => rfl
  | i + 1 => by
    rw [Lf]
    split
    · rename_i h; exact h.symm
    · rfl
theorem Lf_in (w s : Nat → Nat) : ∀ i, ∃ j, j ≤ i ∧ Lf w s i = s j
  | 0 => ⟨0, Nat.le_refl _, rfl⟩
  | i + 1 => by
    obtain ⟨j, hj, e⟩ := Lf_in w s i
    rw [Lf]
    split
    · exact ⟨j, by omega, e⟩
    · exact ⟨i + 1, Nat.le_refl _, rfl⟩
theorem Lf_eq {w c : Nat → Nat} {m f : Nat} {s : Nat → Nat} (h : Srt w c m f s) {i : Nat} : ∀ k, i + k < f → w (s (i + k)) = w (s i) → Lf w s (i + k) = Lf w s i
  | 0, _, _ => rfl
  | k + 1, hk, e => by
    have h1 : w (s (i + k)) = w (s i) := by
      have a := srt_le h (i := i) (j := i + k) (by omega) (by omega)
      have b := srt_le h (i := i + k) (j := i + (k + 1)) (by omega) hk
      omega
    have ih := Lf_eq h k (by omega) h1
    show Lf w s (i + k + 1) = _
    rw [Lf, if_pos (by rw [Lf_w w s, h1, ← e]; rfl), ih]
theorem Lf_iff {w c : Nat → Nat} {m f : Nat} {s : Nat → Nat} (h : Srt w c m f s) {i j : Nat} (hi : i < f) (hj : j < f) : Lf w s i = Lf w s j ↔ w (s i) = w (s j) := by
  constructor
  · intro e
    rw [← Lf_w w s i, ← Lf_w w s j, e]
  · intro e
    rcases Nat.le_total i j with q | q
    · have := Lf_eq h (i := i) (j - i) (by omega) (by rw [show i + (j - i) = j from by omega]; exact e.symm)
      rw [show i + (j - i) = j from by omega] at this
      exact this.symm
    · have := Lf_eq h (i := j) (i - j) (by omega) (by rw [show j + (i - j) = i from by omega]; exact e)
      rwa [show j + (i - j) = i from by omega] at this
theorem cnt_or {p q : Nat → Bool} (hd : ∀ k, p k = true → q k = false) : ∀ n, cntN p n + cntN q n = cntN (fun k => p k || q k) n
  | 0 => rfl
  | n + 1 => by
    have ih := cnt_or hd n
    rw [cntN, cntN, cntN]
    cases e : p n
    · simp only [Bool.false_eq_true, if_false, Bool.false_or]; omega
    · rw [hd n e]
      simp only [Bool.false_eq_true, if_false, Bool.true_or, if_true]; omega
/-- is among the first i of s -/
def among (s : Nat → Nat) : Nat → Nat → Bool
  | 0, _ => false
  | i + 1, x => among s i x || decide (s i = x)
theorem among_iff (s : Nat → Nat) (x : Nat) : ∀ i, among s i x = true ↔ ∃ j, j < i ∧ s j = x
  | 0 => ⟨fun h => by simp [among] at h, fun ⟨j, h, _⟩ => absurd h (Nat.not_lt_zero _)⟩
  | i + 1 => by
    rw [among, Bool.or_eq_true, among_iff s x i, decide_eq_true_eq]
    constructor
    · rintro (⟨j, h, e⟩ | e)
      · exact ⟨j, by omega, e⟩
      · exact ⟨i, by omega, e⟩
    · rintro ⟨j, h, e⟩
      by_cases q : j = i
      · subst q; exact Or.inr e
      · exact Or.inl ⟨j, by omega, e⟩
def cMk (E : Nat → Bool) (H : Nat → Nat) (N m : Nat) : Nat := cntN (fun n => E n && decide (H n = m)) N
theorem sum_among {E : Nat → Bool} {H : Nat → Nat} {N f : Nat} {s : Nat → Nat} (hi : ∀ i j, i < f → j < f → s i = s j → i = j) : ∀ i, i ≤ f → sumN (fun j => cMk E H N (s j)) i = cntN (fun n => E n && among s i (H n)) N
  | 0, _ => by
    refine (cnt_0 (fun n => ?_) N).symm
    show (E n && false) = false
    rw [Bool.and_false]
  | i + 1, h => by
    rw [sumN, sum_among hi i (by omega)]
    refine (cnt_or (fun n e => ?_) N).trans (cnt_cg N (fun n _ => ?_))
    · simp only [Bool.and_eq_true] at e
      obtain ⟨j, hj, q⟩ := (among_iff s _ i).mp e.2
      refine Bool.and_eq_false_imp.mpr (fun _ => decide_eq_false (fun z => ?_))
      have := hi j i (by omega) (by omega) (q.trans z)
      omega
    · show (E n && among s i (H n) || E n && decide (H n = s i)) = (E n && among s (i + 1) (H n))
      rw [among, show decide (H n = s i) = decide (s i = H n) from decide_eq_decide.mpr ⟨Eq.symm, Eq.symm⟩]
      cases E n <;> simp
/-- where the masks with a weight begin -/
theorem srt_start {E : Nat → Bool} {H w : Nat → Nat} {N f i M : Nat} {s : Nat → Nat} (h : Srt w (cMk E H N) M f s) (hM : ∀ n, H n < M) (hw : ∀ m, w m ≤ 100000000) (hi : i < f) (hn : i = 0 ∨ w (s i) ≠ w (s (i - 1))) : sumN (fun j => cMk E H N (s j)) i = cLt E (fun n => 100000000 - w (H n)) (100000000 - w (s i)) N := by
  rw [sum_among h.2.2.2 i (by omega)]
  refine cnt_cg N (fun n hnN => ?_)
  cases e : E n with
  | false => rfl
  | true =>
    show among s i (H n) = decide (100000000 - w (H n) < 100000000 - w (s i))
    have hwa := hw (H n)
    have hwb := hw (s i)
    have hc : 0 < cMk E H N (H n) := Nat.lt_of_le_of_lt (Nat.zero_le _) (cnt_lt hnN (p := fun k => E k && decide (H k = H n)) (by simp [e]))
    obtain ⟨j, hj, q⟩ := h.2.1 (H n) (hM n) hc
    rw [Bool.eq_iff_iff, among_iff, decide_eq_true_eq]
    constructor
    · rintro ⟨k, hk, z⟩
      have h1 : w (s i) ≤ w (s (i - 1)) := srt_le h (by omega) hi
      have h2 : w (s (i - 1)) ≤ w (s k) := srt_le h (by omega) (by omega)
      rw [z] at h2
      omega
    · intro z
      refine ⟨j, Nat.lt_of_not_le (fun r => ?_), q⟩
      have := srt_le h r hj
      rw [q] at this
      omega
theorem cEq_cg {E : Nat → Bool} {H w : Nat → Nat} (n a b : Nat) (h : w a = w b) : cLt E (fun n => 100000000 - w (H n)) (100000000 - w a) n = cLt E (fun n => 100000000 - w (H n)) (100000000 - w b) n := by rw [h]
