/-! The model: the sure figure. -/
theorem sr_spec {p : Nat → Bool} {f : Nat → Nat} : ∀ n o, srF p f n = some o → ∀ k, k < n → p k = true → o = some (f k)
  | 0, _, _, k, h, _ => absurd h (Nat.not_lt_zero _)
  | n + 1, o, h, k, hk, hp => by
    rw [srF] at h
    split at h
    · simp at h
    · rename_i o2 e
      have ih := sr_spec n o2 e
      split at h
      · split at h
        · simp at h
          subst h
          by_cases q : k = n
          · rw [q]
          · exact absurd (ih k (by omega) hp) (by simp)
        · rename_i b
          split at h
          · rename_i hb
            simp at h
            subst h
            by_cases q : k = n
            · rw [q, hb]
            · exact ih k (by omega) hp
          · simp at h
      · rename_i hpn
        simp at h
        subst h
        by_cases q : k = n
        · exact absurd (q ▸ hp) hpn
        · exact ih k (by omega) hp
theorem sr_conf {p : Nat → Bool} {f : Nat → Nat} : ∀ n, (srF p f n = none → ∃ a b, a < n ∧ b < n ∧ p a = true ∧ p b = true ∧ f a ≠ f b) ∧ (∀ b, srF p f n = some (some b) → ∃ a, a < n ∧ p a = true ∧ f a = b)
  | 0 => ⟨fun h => by simp [srF] at h, fun b h => by simp [srF] at h⟩
  | n + 1 => by
    have ih := sr_conf (p := p) (f := f) n
    constructor
    · intro h
      rw [srF] at h
      split at h
      · rename_i e
        obtain ⟨a, b, h1, h2, h3⟩ := ih.1 e
        exact ⟨a, b, by omega, by omega, h3⟩
      · rename_i o2 e
        split at h
        · rename_i hp
          split at h
          · simp at h
          · rename_i b
            split at h
            · simp at h
            · rename_i hb
              obtain ⟨a, h1, h2, h3⟩ := ih.2 b e
              exact ⟨a, n, by omega, by omega, h2, hp, by rw [h3]; exact hb⟩
        · simp at h
    · intro b h
      rw [srF] at h
      split at h
      · simp at h
      · rename_i o2 e
        split at h
        · rename_i hp
          split at h
          · simp at h
            exact ⟨n, by omega, hp, h⟩
          · rename_i b2
            split at h
            · rename_i hb
              simp at h
              exact ⟨n, by omega, hp, by rw [← hb]; exact h⟩
            · simp at h
        · simp at h
          subst h
          obtain ⟨a, h1, h2⟩ := ih.2 b e
          exact ⟨a, by omega, h2⟩
theorem sure_un {g : ShG} {l : LkG} {w a b : Nat} (ha : a < tot g) (hb : b < tot g) (pa : lft g l a = true) (pb : lft g l b = true) (h : fgo g a w ≠ fgo g b w) : fSure g l w = -1 := by
  unfold fSure
  cases e : srF (lft g l) (fun n => fgo g n w) (tot g) with
  | none => rfl
  | some o =>
    have h1 := sr_spec _ _ e a ha pa
    have h2 := sr_spec _ _ e b hb pb
    rw [h1] at h2
    exact absurd (Option.some.inj h2) h
theorem sure_no {g : ShG} {l : LkG} {w : Nat} (h : cntN (lft g l) (tot g) = 0) : fSure g l w = -1 := by
  unfold fSure
  have hn : ∀ k, k < tot g → lft g l k = true → False := fun k hk hp => by
    have := cnt_lt hk hp
    omega
  cases e : srF (lft g l) (fun n => fgo g n w) (tot g) with
  | none => rfl
  | some o =>
    cases o with
    | none => rfl
    | some b =>
      obtain ⟨a, h1, h2, _⟩ := (sr_conf _).2 b e
      exact (hn a h1 h2).elim
theorem sure_all {g : ShG} {l : LkG} {w c a : Nat} (ha : a < tot g) (pa : lft g l a = true) (h : ∀ n, n < tot g → lft g l n = true → fgo g n w = c) : fSure g l w = nI c := by
  unfold fSure
  cases e : srF (lft g l) (fun n => fgo g n w) (tot g) with
  | none =>
    obtain ⟨x, y, h1, h2, h3, h4, h5⟩ := (sr_conf _).1 e
    exact absurd ((h x h1 h3).trans (h y h2 h4).symm) h5
  | some o =>
    have h1 := sr_spec _ _ e a ha pa
    rw [h1]
    show nI (fgo g a w) = nI c
    rw [h a ha pa]
