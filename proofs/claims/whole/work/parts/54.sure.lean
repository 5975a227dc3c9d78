/-! The model: the sure figure. -/
theorem sr_spec {p : Nat → Bool} {f : Nat → Nat} : ∀ n o, srF p f n = some o → ∀ k, k < n → p k = true → o = some (f k)
  | 0, _, _, k, h, _ => absurd h (Nat.not_lt_zero _)
  | n + 1, o, h, k, hk, hp => by
    rw [srF] at h
    split at h
    · simp at h
    · rename_i o2 e
      have ih := sr_spec n o2 e
      split at h
      · split at h
        · simp at h
          subst h
          by_cases q : k = n
          · rw [q]
          · exact absurd (ih k (by omega) hp) (by simp)
        · rename_i b
          split at h
          · rename_i hb
            simp at h
            subst h
            by_cases q : k = n
            · rw [q, hb]
            · exact ih k (by omega) hp
          · simp at h
      · rename_i hpn
        simp at h
        subst h
        by_cases q : k = n
        · exact absurd (q ▸ hp) hpn
        · exact ih k (by omega) hp
theorem sr_conf {p : Nat → Bool} {f : Nat → Nat} : ∀ n, (srF p f n = none → ∃ a b, a < n ∧ b < n ∧ p a = true ∧ p b = true ∧ f a ≠ f b) ∧ (∀ b, srF p f n = some (some b) → ∃ a, a < n ∧ p a = true ∧ f a = b)
  | 0 => ⟨fun h => by simp [srF] at h, fun b h => by simp [srF] at h⟩
  | n + 1 => by
    have ih := sr_conf (p := p) (f := f) n
    constructor
    · intro h
      rw [srF] at h
      split at h
      · rename_i e
        obtain ⟨a, b, h1, h2, h3⟩ := ih.1 e
        exact ⟨a, b, by omega, by omega, h3⟩
      · rename_i o2 e
        split at h
        · rename_i hp
          split at h
          · simp at h
          · rename_i b
            split at h
            · simp at h
            · rename_i hb
              obtain ⟨a, h1, h2, h3⟩ := ih.2 b e
              exact ⟨a, n, by omega, by omega, h2, hp, by rw [h3]; exact hb⟩
        · simp at h
    · intro b h
      rw [srF] at h
      split at h
      · simp at h
      · rename_i o2 e
        split at h
        · rename_i hp
          split at h
          · simp at h
            exact ⟨n, by omega, hp, h⟩
          · rename_i b2
            split at h
            · rename_i hb
              simp at h
              exact ⟨n, by omega, hp, by rw [← hb]; exact h⟩
            · simp at h
        · simp at h
          subst h
          obtain ⟨a, h1, h2⟩ := ih.2 b e
          exact ⟨a, by omega, h2⟩
theorem sure_un {g : ShG} {l : LkG} {w a b : Nat} (ha : a < tot g) (hb : b < tot g) (pa : lft g l a = true) (pb : lft g l b = true) (h : fgo g a w ≠ fgo g b w) : fSure g l w = -1 := by
  unfold fSure
  cases e : srF (lft g l) (fun n => fgo g n w) (tot g) with
  | none => rfl
  | some o =>
    have h1 := sr_spec _ _ e a ha pa
    have h2 := sr_spec _ _ e b hb pb
    rw [h1] at h2
    exact absurd (Option.some.inj h2) h
theorem sure_no {g : ShG} {l : LkG} {w : Nat} (h : cntN (lft g l) (tot g) = 0) : fSure g l w = -1 := by
  unfold fSure
  have hn : ∀ k, k < tot g → lft g l k = true → False := fun k hk hp => by
    have := cnt_lt hk hp
    omega
  cases e : srF (lft g l) (fun n => fgo g n w) (tot g) with
  | none => rfl
  | some o =>
    cases o with
    | none => rfl
    | some b =>
      obtain ⟨a, h1, h2, _⟩ := (sr_conf _).2 b e
      exact (hn a h1 h2).elim
theorem sure_all {g : ShG} {l : LkG} {w c a : Nat} (ha : a < tot g) (pa : lft g l a = true) (h : ∀ n, n < tot g → lft g l n = true → fgo g n w = c) : fSure g l w = nI c := by
  unfold fSure
  cases e : srF (lft g l) (fun n => fgo g n w) (tot g) with
  | none =>
    obtain ⟨x, y, h1, h2, h3, h4, h5⟩ := (sr_conf _).1 e
    exact absurd ((h x h1 h3).trans (h y h2 h4).symm) h5
  | some o =>
    have h1 := sr_spec _ _ e a ha pa
    rw [h1]
    show nI (fgo g a w) = nI c
    rw [h a ha pa]
theorem m_sure {d : Nat} {h : Hp} {g : ShG} {l : LkG} {w : Nat} {Q : Po} (ms : MS g l h) (hw : w < sW g) (k : ∀ h1, Fq scM h h1 → Q (.int (fSure g l w)) h1) : wpC (d + 6) true 231 [.ref 130, .int (nI w)] h Q := by
  have hN := tot_b ms.1.1
  have h4 := ms.1.1.1
  have h8 := ms.1.1.2.2.2.1
  have he := evr_b ms.1.1
  have hev : evr g = 2 ^ sC g - 1 := rfl
  refine go_in rfl ?_
  refine exf_go 2 (show wpC (d + 5) true 228 [.ref 130] h (fun _ h' => Go (d + 5) true 231 4 [.ref 130, .int (nI w), mk_] [] h' Q) from ?_)
  refine m_laysLeft ms (fun h1 p1 mw1 mo1 => ?_)
  have q1 := Fq.tr Fq.rfl' p1
  have ms1 := ms_fq ms q1
  have hcc := cntN_le (lft g l) (tot g)
  show Go (d + 5) true 231 4 [.ref 130, .int (nI w), mk_] [] h1 Q
  refine exf_go 2 (show Go (d + 5) true 231 6 [.ref 130, .int (nI w), .int 1] [] h1 Q from ?_)
  have L6 : ∀ (k6 : Nat) (i : Nat), (cntN (lft g l) (tot g) - i) < k6 → (1 ≤ i ∧ i ≤ cntN (lft g l) (tot g) + 1) → (∀ k, k < i → k < cntN (lft g l) (tot g) → fgo g (ordOf h1 k) w = fgo g (ordOf h1 0) w) → Go (d + 5) true 231 6 [.ref 130, .int (nI w), .int (nI i)] [] h1 Q := by
    intro k6
    induction k6 with
    | zero => intro i hk; exact absurd hk (Nat.not_lt_zero _)
    | succ k6 ih6 =>
      intro i hk hi hall
      refine exf_go 3 (show Go (d + 5) true 231 11 [.ref 130, .int (nI w), .int (nI i)] [.int (rI h1 130 22), .int (nI i)] h1 Q from ?_)
      rw [show (rI h1 130 22 : Int32) = nI (cntN (lft g l) (tot g)) from mo1.1]
      refine exf_go 1 (show ((nI (cntN (lft g l) (tot g))) ≤ (nI i) → Go (d + 5) true 231 47 [.ref 130, .int (nI w), .int (nI i)] [] h1 Q) ∧ (¬ ((nI (cntN (lft g l) (tot g))) ≤ (nI i)) → Go (d + 5) true 231 14 [.ref 130, .int (nI w), .int (nI i)] [] h1 Q) from ⟨fun c1 => ?_, fun c1 => ?_⟩)
      · skip
        have c1 : (cntN (lft g l) (tot g)) ≤ i := (nI_leI (a := (cntN (lft g l) (tot g))) (b := i) (by omega) (by omega)).mp c1
        refine exf_go 2 (show Go (d + 5) true 231 51 [.ref 130, .int (nI w), .int (nI i)] [.int (rI h1 130 22)] h1 Q from ?_)
        rw [show (rI h1 130 22 : Int32) = nI (cntN (lft g l) (tot g)) from mo1.1]
        refine exf_go 1 (show (¬ (nI (cntN (lft g l) (tot g))) = 0 → Go (d + 5) true 231 58 [.ref 130, .int (nI w), .int (nI i)] [] h1 Q) ∧ (¬ (¬ (nI (cntN (lft g l) (tot g))) = 0) → Go (d + 5) true 231 54 [.ref 130, .int (nI w), .int (nI i)] [] h1 Q) from ⟨fun c2 => ?_, fun c2 => ?_⟩)
        · skip
          have c2 : ¬ (cntN (lft g l) (tot g)) = 0 := fun q => c2 ((nI_eq (a := (cntN (lft g l) (tot g))) (b := 0) (by omega) (by omega)).mpr q)
          refine exf_go 5 (show vp_in 0 10000 ∧ (Go (d + 5) true 231 65 [.ref 130, .int (nI w), .int (nI i)] [.int (rI h1 140 0), .ref 130] h1 Q) from ⟨(vp_in_nI (n := 0) (by decide) (by decide)), ?_⟩)
          rw [show (rI h1 140 0 : Int32) = nI (ordOf h1 0) from mo_at ms.1.1 mo1 (k := 0) (by omega)]
          refine exf_go 2 (show wpC (d + 5) true 220 [.ref 130, .int (nI (ordOf h1 0)), .int (nI w)] h1 (fun r h' => Go (d + 5) true 231 69 [.ref 130, .int (nI w), .int (nI i)] [r] h' Q) from ?_)
          have hoi0 := ord_in (mo_ord ms.1.1 mo1) (k := 0) (by omega)
          refine m_figureOf ms1 (by omega) (by omega) ?_
          have := fgo_lt ms.1.1 (ordOf h1 0) w; have := sF_b ms.1.1 w
          show Go (d + 5) true 231 69 [.ref 130, .int (nI w), .int (nI i)] [.int (nI (fgo g (ordOf h1 0) w))] h1 Q
          refine exf_go 1 (show Q (.int (nI (fgo g (ordOf h1 0) w))) h1 from ?_)
          rw [sure_all (c := fgo g (ordOf h1 0) w) hoi0.1 hoi0.2.1 (fun n hn hp => by have e := mo_ord ms.1.1 mo1 n hn hp; have e1 := pos_lt (rk := rkN g (evr g)) hn hp; have e2 := hall (pos (lft g l) (rkN g (evr g)) (tot g) n) (by omega) e1; rw [e] at e2; exact e2)] at k
          exact k h1 q1
        · skip
          have c2 : (cntN (lft g l) (tot g)) = 0 := (nI_eq (a := (cntN (lft g l) (tot g))) (b := 0) (by omega) (by omega)).mp (Classical.not_not.mp c2)
          refine exf_go 3 (show Q (.int (-1)) h1 from ?_)
          first | (rw [sure_un hoii.1 hoi0.1 hoii.2.1 hoi0.2.1 (by assumption)] at k; skip) | rw [sure_no (by omega)] at k
          exact k h1 q1
      · skip
        have c1 : ¬ (cntN (lft g l) (tot g)) ≤ i := fun q => c1 ((nI_leI (a := (cntN (lft g l) (tot g))) (b := i) (by omega) (by omega)).mpr q)
        refine exf_go 5 (show vp_in (nI i) 10000 ∧ (Go (d + 5) true 231 21 [.ref 130, .int (nI w), .int (nI i)] [.int (rI h1 140 ((nI i).toNatClampNeg)), .ref 130] h1 Q) from ⟨(vp_in_nI (by omega) (by omega)), ?_⟩)
        rw [show (rI h1 140 ((nI i).toNatClampNeg) : Int32) = nI (ordOf h1 i) from mo_at ms.1.1 mo1 (k := i) (by omega)]
        refine exf_go 2 (show wpC (d + 5) true 220 [.ref 130, .int (nI (ordOf h1 i)), .int (nI w)] h1 (fun r h' => Go (d + 5) true 231 25 [.ref 130, .int (nI w), .int (nI i)] [r] h' Q) from ?_)
        have hoii := ord_in (mo_ord ms.1.1 mo1) (k := i) (by omega)
        refine m_figureOf ms1 (by omega) (by omega) ?_
        have := fgo_lt ms.1.1 (ordOf h1 i) w; have := sF_b ms.1.1 w
        show Go (d + 5) true 231 25 [.ref 130, .int (nI w), .int (nI i)] [.int (nI (fgo g (ordOf h1 i) w))] h1 Q
        refine exf_go 5 (show vp_in 0 10000 ∧ (Go (d + 5) true 231 32 [.ref 130, .int (nI w), .int (nI i)] [.int (rI h1 140 0), .ref 130, .int (nI (fgo g (ordOf h1 i) w))] h1 Q) from ⟨(vp_in_nI (n := 0) (by decide) (by decide)), ?_⟩)
        rw [show (rI h1 140 0 : Int32) = nI (ordOf h1 0) from mo_at ms.1.1 mo1 (k := 0) (by omega)]
        refine exf_go 2 (show wpC (d + 5) true 220 [.ref 130, .int (nI (ordOf h1 0)), .int (nI w)] h1 (fun r h' => Go (d + 5) true 231 36 [.ref 130, .int (nI w), .int (nI i)] [r, .int (nI (fgo g (ordOf h1 i) w))] h' Q) from ?_)
        have hoi0 := ord_in (mo_ord ms.1.1 mo1) (k := 0) (by omega)
        refine m_figureOf ms1 (by omega) (by omega) ?_
        have := fgo_lt ms.1.1 (ordOf h1 0) w; have := sF_b ms.1.1 w
        show Go (d + 5) true 231 36 [.ref 130, .int (nI w), .int (nI i)] [.int (nI (fgo g (ordOf h1 0) w)), .int (nI (fgo g (ordOf h1 i) w))] h1 Q
        refine exf_go 1 (show ((nI (fgo g (ordOf h1 i) w)) = (nI (fgo g (ordOf h1 0) w)) → Go (d + 5) true 231 41 [.ref 130, .int (nI w), .int (nI i)] [] h1 Q) ∧ (¬ ((nI (fgo g (ordOf h1 i) w)) = (nI (fgo g (ordOf h1 0) w))) → Go (d + 5) true 231 39 [.ref 130, .int (nI w), .int (nI i)] [] h1 Q) from ⟨fun c3 => ?_, fun c3 => ?_⟩)
        · skip
          have c3 : (fgo g (ordOf h1 i) w) = (fgo g (ordOf h1 0) w) := (nI_eq (a := (fgo g (ordOf h1 i) w)) (b := (fgo g (ordOf h1 0) w)) (by omega) (by omega)).mp c3
          refine exf_go 1 (show Go (d + 5) true 231 44 [.ref 130, .int (nI w), .int ((nI i) + 1)] [] h1 Q from ?_)
          rw [show ((nI i) + 1 : Int32) = nI (i + 1) from nI_add i 1]
          refine exf_go 1 (show Go (d + 5) true 231 6 [.ref 130, .int (nI w), .int (nI (i + 1))] [] h1 Q from ?_)
          exact ih6 (i + 1) (by omega) (by omega) (fun k hk hc => (Decidable.em (k = i)).elim (fun e => by rw [e]; assumption) (fun e => hall k (by omega) hc))
        · skip
          have c3 : ¬ (fgo g (ordOf h1 i) w) = (fgo g (ordOf h1 0) w) := fun q => c3 ((nI_eq (a := (fgo g (ordOf h1 i) w)) (b := (fgo g (ordOf h1 0) w)) (by omega) (by omega)).mpr q)
          refine exf_go 2 (show Q (.int (-1)) h1 from ?_)
          first | (rw [sure_un hoii.1 hoi0.1 hoii.2.1 hoi0.2.1 (by assumption)] at k; skip) | rw [sure_no (by omega)] at k
          exact k h1 q1
  exact L6 (cntN (lft g l) (tot g) + 1) 1 (by omega) (by omega) (fun k hk _ => by rw [show k = 0 from by omega])
