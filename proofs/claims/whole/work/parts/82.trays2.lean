/-! The class's calls on trays. -/
theorem cta_gq {tr : Nat → TrG} {s : Nat → Nat → Bool} {h h1 : Hp} (ca : CTA tr h) (q : Gq s h h1) (hs : ∀ a x, 88 ≤ a → a ≤ 95 → s a x = false) : CTA tr h1 := fun t ht => ct_same (ca t ht) (q.I (fun x => hs _ x (by omega) (by omega))) (q.J (fun x => hs _ x (by omega) (by omega)))
theorem scC_tr (a x : Nat) (h : 88 ≤ a) (h2 : a ≤ 95) : scC a x = false := by
  unfold scC
  rw [show Nat.ble a 86 = false from by rw [Bool.eq_false_iff]; intro z; have := Nat.ble_eq.mp z; omega, show Nat.beq a 98 = false from by rw [Bool.eq_false_iff]; intro z; have := Nat.eq_of_beq_eq_true z; omega, show Nat.beq a 99 = false from by rw [Bool.eq_false_iff]; intro z; have := Nat.eq_of_beq_eq_true z; omega, show Nat.beq a 10 = false from by rw [Bool.eq_false_iff]; intro z; have := Nat.eq_of_beq_eq_true z; omega, Bool.and_false]
  rfl
theorem sTr_f {a x : Nat} (h : a < 88 ∨ 95 < a) : sTr a x = false := by
  unfold sTr
  rw [Bool.eq_false_iff]
  intro z
  rw [Bool.and_eq_true] at z
  have h1 := Nat.ble_eq.mp z.1
  have h2 := Nat.ble_eq.mp z.2
  omega
theorem sAt_f {z a x : Nat} (h : a ≠ z) : sAt z a x = false := by
  unfold sAt
  rw [Bool.eq_false_iff]
  intro q
  exact h (Nat.eq_of_beq_eq_true q)
theorem cta_put {tr : Nat → TrG} {t so n i : Nat} {vs : Nat → Int64} {w : Int64} {h : Hp} (ca : CTA tr h) (ht : t < 4) (ct : CT t (some (so, n, vs)) h) : CTA (va_up tr t (some (so, n, va_up vs i w))) (uJ h (89 + 2 * t) i w) := cta_up ca ht (ct_put ct) (fun s hs q => ⟨rfl, rJ_uJ_ne (by omega)⟩)
theorem cpy_0 (g : ShG) (l : LkG) (so : Nat) (vs : Nat → Int64) : cpyV g l so 0 vs = vs := funext fun i => if_neg (Nat.not_lt_zero _)
theorem cpy_s (g : ShG) (l : LkG) (so m : Nat) (vs : Nat → Int64) : va_up (cpyV g l so m vs) m (cutV so (lN (ordL g l m))) = cpyV g l so (m + 1) vs := funext fun i => by
  by_cases e : i = m
  · subst e; rw [up_eq, cpyV, if_pos (by omega)]
  · rw [up_ne e]
    unfold cpyV
    by_cases q : i < m
    · rw [if_pos q, if_pos (by omega)]
    · rw [if_neg q, if_neg (by omega)]
theorem up_self {tr : Nat → TrG} {t : Nat} : va_up tr t (tr t) = tr := funext fun s => by
  by_cases e : s = t
  · rw [e, up_eq]
  · rw [up_ne e]
theorem c_numbers {d : Nat} {h : Hp} {tr : Nat → TrG} {x y z : Int32} {Q : Po} (wf : WF h) (ca : CTA tr h) (k : ∀ h1, Fq sTr h h1 → CTA (dNumbers tr x y z).1 h1 → Q (.int (dNumbers tr x y z).2) h1) : wpC (d + 3) true 149 [.ref 10, .int x, .int y, .int z] h Q := by
  refine go_in rfl ?_
  refine exf_go 2 (show wpC (d + 2) true 159 [.int x] h (fun r h' => Go (d + 2) true 149 4 [.ref 10, .int x, .int y, .int z] [r] h' Q) from ?_)
  refine c_isTray (x := x) (fun et etq => ?_) (fun et etq => ?_) (fun et etq => ?_) (fun et etq => ?_) (fun et => ?_)
  · skip
    subst etq
    show Go (d + 2) true 149 4 [.ref 10, .int 0, .int y, .int z] [.int 1] h Q
    refine exf_go 1 (show ((1 : Int32) = 0 → Go (d + 2) true 149 16 [.ref 10, .int 0, .int y, .int z] [] h Q) ∧ (¬ ((1 : Int32) = 0) → Go (d + 2) true 149 7 [.ref 10, .int 0, .int y, .int z] [] h Q) from ⟨fun c1 => ?_, fun c1 => ?_⟩)
    · skip
      exact absurd c1 (by decide)
    · skip
      refine exf_go 2 (show (y < 0 → Go (d + 2) true 149 16 [.ref 10, .int 0, .int y, .int z] [] h Q) ∧ (¬ (y < 0) → Go (d + 2) true 149 11 [.ref 10, .int 0, .int y, .int z] [] h Q) from ⟨fun c2 => ?_, fun c2 => ?_⟩)
      · skip
        have ey : ixN y 4 = none := ix_neg c2
        refine exf_go 2 (show Q (.int (-2)) h from ?_)
        first | (simp only [dNumbers, et] at k; exact k _ Fq.rfl' ca) | (simp only [dNumbers, et, ey] at k; exact k _ Fq.rfl' ca)
      · skip
        refine exf_go 3 (show (y < 4 → Go (d + 2) true 149 19 [.ref 10, .int 0, .int y, .int z] [] h Q) ∧ (¬ (y < 4) → Go (d + 2) true 149 16 [.ref 10, .int 0, .int y, .int z] [] h Q) from ⟨fun c3 => ?_, fun c3 => ?_⟩)
        · skip
          obtain ⟨jy, ey, eyq, eyr⟩ := ix_in (n := 4) (by decide) c2 (Int32.not_le.mpr c3)
          subst eyq
          refine exf_go 2 (show (z < 0 → Go (d + 2) true 149 29 [.ref 10, .int 0, .int (nI jy), .int z] [] h Q) ∧ (¬ (z < 0) → Go (d + 2) true 149 23 [.ref 10, .int 0, .int (nI jy), .int z] [] h Q) from ⟨fun c4 => ?_, fun c4 => ?_⟩)
          · skip
            have ez : ixN z 41 = none := ix_neg c4
            refine exf_go 2 (show Q (.int (-3)) h from ?_)
            simp only [dNumbers, et, ey, ez] at k; exact k _ Fq.rfl' ca
          · skip
            refine exf_go 3 (show (z ≤ 40 → Go (d + 2) true 149 32 [.ref 10, .int 0, .int (nI jy), .int z] [] h Q) ∧ (¬ (z ≤ 40) → Go (d + 2) true 149 29 [.ref 10, .int 0, .int (nI jy), .int z] [] h Q) from ⟨fun c5 => ?_, fun c5 => ?_⟩)
            · skip
              obtain ⟨jz, ez, ezq, ezr⟩ := ix_le (n := 40) (by omega) c4 c5
              subst ezq
              refine exf_go 4 (show vp_in (0 : Int32) 4 ∧ (rN h 87 0 = true → Go (d + 2) true 149 38 [.ref 10, .int 0, .int (nI jy), .int (nI jz)] [.ref 88] h Q) ∧ (rN h 87 0 = false → Go (d + 2) true 149 38 [.ref 10, .int 0, .int (nI jy), .int (nI jz)] [.null] h Q) from ⟨vp_in_nI (n := 0) (by decide) (by decide), fun c6 => ?_, fun c6 => ?_⟩)
              · skip
                refine exf_go 3 (show wpC (d + 2) true 103 [.ref 88, .int (nI jy), .int (nI jz)] h (fun _ h' => Go (d + 2) true 149 43 [.ref 10, .int 0, .int (nI jy), .int (nI jz)] [] h' Q) from ?_)
                refine c_lay0 (so := jy) (n := jz) (by omega) (by omega) (fun h1 q1 e1 ct1 => ?_)
                show Go (d + 2) true 149 43 [.ref 10, .int 0, .int (nI jy), .int (nI jz)] [] h1 Q
                refine exf_go 2 (show Q (.int 0) h1 from ?_)
                simp only [dNumbers, et, ey, ez] at k
                exact k _ q1 (cta_up ca (by decide) ct1 e1)
              · skip
                exact absurd (((wf.2.2 87 0 rfl)).symm.trans c6) (by decide)
            · skip
              have ez : ixN z 41 = none := ix_gt (n := 40) (by omega) c5
              refine exf_go 2 (show Q (.int (-3)) h from ?_)
              simp only [dNumbers, et, ey, ez] at k; exact k _ Fq.rfl' ca
        · skip
          have ey : ixN y 4 = none := ix_ge (Int32.not_lt.mp c3)
          refine exf_go 2 (show Q (.int (-2)) h from ?_)
          first | (simp only [dNumbers, et] at k; exact k _ Fq.rfl' ca) | (simp only [dNumbers, et, ey] at k; exact k _ Fq.rfl' ca)
  · skip
    subst etq
    show Go (d + 2) true 149 4 [.ref 10, .int 1, .int y, .int z] [.int 1] h Q
    refine exf_go 1 (show ((1 : Int32) = 0 → Go (d + 2) true 149 16 [.ref 10, .int 1, .int y, .int z] [] h Q) ∧ (¬ ((1 : Int32) = 0) → Go (d + 2) true 149 7 [.ref 10, .int 1, .int y, .int z] [] h Q) from ⟨fun c7 => ?_, fun c7 => ?_⟩)
    · skip
      exact absurd c7 (by decide)
    · skip
      refine exf_go 2 (show (y < 0 → Go (d + 2) true 149 16 [.ref 10, .int 1, .int y, .int z] [] h Q) ∧ (¬ (y < 0) → Go (d + 2) true 149 11 [.ref 10, .int 1, .int y, .int z] [] h Q) from ⟨fun c8 => ?_, fun c8 => ?_⟩)
      · skip
        have ey : ixN y 4 = none := ix_neg c8
        refine exf_go 2 (show Q (.int (-2)) h from ?_)
        first | (simp only [dNumbers, et] at k; exact k _ Fq.rfl' ca) | (simp only [dNumbers, et, ey] at k; exact k _ Fq.rfl' ca)
      · skip
        refine exf_go 3 (show (y < 4 → Go (d + 2) true 149 19 [.ref 10, .int 1, .int y, .int z] [] h Q) ∧ (¬ (y < 4) → Go (d + 2) true 149 16 [.ref 10, .int 1, .int y, .int z] [] h Q) from ⟨fun c9 => ?_, fun c9 => ?_⟩)
        · skip
          obtain ⟨jy, ey, eyq, eyr⟩ := ix_in (n := 4) (by decide) c8 (Int32.not_le.mpr c9)
          subst eyq
          refine exf_go 2 (show (z < 0 → Go (d + 2) true 149 29 [.ref 10, .int 1, .int (nI jy), .int z] [] h Q) ∧ (¬ (z < 0) → Go (d + 2) true 149 23 [.ref 10, .int 1, .int (nI jy), .int z] [] h Q) from ⟨fun c10 => ?_, fun c10 => ?_⟩)
          · skip
            have ez : ixN z 41 = none := ix_neg c10
            refine exf_go 2 (show Q (.int (-3)) h from ?_)
            simp only [dNumbers, et, ey, ez] at k; exact k _ Fq.rfl' ca
          · skip
            refine exf_go 3 (show (z ≤ 40 → Go (d + 2) true 149 32 [.ref 10, .int 1, .int (nI jy), .int z] [] h Q) ∧ (¬ (z ≤ 40) → Go (d + 2) true 149 29 [.ref 10, .int 1, .int (nI jy), .int z] [] h Q) from ⟨fun c11 => ?_, fun c11 => ?_⟩)
            · skip
              obtain ⟨jz, ez, ezq, ezr⟩ := ix_le (n := 40) (by omega) c10 c11
              subst ezq
              refine exf_go 4 (show vp_in (1 : Int32) 4 ∧ (rN h 87 1 = true → Go (d + 2) true 149 38 [.ref 10, .int 1, .int (nI jy), .int (nI jz)] [.ref 90] h Q) ∧ (rN h 87 1 = false → Go (d + 2) true 149 38 [.ref 10, .int 1, .int (nI jy), .int (nI jz)] [.null] h Q) from ⟨vp_in_nI (n := 1) (by decide) (by decide), fun c12 => ?_, fun c12 => ?_⟩)
              · skip
                refine exf_go 3 (show wpC (d + 2) true 103 [.ref 90, .int (nI jy), .int (nI jz)] h (fun _ h' => Go (d + 2) true 149 43 [.ref 10, .int 1, .int (nI jy), .int (nI jz)] [] h' Q) from ?_)
                refine c_lay1 (so := jy) (n := jz) (by omega) (by omega) (fun h1 q1 e1 ct1 => ?_)
                show Go (d + 2) true 149 43 [.ref 10, .int 1, .int (nI jy), .int (nI jz)] [] h1 Q
                refine exf_go 2 (show Q (.int 0) h1 from ?_)
                simp only [dNumbers, et, ey, ez] at k
                exact k _ q1 (cta_up ca (by decide) ct1 e1)
              · skip
                exact absurd (((wf.2.2 87 1 rfl)).symm.trans c12) (by decide)
            · skip
              have ez : ixN z 41 = none := ix_gt (n := 40) (by omega) c11
              refine exf_go 2 (show Q (.int (-3)) h from ?_)
              simp only [dNumbers, et, ey, ez] at k; exact k _ Fq.rfl' ca
        · skip
          have ey : ixN y 4 = none := ix_ge (Int32.not_lt.mp c9)
          refine exf_go 2 (show Q (.int (-2)) h from ?_)
          first | (simp only [dNumbers, et] at k; exact k _ Fq.rfl' ca) | (simp only [dNumbers, et, ey] at k; exact k _ Fq.rfl' ca)
  · skip
    subst etq
    show Go (d + 2) true 149 4 [.ref 10, .int 2, .int y, .int z] [.int 1] h Q
    refine exf_go 1 (show ((1 : Int32) = 0 → Go (d + 2) true 149 16 [.ref 10, .int 2, .int y, .int z] [] h Q) ∧ (¬ ((1 : Int32) = 0) → Go (d + 2) true 149 7 [.ref 10, .int 2, .int y, .int z] [] h Q) from ⟨fun c13 => ?_, fun c13 => ?_⟩)
    · skip
      exact absurd c13 (by decide)
    · skip
      refine exf_go 2 (show (y < 0 → Go (d + 2) true 149 16 [.ref 10, .int 2, .int y, .int z] [] h Q) ∧ (¬ (y < 0) → Go (d + 2) true 149 11 [.ref 10, .int 2, .int y, .int z] [] h Q) from ⟨fun c14 => ?_, fun c14 => ?_⟩)
      · skip
        have ey : ixN y 4 = none := ix_neg c14
        refine exf_go 2 (show Q (.int (-2)) h from ?_)
        first | (simp only [dNumbers, et] at k; exact k _ Fq.rfl' ca) | (simp only [dNumbers, et, ey] at k; exact k _ Fq.rfl' ca)
      · skip
        refine exf_go 3 (show (y < 4 → Go (d + 2) true 149 19 [.ref 10, .int 2, .int y, .int z] [] h Q) ∧ (¬ (y < 4) → Go (d + 2) true 149 16 [.ref 10, .int 2, .int y, .int z] [] h Q) from ⟨fun c15 => ?_, fun c15 => ?_⟩)
        · skip
          obtain ⟨jy, ey, eyq, eyr⟩ := ix_in (n := 4) (by decide) c14 (Int32.not_le.mpr c15)
          subst eyq
          refine exf_go 2 (show (z < 0 → Go (d + 2) true 149 29 [.ref 10, .int 2, .int (nI jy), .int z] [] h Q) ∧ (¬ (z < 0) → Go (d + 2) true 149 23 [.ref 10, .int 2, .int (nI jy), .int z] [] h Q) from ⟨fun c16 => ?_, fun c16 => ?_⟩)
          · skip
            have ez : ixN z 41 = none := ix_neg c16
            refine exf_go 2 (show Q (.int (-3)) h from ?_)
            simp only [dNumbers, et, ey, ez] at k; exact k _ Fq.rfl' ca
          · skip
            refine exf_go 3 (show (z ≤ 40 → Go (d + 2) true 149 32 [.ref 10, .int 2, .int (nI jy), .int z] [] h Q) ∧ (¬ (z ≤ 40) → Go (d + 2) true 149 29 [.ref 10, .int 2, .int (nI jy), .int z] [] h Q) from ⟨fun c17 => ?_, fun c17 => ?_⟩)
            · skip
              obtain ⟨jz, ez, ezq, ezr⟩ := ix_le (n := 40) (by omega) c16 c17
              subst ezq
              refine exf_go 4 (show vp_in (2 : Int32) 4 ∧ (rN h 87 2 = true → Go (d + 2) true 149 38 [.ref 10, .int 2, .int (nI jy), .int (nI jz)] [.ref 92] h Q) ∧ (rN h 87 2 = false → Go (d + 2) true 149 38 [.ref 10, .int 2, .int (nI jy), .int (nI jz)] [.null] h Q) from ⟨vp_in_nI (n := 2) (by decide) (by decide), fun c18 => ?_, fun c18 => ?_⟩)
              · skip
                refine exf_go 3 (show wpC (d + 2) true 103 [.ref 92, .int (nI jy), .int (nI jz)] h (fun _ h' => Go (d + 2) true 149 43 [.ref 10, .int 2, .int (nI jy), .int (nI jz)] [] h' Q) from ?_)
                refine c_lay2 (so := jy) (n := jz) (by omega) (by omega) (fun h1 q1 e1 ct1 => ?_)
                show Go (d + 2) true 149 43 [.ref 10, .int 2, .int (nI jy), .int (nI jz)] [] h1 Q
                refine exf_go 2 (show Q (.int 0) h1 from ?_)
                simp only [dNumbers, et, ey, ez] at k
                exact k _ q1 (cta_up ca (by decide) ct1 e1)
              · skip
                exact absurd (((wf.2.2 87 2 rfl)).symm.trans c18) (by decide)
            · skip
              have ez : ixN z 41 = none := ix_gt (n := 40) (by omega) c17
              refine exf_go 2 (show Q (.int (-3)) h from ?_)
              simp only [dNumbers, et, ey, ez] at k; exact k _ Fq.rfl' ca
        · skip
          have ey : ixN y 4 = none := ix_ge (Int32.not_lt.mp c15)
          refine exf_go 2 (show Q (.int (-2)) h from ?_)
          first | (simp only [dNumbers, et] at k; exact k _ Fq.rfl' ca) | (simp only [dNumbers, et, ey] at k; exact k _ Fq.rfl' ca)
  · skip
    subst etq
    show Go (d + 2) true 149 4 [.ref 10, .int 3, .int y, .int z] [.int 1] h Q
    refine exf_go 1 (show ((1 : Int32) = 0 → Go (d + 2) true 149 16 [.ref 10, .int 3, .int y, .int z] [] h Q) ∧ (¬ ((1 : Int32) = 0) → Go (d + 2) true 149 7 [.ref 10, .int 3, .int y, .int z] [] h Q) from ⟨fun c19 => ?_, fun c19 => ?_⟩)
    · skip
      exact absurd c19 (by decide)
    · skip
      refine exf_go 2 (show (y < 0 → Go (d + 2) true 149 16 [.ref 10, .int 3, .int y, .int z] [] h Q) ∧ (¬ (y < 0) → Go (d + 2) true 149 11 [.ref 10, .int 3, .int y, .int z] [] h Q) from ⟨fun c20 => ?_, fun c20 => ?_⟩)
      · skip
        have ey : ixN y 4 = none := ix_neg c20
        refine exf_go 2 (show Q (.int (-2)) h from ?_)
        first | (simp only [dNumbers, et] at k; exact k _ Fq.rfl' ca) | (simp only [dNumbers, et, ey] at k; exact k _ Fq.rfl' ca)
      · skip
        refine exf_go 3 (show (y < 4 → Go (d + 2) true 149 19 [.ref 10, .int 3, .int y, .int z] [] h Q) ∧ (¬ (y < 4) → Go (d + 2) true 149 16 [.ref 10, .int 3, .int y, .int z] [] h Q) from ⟨fun c21 => ?_, fun c21 => ?_⟩)
        · skip
          obtain ⟨jy, ey, eyq, eyr⟩ := ix_in (n := 4) (by decide) c20 (Int32.not_le.mpr c21)
          subst eyq
          refine exf_go 2 (show (z < 0 → Go (d + 2) true 149 29 [.ref 10, .int 3, .int (nI jy), .int z] [] h Q) ∧ (¬ (z < 0) → Go (d + 2) true 149 23 [.ref 10, .int 3, .int (nI jy), .int z] [] h Q) from ⟨fun c22 => ?_, fun c22 => ?_⟩)
          · skip
            have ez : ixN z 41 = none := ix_neg c22
            refine exf_go 2 (show Q (.int (-3)) h from ?_)
            simp only [dNumbers, et, ey, ez] at k; exact k _ Fq.rfl' ca
          · skip
            refine exf_go 3 (show (z ≤ 40 → Go (d + 2) true 149 32 [.ref 10, .int 3, .int (nI jy), .int z] [] h Q) ∧ (¬ (z ≤ 40) → Go (d + 2) true 149 29 [.ref 10, .int 3, .int (nI jy), .int z] [] h Q) from ⟨fun c23 => ?_, fun c23 => ?_⟩)
            · skip
              obtain ⟨jz, ez, ezq, ezr⟩ := ix_le (n := 40) (by omega) c22 c23
              subst ezq
              refine exf_go 4 (show vp_in (3 : Int32) 4 ∧ (rN h 87 3 = true → Go (d + 2) true 149 38 [.ref 10, .int 3, .int (nI jy), .int (nI jz)] [.ref 94] h Q) ∧ (rN h 87 3 = false → Go (d + 2) true 149 38 [.ref 10, .int 3, .int (nI jy), .int (nI jz)] [.null] h Q) from ⟨vp_in_nI (n := 3) (by decide) (by decide), fun c24 => ?_, fun c24 => ?_⟩)
              · skip
                refine exf_go 3 (show wpC (d + 2) true 103 [.ref 94, .int (nI jy), .int (nI jz)] h (fun _ h' => Go (d + 2) true 149 43 [.ref 10, .int 3, .int (nI jy), .int (nI jz)] [] h' Q) from ?_)
                refine c_lay3 (so := jy) (n := jz) (by omega) (by omega) (fun h1 q1 e1 ct1 => ?_)
                show Go (d + 2) true 149 43 [.ref 10, .int 3, .int (nI jy), .int (nI jz)] [] h1 Q
                refine exf_go 2 (show Q (.int 0) h1 from ?_)
                simp only [dNumbers, et, ey, ez] at k
                exact k _ q1 (cta_up ca (by decide) ct1 e1)
              · skip
                exact absurd (((wf.2.2 87 3 rfl)).symm.trans c24) (by decide)
            · skip
              have ez : ixN z 41 = none := ix_gt (n := 40) (by omega) c23
              refine exf_go 2 (show Q (.int (-3)) h from ?_)
              simp only [dNumbers, et, ey, ez] at k; exact k _ Fq.rfl' ca
        · skip
          have ey : ixN y 4 = none := ix_ge (Int32.not_lt.mp c21)
          refine exf_go 2 (show Q (.int (-2)) h from ?_)
          first | (simp only [dNumbers, et] at k; exact k _ Fq.rfl' ca) | (simp only [dNumbers, et, ey] at k; exact k _ Fq.rfl' ca)
  · skip
    show Go (d + 2) true 149 4 [.ref 10, .int x, .int y, .int z] [.int 0] h Q
    refine exf_go 1 (show ((0 : Int32) = 0 → Go (d + 2) true 149 16 [.ref 10, .int x, .int y, .int z] [] h Q) ∧ (¬ ((0 : Int32) = 0) → Go (d + 2) true 149 7 [.ref 10, .int x, .int y, .int z] [] h Q) from ⟨fun c25 => ?_, fun c25 => ?_⟩)
    · skip
      refine exf_go 2 (show Q (.int (-2)) h from ?_)
      first | (simp only [dNumbers, et] at k; exact k _ Fq.rfl' ca) | (simp only [dNumbers, et, ey] at k; exact k _ Fq.rfl' ca)
    · skip
      exact absurd (by decide) c25
theorem c_write {d : Nat} {h : Hp} {tr : Nat → TrG} {x y : Int32} {v : Int64} {Q : Po} (wf : WF h) (ca : CTA tr h) (k : ∀ h1, Fq sTr h h1 → CTA (dWrite tr x y v).1 h1 → Q (.long (dWrite tr x y v).2) h1) : wpC (d + 3) true 150 [.ref 10, .int x, .int y, .long v] h Q := by
  refine go_in rfl ?_
  refine exf_go 2 (show wpC (d + 2) true 159 [.int x] h (fun r h' => Go (d + 2) true 150 4 [.ref 10, .int x, .int y, .long v, mk_] [r] h' Q) from ?_)
  refine c_isTray (x := x) (fun et etq => ?_) (fun et etq => ?_) (fun et etq => ?_) (fun et etq => ?_) (fun et => ?_)
  · skip
    subst etq
    show Go (d + 2) true 150 4 [.ref 10, .int 0, .int y, .long v, mk_] [.int 1] h Q
    refine exf_go 1 (show (¬ (1 : Int32) = 0 → Go (d + 2) true 150 11 [.ref 10, .int 0, .int y, .long v, mk_] [] h Q) ∧ (¬ (¬ (1 : Int32) = 0) → Go (d + 2) true 150 7 [.ref 10, .int 0, .int y, .long v, mk_] [] h Q) from ⟨fun c1 => ?_, fun c1 => ?_⟩)
    · skip
      refine exf_go 4 (show vp_in (0 : Int32) 4 ∧ (rN h 87 0 = true → Go (d + 2) true 150 17 [.ref 10, .int 0, .int y, .long v, mk_] [.ref 88] h Q) ∧ (rN h 87 0 = false → Go (d + 2) true 150 17 [.ref 10, .int 0, .int y, .long v, mk_] [.null] h Q) from ⟨vp_in_nI (n := 0) (by decide) (by decide), fun c2 => ?_, fun c2 => ?_⟩)
      · skip
        refine exf_go 1 (show wpC (d + 2) true 102 [.ref 88] h (fun r h' => Go (d + 2) true 150 20 [.ref 10, .int 0, .int y, .long v, mk_] [r] h' Q) from ?_)
        rcases hq : tr 0 with _ | ⟨so, n, vs⟩
        · skip
          have ct : CT 0 none h := by have := ca 0 (by decide); rw [hq] at this; exact this
          refine c_miss10 ct ?_
          show Go (d + 2) true 150 20 [.ref 10, .int 0, .int y, .long v, mk_] [.int 1] h Q
          refine exf_go 1 (show ((1 : Int32) = 0 → Go (d + 2) true 150 27 [.ref 10, .int 0, .int y, .long v, mk_] [] h Q) ∧ (¬ ((1 : Int32) = 0) → Go (d + 2) true 150 23 [.ref 10, .int 0, .int y, .long v, mk_] [] h Q) from ⟨fun c3 => ?_, fun c3 => ?_⟩)
          · skip
            exact absurd c3 (by decide)
          · skip
            refine exf_go 2 (show Q (.long (-6)) h from ?_)
            simp only [dWrite, et, hq] at k; exact k _ Fq.rfl' ca
        · skip
          have ct : CT 0 (some (so, n, vs)) h := by have := ca 0 (by decide); rw [hq] at this; exact this
          have hn4 := ct.2.1; have hs3 := ct.1
          refine c_miss00 ct ?_
          show Go (d + 2) true 150 20 [.ref 10, .int 0, .int y, .long v, mk_] [.int 0] h Q
          refine exf_go 1 (show ((0 : Int32) = 0 → Go (d + 2) true 150 27 [.ref 10, .int 0, .int y, .long v, mk_] [] h Q) ∧ (¬ ((0 : Int32) = 0) → Go (d + 2) true 150 23 [.ref 10, .int 0, .int y, .long v, mk_] [] h Q) from ⟨fun c4 => ?_, fun c4 => ?_⟩)
          · skip
            refine exf_go 2 (show (y < 0 → Go (d + 2) true 150 44 [.ref 10, .int 0, .int y, .long v, mk_] [] h Q) ∧ (¬ (y < 0) → Go (d + 2) true 150 31 [.ref 10, .int 0, .int y, .long v, mk_] [] h Q) from ⟨fun c5 => ?_, fun c5 => ?_⟩)
            · skip
              have ey : ixN y n = none := ix_neg c5
              refine exf_go 2 (show Q (.long (-7)) h from ?_)
              simp only [dWrite, et, hq, ey] at k; exact k _ Fq.rfl' ca
            · skip
              refine exf_go 5 (show vp_in (0 : Int32) 4 ∧ (rN h 87 0 = true → Go (d + 2) true 150 38 [.ref 10, .int 0, .int y, .long v, mk_] [.ref 88, .int y] h Q) ∧ (rN h 87 0 = false → Go (d + 2) true 150 38 [.ref 10, .int 0, .int y, .long v, mk_] [.null, .int y] h Q) from ⟨vp_in_nI (n := 0) (by decide) (by decide), fun c6 => ?_, fun c6 => ?_⟩)
              · skip
                refine exf_go 1 (show Go (d + 2) true 150 41 [.ref 10, .int 0, .int y, .long v, mk_] [.int (rI h 88 2), .int y] h Q from ?_)
                rw [show (rI h 88 2 : Int32) = nI n from ct.2.2.2.1]
                refine exf_go 1 (show (y < (nI n) → Go (d + 2) true 150 48 [.ref 10, .int 0, .int y, .long v, mk_] [] h Q) ∧ (¬ (y < (nI n)) → Go (d + 2) true 150 44 [.ref 10, .int 0, .int y, .long v, mk_] [] h Q) from ⟨fun c7 => ?_, fun c7 => ?_⟩)
                · skip
                  obtain ⟨jy, ey, eyq, eyr⟩ := ix_in (n := n) (by omega) c5 (Int32.not_le.mpr c7)
                  subst eyq
                  refine exf_go 4 (show vp_in (0 : Int32) 4 ∧ (rN h 87 0 = true → Go (d + 2) true 150 54 [.ref 10, .int 0, .int (nI jy), .long v, mk_] [.ref 88] h Q) ∧ (rN h 87 0 = false → Go (d + 2) true 150 54 [.ref 10, .int 0, .int (nI jy), .long v, mk_] [.null] h Q) from ⟨vp_in_nI (n := 0) (by decide) (by decide), fun c8 => ?_, fun c8 => ?_⟩)
                  · skip
                    refine exf_go 3 (show wpC (d + 2) true 105 [.ref 88, .int (nI jy), .long v] h (fun _ h' => Go (d + 2) true 150 59 [.ref 10, .int 0, .int (nI jy), .long v, mk_] [] h' Q) from ?_)
                    refine c_put0 ct (i := jy) (by omega) ?_
                    have ct1 := ct_put (i := jy) (w := cutV so v) ct
                    have ca1 := cta_put (i := jy) (w := cutV so v) ca (by decide) ct
                    show Go (d + 2) true 150 59 [.ref 10, .int 0, .int (nI jy), .long v, mk_] [] (uJ h 89 jy (cutV so v)) Q
                    refine exf_go 4 (show vp_in (0 : Int32) 4 ∧ (rN (uJ h 89 jy (cutV so v)) 87 0 = true → Go (d + 2) true 150 65 [.ref 10, .int 0, .int (nI jy), .long v, mk_] [.ref 88] (uJ h 89 jy (cutV so v)) Q) ∧ (rN (uJ h 89 jy (cutV so v)) 87 0 = false → Go (d + 2) true 150 65 [.ref 10, .int 0, .int (nI jy), .long v, mk_] [.null] (uJ h 89 jy (cutV so v)) Q) from ⟨vp_in_nI (n := 0) (by decide) (by decide), fun c9 => ?_, fun c9 => ?_⟩)
                    · skip
                      refine exf_go 2 (show wpC (d + 2) true 104 [.ref 88, .int (nI jy)] (uJ h 89 jy (cutV so v)) (fun r h' => Go (d + 2) true 150 69 [.ref 10, .int 0, .int (nI jy), .long v, mk_] [r] h' Q) from ?_)
                      refine c_tat0 ct1 (i := jy) (by omega) ?_
                      rw [up_eq]
                      show Go (d + 2) true 150 69 [.ref 10, .int 0, .int (nI jy), .long v, mk_] [.long (cutV so v)] (uJ h 89 jy (cutV so v)) Q
                      refine exf_go 1 (show Q (.long (cutV so v)) (uJ h 89 jy (cutV so v)) from ?_)
                      simp only [dWrite, et, hq, ey] at k
                      exact k _ (Fq.uJ' Fq.rfl' _ _ _ rfl) ca1
                    · skip
                      exact absurd (((wf.2.2 87 0 rfl)).symm.trans c9) (by decide)
                  · skip
                    exact absurd (((wf.2.2 87 0 rfl)).symm.trans c8) (by decide)
                · skip
                  have ey : ixN y n = none := ix_ge (Int32.not_lt.mp c7)
                  refine exf_go 2 (show Q (.long (-7)) h from ?_)
                  simp only [dWrite, et, hq, ey] at k; exact k _ Fq.rfl' ca
              · skip
                exact absurd (((wf.2.2 87 0 rfl)).symm.trans c6) (by decide)
          · skip
            exact absurd (by decide) c4
      · skip
        exact absurd (((wf.2.2 87 0 rfl)).symm.trans c2) (by decide)
    · skip
      exact absurd (by decide) c1
  · skip
    subst etq
    show Go (d + 2) true 150 4 [.ref 10, .int 1, .int y, .long v, mk_] [.int 1] h Q
    refine exf_go 1 (show (¬ (1 : Int32) = 0 → Go (d + 2) true 150 11 [.ref 10, .int 1, .int y, .long v, mk_] [] h Q) ∧ (¬ (¬ (1 : Int32) = 0) → Go (d + 2) true 150 7 [.ref 10, .int 1, .int y, .long v, mk_] [] h Q) from ⟨fun c10 => ?_, fun c10 => ?_⟩)
    · skip
      refine exf_go 4 (show vp_in (1 : Int32) 4 ∧ (rN h 87 1 = true → Go (d + 2) true 150 17 [.ref 10, .int 1, .int y, .long v, mk_] [.ref 90] h Q) ∧ (rN h 87 1 = false → Go (d + 2) true 150 17 [.ref 10, .int 1, .int y, .long v, mk_] [.null] h Q) from ⟨vp_in_nI (n := 1) (by decide) (by decide), fun c11 => ?_, fun c11 => ?_⟩)
      · skip
        refine exf_go 1 (show wpC (d + 2) true 102 [.ref 90] h (fun r h' => Go (d + 2) true 150 20 [.ref 10, .int 1, .int y, .long v, mk_] [r] h' Q) from ?_)
        rcases hq : tr 1 with _ | ⟨so, n, vs⟩
        · skip
          have ct : CT 1 none h := by have := ca 1 (by decide); rw [hq] at this; exact this
          refine c_miss11 ct ?_
          show Go (d + 2) true 150 20 [.ref 10, .int 1, .int y, .long v, mk_] [.int 1] h Q
          refine exf_go 1 (show ((1 : Int32) = 0 → Go (d + 2) true 150 27 [.ref 10, .int 1, .int y, .long v, mk_] [] h Q) ∧ (¬ ((1 : Int32) = 0) → Go (d + 2) true 150 23 [.ref 10, .int 1, .int y, .long v, mk_] [] h Q) from ⟨fun c12 => ?_, fun c12 => ?_⟩)
          · skip
            exact absurd c12 (by decide)
          · skip
            refine exf_go 2 (show Q (.long (-6)) h from ?_)
            simp only [dWrite, et, hq] at k; exact k _ Fq.rfl' ca
        · skip
          have ct : CT 1 (some (so, n, vs)) h := by have := ca 1 (by decide); rw [hq] at this; exact this
          have hn4 := ct.2.1; have hs3 := ct.1
          refine c_miss01 ct ?_
          show Go (d + 2) true 150 20 [.ref 10, .int 1, .int y, .long v, mk_] [.int 0] h Q
          refine exf_go 1 (show ((0 : Int32) = 0 → Go (d + 2) true 150 27 [.ref 10, .int 1, .int y, .long v, mk_] [] h Q) ∧ (¬ ((0 : Int32) = 0) → Go (d + 2) true 150 23 [.ref 10, .int 1, .int y, .long v, mk_] [] h Q) from ⟨fun c13 => ?_, fun c13 => ?_⟩)
          · skip
            refine exf_go 2 (show (y < 0 → Go (d + 2) true 150 44 [.ref 10, .int 1, .int y, .long v, mk_] [] h Q) ∧ (¬ (y < 0) → Go (d + 2) true 150 31 [.ref 10, .int 1, .int y, .long v, mk_] [] h Q) from ⟨fun c14 => ?_, fun c14 => ?_⟩)
            · skip
              have ey : ixN y n = none := ix_neg c14
              refine exf_go 2 (show Q (.long (-7)) h from ?_)
              simp only [dWrite, et, hq, ey] at k; exact k _ Fq.rfl' ca
            · skip
              refine exf_go 5 (show vp_in (1 : Int32) 4 ∧ (rN h 87 1 = true → Go (d + 2) true 150 38 [.ref 10, .int 1, .int y, .long v, mk_] [.ref 90, .int y] h Q) ∧ (rN h 87 1 = false → Go (d + 2) true 150 38 [.ref 10, .int 1, .int y, .long v, mk_] [.null, .int y] h Q) from ⟨vp_in_nI (n := 1) (by decide) (by decide), fun c15 => ?_, fun c15 => ?_⟩)
              · skip
                refine exf_go 1 (show Go (d + 2) true 150 41 [.ref 10, .int 1, .int y, .long v, mk_] [.int (rI h 90 2), .int y] h Q from ?_)
                rw [show (rI h 90 2 : Int32) = nI n from ct.2.2.2.1]
                refine exf_go 1 (show (y < (nI n) → Go (d + 2) true 150 48 [.ref 10, .int 1, .int y, .long v, mk_] [] h Q) ∧ (¬ (y < (nI n)) → Go (d + 2) true 150 44 [.ref 10, .int 1, .int y, .long v, mk_] [] h Q) from ⟨fun c16 => ?_, fun c16 => ?_⟩)
                · skip
                  obtain ⟨jy, ey, eyq, eyr⟩ := ix_in (n := n) (by omega) c14 (Int32.not_le.mpr c16)
                  subst eyq
                  refine exf_go 4 (show vp_in (1 : Int32) 4 ∧ (rN h 87 1 = true → Go (d + 2) true 150 54 [.ref 10, .int 1, .int (nI jy), .long v, mk_] [.ref 90] h Q) ∧ (rN h 87 1 = false → Go (d + 2) true 150 54 [.ref 10, .int 1, .int (nI jy), .long v, mk_] [.null] h Q) from ⟨vp_in_nI (n := 1) (by decide) (by decide), fun c17 => ?_, fun c17 => ?_⟩)
                  · skip
                    refine exf_go 3 (show wpC (d + 2) true 105 [.ref 90, .int (nI jy), .long v] h (fun _ h' => Go (d + 2) true 150 59 [.ref 10, .int 1, .int (nI jy), .long v, mk_] [] h' Q) from ?_)
                    refine c_put1 ct (i := jy) (by omega) ?_
                    have ct1 := ct_put (i := jy) (w := cutV so v) ct
                    have ca1 := cta_put (i := jy) (w := cutV so v) ca (by decide) ct
                    show Go (d + 2) true 150 59 [.ref 10, .int 1, .int (nI jy), .long v, mk_] [] (uJ h 91 jy (cutV so v)) Q
                    refine exf_go 4 (show vp_in (1 : Int32) 4 ∧ (rN (uJ h 91 jy (cutV so v)) 87 1 = true → Go (d + 2) true 150 65 [.ref 10, .int 1, .int (nI jy), .long v, mk_] [.ref 90] (uJ h 91 jy (cutV so v)) Q) ∧ (rN (uJ h 91 jy (cutV so v)) 87 1 = false → Go (d + 2) true 150 65 [.ref 10, .int 1, .int (nI jy), .long v, mk_] [.null] (uJ h 91 jy (cutV so v)) Q) from ⟨vp_in_nI (n := 1) (by decide) (by decide), fun c18 => ?_, fun c18 => ?_⟩)
                    · skip
                      refine exf_go 2 (show wpC (d + 2) true 104 [.ref 90, .int (nI jy)] (uJ h 91 jy (cutV so v)) (fun r h' => Go (d + 2) true 150 69 [.ref 10, .int 1, .int (nI jy), .long v, mk_] [r] h' Q) from ?_)
                      refine c_tat1 ct1 (i := jy) (by omega) ?_
                      rw [up_eq]
                      show Go (d + 2) true 150 69 [.ref 10, .int 1, .int (nI jy), .long v, mk_] [.long (cutV so v)] (uJ h 91 jy (cutV so v)) Q
                      refine exf_go 1 (show Q (.long (cutV so v)) (uJ h 91 jy (cutV so v)) from ?_)
                      simp only [dWrite, et, hq, ey] at k
                      exact k _ (Fq.uJ' Fq.rfl' _ _ _ rfl) ca1
                    · skip
                      exact absurd (((wf.2.2 87 1 rfl)).symm.trans c18) (by decide)
                  · skip
                    exact absurd (((wf.2.2 87 1 rfl)).symm.trans c17) (by decide)
                · skip
                  have ey : ixN y n = none := ix_ge (Int32.not_lt.mp c16)
                  refine exf_go 2 (show Q (.long (-7)) h from ?_)
                  simp only [dWrite, et, hq, ey] at k; exact k _ Fq.rfl' ca
              · skip
                exact absurd (((wf.2.2 87 1 rfl)).symm.trans c15) (by decide)
          · skip
            exact absurd (by decide) c13
      · skip
        exact absurd (((wf.2.2 87 1 rfl)).symm.trans c11) (by decide)
    · skip
      exact absurd (by decide) c10
  · skip
    subst etq
    show Go (d + 2) true 150 4 [.ref 10, .int 2, .int y, .long v, mk_] [.int 1] h Q
    refine exf_go 1 (show (¬ (1 : Int32) = 0 → Go (d + 2) true 150 11 [.ref 10, .int 2, .int y, .long v, mk_] [] h Q) ∧ (¬ (¬ (1 : Int32) = 0) → Go (d + 2) true 150 7 [.ref 10, .int 2, .int y, .long v, mk_] [] h Q) from ⟨fun c19 => ?_, fun c19 => ?_⟩)
    · skip
      refine exf_go 4 (show vp_in (2 : Int32) 4 ∧ (rN h 87 2 = true → Go (d + 2) true 150 17 [.ref 10, .int 2, .int y, .long v, mk_] [.ref 92] h Q) ∧ (rN h 87 2 = false → Go (d + 2) true 150 17 [.ref 10, .int 2, .int y, .long v, mk_] [.null] h Q) from ⟨vp_in_nI (n := 2) (by decide) (by decide), fun c20 => ?_, fun c20 => ?_⟩)
      · skip
        refine exf_go 1 (show wpC (d + 2) true 102 [.ref 92] h (fun r h' => Go (d + 2) true 150 20 [.ref 10, .int 2, .int y, .long v, mk_] [r] h' Q) from ?_)
        rcases hq : tr 2 with _ | ⟨so, n, vs⟩
        · skip
          have ct : CT 2 none h := by have := ca 2 (by decide); rw [hq] at this; exact this
          refine c_miss12 ct ?_
          show Go (d + 2) true 150 20 [.ref 10, .int 2, .int y, .long v, mk_] [.int 1] h Q
          refine exf_go 1 (show ((1 : Int32) = 0 → Go (d + 2) true 150 27 [.ref 10, .int 2, .int y, .long v, mk_] [] h Q) ∧ (¬ ((1 : Int32) = 0) → Go (d + 2) true 150 23 [.ref 10, .int 2, .int y, .long v, mk_] [] h Q) from ⟨fun c21 => ?_, fun c21 => ?_⟩)
          · skip
            exact absurd c21 (by decide)
          · skip
            refine exf_go 2 (show Q (.long (-6)) h from ?_)
            simp only [dWrite, et, hq] at k; exact k _ Fq.rfl' ca
        · skip
          have ct : CT 2 (some (so, n, vs)) h := by have := ca 2 (by decide); rw [hq] at this; exact this
          have hn4 := ct.2.1; have hs3 := ct.1
          refine c_miss02 ct ?_
          show Go (d + 2) true 150 20 [.ref 10, .int 2, .int y, .long v, mk_] [.int 0] h Q
          refine exf_go 1 (show ((0 : Int32) = 0 → Go (d + 2) true 150 27 [.ref 10, .int 2, .int y, .long v, mk_] [] h Q) ∧ (¬ ((0 : Int32) = 0) → Go (d + 2) true 150 23 [.ref 10, .int 2, .int y, .long v, mk_] [] h Q) from ⟨fun c22 => ?_, fun c22 => ?_⟩)
          · skip
            refine exf_go 2 (show (y < 0 → Go (d + 2) true 150 44 [.ref 10, .int 2, .int y, .long v, mk_] [] h Q) ∧ (¬ (y < 0) → Go (d + 2) true 150 31 [.ref 10, .int 2, .int y, .long v, mk_] [] h Q) from ⟨fun c23 => ?_, fun c23 => ?_⟩)
            · skip
              have ey : ixN y n = none := ix_neg c23
              refine exf_go 2 (show Q (.long (-7)) h from ?_)
              simp only [dWrite, et, hq, ey] at k; exact k _ Fq.rfl' ca
            · skip
              refine exf_go 5 (show vp_in (2 : Int32) 4 ∧ (rN h 87 2 = true → Go (d + 2) true 150 38 [.ref 10, .int 2, .int y, .long v, mk_] [.ref 92, .int y] h Q) ∧ (rN h 87 2 = false → Go (d + 2) true 150 38 [.ref 10, .int 2, .int y, .long v, mk_] [.null, .int y] h Q) from ⟨vp_in_nI (n := 2) (by decide) (by decide), fun c24 => ?_, fun c24 => ?_⟩)
              · skip
                refine exf_go 1 (show Go (d + 2) true 150 41 [.ref 10, .int 2, .int y, .long v, mk_] [.int (rI h 92 2), .int y] h Q from ?_)
                rw [show (rI h 92 2 : Int32) = nI n from ct.2.2.2.1]
                refine exf_go 1 (show (y < (nI n) → Go (d + 2) true 150 48 [.ref 10, .int 2, .int y, .long v, mk_] [] h Q) ∧ (¬ (y < (nI n)) → Go (d + 2) true 150 44 [.ref 10, .int 2, .int y, .long v, mk_] [] h Q) from ⟨fun c25 => ?_, fun c25 => ?_⟩)
                · skip
                  obtain ⟨jy, ey, eyq, eyr⟩ := ix_in (n := n) (by omega) c23 (Int32.not_le.mpr c25)
                  subst eyq
                  refine exf_go 4 (show vp_in (2 : Int32) 4 ∧ (rN h 87 2 = true → Go (d + 2) true 150 54 [.ref 10, .int 2, .int (nI jy), .long v, mk_] [.ref 92] h Q) ∧ (rN h 87 2 = false → Go (d + 2) true 150 54 [.ref 10, .int 2, .int (nI jy), .long v, mk_] [.null] h Q) from ⟨vp_in_nI (n := 2) (by decide) (by decide), fun c26 => ?_, fun c26 => ?_⟩)
                  · skip
                    refine exf_go 3 (show wpC (d + 2) true 105 [.ref 92, .int (nI jy), .long v] h (fun _ h' => Go (d + 2) true 150 59 [.ref 10, .int 2, .int (nI jy), .long v, mk_] [] h' Q) from ?_)
                    refine c_put2 ct (i := jy) (by omega) ?_
                    have ct1 := ct_put (i := jy) (w := cutV so v) ct
                    have ca1 := cta_put (i := jy) (w := cutV so v) ca (by decide) ct
                    show Go (d + 2) true 150 59 [.ref 10, .int 2, .int (nI jy), .long v, mk_] [] (uJ h 93 jy (cutV so v)) Q
                    refine exf_go 4 (show vp_in (2 : Int32) 4 ∧ (rN (uJ h 93 jy (cutV so v)) 87 2 = true → Go (d + 2) true 150 65 [.ref 10, .int 2, .int (nI jy), .long v, mk_] [.ref 92] (uJ h 93 jy (cutV so v)) Q) ∧ (rN (uJ h 93 jy (cutV so v)) 87 2 = false → Go (d + 2) true 150 65 [.ref 10, .int 2, .int (nI jy), .long v, mk_] [.null] (uJ h 93 jy (cutV so v)) Q) from ⟨vp_in_nI (n := 2) (by decide) (by decide), fun c27 => ?_, fun c27 => ?_⟩)
                    · skip
                      refine exf_go 2 (show wpC (d + 2) true 104 [.ref 92, .int (nI jy)] (uJ h 93 jy (cutV so v)) (fun r h' => Go (d + 2) true 150 69 [.ref 10, .int 2, .int (nI jy), .long v, mk_] [r] h' Q) from ?_)
                      refine c_tat2 ct1 (i := jy) (by omega) ?_
                      rw [up_eq]
                      show Go (d + 2) true 150 69 [.ref 10, .int 2, .int (nI jy), .long v, mk_] [.long (cutV so v)] (uJ h 93 jy (cutV so v)) Q
                      refine exf_go 1 (show Q (.long (cutV so v)) (uJ h 93 jy (cutV so v)) from ?_)
                      simp only [dWrite, et, hq, ey] at k
                      exact k _ (Fq.uJ' Fq.rfl' _ _ _ rfl) ca1
                    · skip
                      exact absurd (((wf.2.2 87 2 rfl)).symm.trans c27) (by decide)
                  · skip
                    exact absurd (((wf.2.2 87 2 rfl)).symm.trans c26) (by decide)
                · skip
                  have ey : ixN y n = none := ix_ge (Int32.not_lt.mp c25)
                  refine exf_go 2 (show Q (.long (-7)) h from ?_)
                  simp only [dWrite, et, hq, ey] at k; exact k _ Fq.rfl' ca
              · skip
                exact absurd (((wf.2.2 87 2 rfl)).symm.trans c24) (by decide)
          · skip
            exact absurd (by decide) c22
      · skip
        exact absurd (((wf.2.2 87 2 rfl)).symm.trans c20) (by decide)
    · skip
      exact absurd (by decide) c19
  · skip
    subst etq
    show Go (d + 2) true 150 4 [.ref 10, .int 3, .int y, .long v, mk_] [.int 1] h Q
    refine exf_go 1 (show (¬ (1 : Int32) = 0 → Go (d + 2) true 150 11 [.ref 10, .int 3, .int y, .long v, mk_] [] h Q) ∧ (¬ (¬ (1 : Int32) = 0) → Go (d + 2) true 150 7 [.ref 10, .int 3, .int y, .long v, mk_] [] h Q) from ⟨fun c28 => ?_, fun c28 => ?_⟩)
    · skip
      refine exf_go 4 (show vp_in (3 : Int32) 4 ∧ (rN h 87 3 = true → Go (d + 2) true 150 17 [.ref 10, .int 3, .int y, .long v, mk_] [.ref 94] h Q) ∧ (rN h 87 3 = false → Go (d + 2) true 150 17 [.ref 10, .int 3, .int y, .long v, mk_] [.null] h Q) from ⟨vp_in_nI (n := 3) (by decide) (by decide), fun c29 => ?_, fun c29 => ?_⟩)
      · skip
        refine exf_go 1 (show wpC (d + 2) true 102 [.ref 94] h (fun r h' => Go (d + 2) true 150 20 [.ref 10, .int 3, .int y, .long v, mk_] [r] h' Q) from ?_)
        rcases hq : tr 3 with _ | ⟨so, n, vs⟩
        · skip
          have ct : CT 3 none h := by have := ca 3 (by decide); rw [hq] at this; exact this
          refine c_miss13 ct ?_
          show Go (d + 2) true 150 20 [.ref 10, .int 3, .int y, .long v, mk_] [.int 1] h Q
          refine exf_go 1 (show ((1 : Int32) = 0 → Go (d + 2) true 150 27 [.ref 10, .int 3, .int y, .long v, mk_] [] h Q) ∧ (¬ ((1 : Int32) = 0) → Go (d + 2) true 150 23 [.ref 10, .int 3, .int y, .long v, mk_] [] h Q) from ⟨fun c30 => ?_, fun c30 => ?_⟩)
          · skip
            exact absurd c30 (by decide)
          · skip
            refine exf_go 2 (show Q (.long (-6)) h from ?_)
            simp only [dWrite, et, hq] at k; exact k _ Fq.rfl' ca
        · skip
          have ct : CT 3 (some (so, n, vs)) h := by have := ca 3 (by decide); rw [hq] at this; exact this
          have hn4 := ct.2.1; have hs3 := ct.1
          refine c_miss03 ct ?_
          show Go (d + 2) true 150 20 [.ref 10, .int 3, .int y, .long v, mk_] [.int 0] h Q
          refine exf_go 1 (show ((0 : Int32) = 0 → Go (d + 2) true 150 27 [.ref 10, .int 3, .int y, .long v, mk_] [] h Q) ∧ (¬ ((0 : Int32) = 0) → Go (d + 2) true 150 23 [.ref 10, .int 3, .int y, .long v, mk_] [] h Q) from ⟨fun c31 => ?_, fun c31 => ?_⟩)
          · skip
            refine exf_go 2 (show (y < 0 → Go (d + 2) true 150 44 [.ref 10, .int 3, .int y, .long v, mk_] [] h Q) ∧ (¬ (y < 0) → Go (d + 2) true 150 31 [.ref 10, .int 3, .int y, .long v, mk_] [] h Q) from ⟨fun c32 => ?_, fun c32 => ?_⟩)
            · skip
              have ey : ixN y n = none := ix_neg c32
              refine exf_go 2 (show Q (.long (-7)) h from ?_)
              simp only [dWrite, et, hq, ey] at k; exact k _ Fq.rfl' ca
            · skip
              refine exf_go 5 (show vp_in (3 : Int32) 4 ∧ (rN h 87 3 = true → Go (d + 2) true 150 38 [.ref 10, .int 3, .int y, .long v, mk_] [.ref 94, .int y] h Q) ∧ (rN h 87 3 = false → Go (d + 2) true 150 38 [.ref 10, .int 3, .int y, .long v, mk_] [.null, .int y] h Q) from ⟨vp_in_nI (n := 3) (by decide) (by decide), fun c33 => ?_, fun c33 => ?_⟩)
              · skip
                refine exf_go 1 (show Go (d + 2) true 150 41 [.ref 10, .int 3, .int y, .long v, mk_] [.int (rI h 94 2), .int y] h Q from ?_)
                rw [show (rI h 94 2 : Int32) = nI n from ct.2.2.2.1]
                refine exf_go 1 (show (y < (nI n) → Go (d + 2) true 150 48 [.ref 10, .int 3, .int y, .long v, mk_] [] h Q) ∧ (¬ (y < (nI n)) → Go (d + 2) true 150 44 [.ref 10, .int 3, .int y, .long v, mk_] [] h Q) from ⟨fun c34 => ?_, fun c34 => ?_⟩)
                · skip
                  obtain ⟨jy, ey, eyq, eyr⟩ := ix_in (n := n) (by omega) c32 (Int32.not_le.mpr c34)
                  subst eyq
                  refine exf_go 4 (show vp_in (3 : Int32) 4 ∧ (rN h 87 3 = true → Go (d + 2) true 150 54 [.ref 10, .int 3, .int (nI jy), .long v, mk_] [.ref 94] h Q) ∧ (rN h 87 3 = false → Go (d + 2) true 150 54 [.ref 10, .int 3, .int (nI jy), .long v, mk_] [.null] h Q) from ⟨vp_in_nI (n := 3) (by decide) (by decide), fun c35 => ?_, fun c35 => ?_⟩)
                  · skip
                    refine exf_go 3 (show wpC (d + 2) true 105 [.ref 94, .int (nI jy), .long v] h (fun _ h' => Go (d + 2) true 150 59 [.ref 10, .int 3, .int (nI jy), .long v, mk_] [] h' Q) from ?_)
                    refine c_put3 ct (i := jy) (by omega) ?_
                    have ct1 := ct_put (i := jy) (w := cutV so v) ct
                    have ca1 := cta_put (i := jy) (w := cutV so v) ca (by decide) ct
                    show Go (d + 2) true 150 59 [.ref 10, .int 3, .int (nI jy), .long v, mk_] [] (uJ h 95 jy (cutV so v)) Q
                    refine exf_go 4 (show vp_in (3 : Int32) 4 ∧ (rN (uJ h 95 jy (cutV so v)) 87 3 = true → Go (d + 2) true 150 65 [.ref 10, .int 3, .int (nI jy), .long v, mk_] [.ref 94] (uJ h 95 jy (cutV so v)) Q) ∧ (rN (uJ h 95 jy (cutV so v)) 87 3 = false → Go (d + 2) true 150 65 [.ref 10, .int 3, .int (nI jy), .long v, mk_] [.null] (uJ h 95 jy (cutV so v)) Q) from ⟨vp_in_nI (n := 3) (by decide) (by decide), fun c36 => ?_, fun c36 => ?_⟩)
                    · skip
                      refine exf_go 2 (show wpC (d + 2) true 104 [.ref 94, .int (nI jy)] (uJ h 95 jy (cutV so v)) (fun r h' => Go (d + 2) true 150 69 [.ref 10, .int 3, .int (nI jy), .long v, mk_] [r] h' Q) from ?_)
                      refine c_tat3 ct1 (i := jy) (by omega) ?_
                      rw [up_eq]
                      show Go (d + 2) true 150 69 [.ref 10, .int 3, .int (nI jy), .long v, mk_] [.long (cutV so v)] (uJ h 95 jy (cutV so v)) Q
                      refine exf_go 1 (show Q (.long (cutV so v)) (uJ h 95 jy (cutV so v)) from ?_)
                      simp only [dWrite, et, hq, ey] at k
                      exact k _ (Fq.uJ' Fq.rfl' _ _ _ rfl) ca1
                    · skip
                      exact absurd (((wf.2.2 87 3 rfl)).symm.trans c36) (by decide)
                  · skip
                    exact absurd (((wf.2.2 87 3 rfl)).symm.trans c35) (by decide)
                · skip
                  have ey : ixN y n = none := ix_ge (Int32.not_lt.mp c34)
                  refine exf_go 2 (show Q (.long (-7)) h from ?_)
                  simp only [dWrite, et, hq, ey] at k; exact k _ Fq.rfl' ca
              · skip
                exact absurd (((wf.2.2 87 3 rfl)).symm.trans c33) (by decide)
          · skip
            exact absurd (by decide) c31
      · skip
        exact absurd (((wf.2.2 87 3 rfl)).symm.trans c29) (by decide)
    · skip
      exact absurd (by decide) c28
  · skip
    show Go (d + 2) true 150 4 [.ref 10, .int x, .int y, .long v, mk_] [.int 0] h Q
    refine exf_go 1 (show (¬ (0 : Int32) = 0 → Go (d + 2) true 150 11 [.ref 10, .int x, .int y, .long v, mk_] [] h Q) ∧ (¬ (¬ (0 : Int32) = 0) → Go (d + 2) true 150 7 [.ref 10, .int x, .int y, .long v, mk_] [] h Q) from ⟨fun c37 => ?_, fun c37 => ?_⟩)
    · skip
      exact absurd c37 (by decide)
    · skip
      refine exf_go 2 (show Q (.long (-2)) h from ?_)
      simp only [dWrite, et] at k; exact k _ Fq.rfl' ca
def sCp (a x : Nat) : Bool := scC a x || sTr a x
theorem C_cp {h h1 : Hp} (q : Gq scC h h1) : Gq sCp h h1 := q.mono (fun a i e => by unfold sCp at e; rw [Bool.or_eq_false_iff] at e; exact e.1)
theorem T_cp {h h1 : Hp} (q : Fq sTr h h1) : Gq sCp h h1 := q.gq.mono (fun a i e => by unfold sCp at e; rw [Bool.or_eq_false_iff] at e; exact e.2)
theorem up_up {tr : Nat → TrG} {t : Nat} {a b : TrG} : va_up (va_up tr t a) t b = va_up tr t b := funext fun s => by
  by_cases e : s = t
  · rw [e, up_eq, up_eq]
  · rw [up_ne e, up_ne e, up_ne e]
theorem c_copy {d : Nat} {h : Hp} {g : ShG} {l : LkG} {tr : Nat → TrG} {x : Int32} {Q : Po} (wf : WF h) (cs : CS 31 g h) (cl : CL 39 g l h) (ca : CTA tr h) (k : ∀ h1, Gq sCp h h1 → CTA (dCopy g l tr x).1 h1 → Q (.int (dCopy g l tr x).2) h1) : wpC (d + 6) true 151 [.ref 10, .int x] h Q := by
  have hN := tot_b cs.1
  have he := evr_b cs.1
  have h8 := cs.1.2.2.2.1
  have h4 := cs.1.2.2.2.2.2.1
  refine go_in rfl ?_
  refine exf_go 2 (show wpC (d + 5) true 159 [.int x] h (fun r h' => Go (d + 5) true 151 4 [.ref 10, .int x, mk_, mk_] [r] h' Q) from ?_)
  refine c_isTray (x := x) (fun et etq => ?_) (fun et etq => ?_) (fun et etq => ?_) (fun et etq => ?_) (fun et => ?_)
  · skip
    subst etq
    show Go (d + 5) true 151 4 [.ref 10, .int 0, mk_, mk_] [.int 1] h Q
    refine exf_go 1 (show (¬ (1 : Int32) = 0 → Go (d + 5) true 151 10 [.ref 10, .int 0, mk_, mk_] [] h Q) ∧ (¬ (¬ (1 : Int32) = 0) → Go (d + 5) true 151 7 [.ref 10, .int 0, mk_, mk_] [] h Q) from ⟨fun c1 => ?_, fun c1 => ?_⟩)
    · skip
      refine exf_go 4 (show vp_in (0 : Int32) 4 ∧ (rN h 87 0 = true → Go (d + 5) true 151 16 [.ref 10, .int 0, mk_, mk_] [.ref 88] h Q) ∧ (rN h 87 0 = false → Go (d + 5) true 151 16 [.ref 10, .int 0, mk_, mk_] [.null] h Q) from ⟨vp_in_nI (n := 0) (by decide) (by decide), fun c2 => ?_, fun c2 => ?_⟩)
      · skip
        refine exf_go 1 (show wpC (d + 5) true 102 [.ref 88] h (fun r h' => Go (d + 5) true 151 19 [.ref 10, .int 0, mk_, mk_] [r] h' Q) from ?_)
        rcases hq : tr 0 with _ | ⟨so, n, vs⟩
        · skip
          have ct : CT 0 none h := by have := ca 0 (by decide); rw [hq] at this; exact this
          refine c_miss10 ct ?_
          show Go (d + 5) true 151 19 [.ref 10, .int 0, mk_, mk_] [.int 1] h Q
          refine exf_go 1 (show ((1 : Int32) = 0 → Go (d + 5) true 151 25 [.ref 10, .int 0, mk_, mk_] [] h Q) ∧ (¬ ((1 : Int32) = 0) → Go (d + 5) true 151 22 [.ref 10, .int 0, mk_, mk_] [] h Q) from ⟨fun c3 => ?_, fun c3 => ?_⟩)
          · skip
            exact absurd c3 (by decide)
          · skip
            refine exf_go 2 (show Q (.int (-6)) h from ?_)
            simp only [dCopy, et, hq] at k; exact k _ Gq.rfl' ca
        · skip
          have ct : CT 0 (some (so, n, vs)) h := by have := ca 0 (by decide); rw [hq] at this; exact this
          have hn4 := ct.2.1; have hs3 := ct.1
          refine c_miss00 ct ?_
          show Go (d + 5) true 151 19 [.ref 10, .int 0, mk_, mk_] [.int 0] h Q
          refine exf_go 1 (show ((0 : Int32) = 0 → Go (d + 5) true 151 25 [.ref 10, .int 0, mk_, mk_] [] h Q) ∧ (¬ ((0 : Int32) = 0) → Go (d + 5) true 151 22 [.ref 10, .int 0, mk_, mk_] [] h Q) from ⟨fun c4 => ?_, fun c4 => ?_⟩)
          · skip
            refine exf_go 2 (show wpC (d + 5) true 167 [.ref 10] h (fun _ h' => Go (d + 5) true 151 29 [.ref 10, .int 0, mk_, mk_] [] h' Q) from ?_)
            refine c_rankLeft wf cs cl (fun h1 r1 rk1 => ?_)
            have p1 := r1.mono scR_C
            have g1 : Gq scC h h1 := Gq.rfl'.tr p1
            have cs1 := cs_gq cs g1; have cl1 := cl_gq cl g1; have wf1 := g1.2.2.2.1 wf
            have hcc := cntN_le (lft g l) (tot g)
            have ca1 := cta_gq ca g1 scC_tr
            have ct1 : CT 0 (some (so, n, vs)) h1 := by have := ca1 0 (by decide); rw [hq] at this; exact this
            show Go (d + 5) true 151 29 [.ref 10, .int 0, mk_, mk_] [] h1 Q
            refine exf_go 3 (show Go (d + 5) true 151 36 [.ref 10, .int 0, mk_, mk_] [.int (rI h1 71 1)] h1 Q from ?_)
            rw [show (rI h1 71 1 : Int32) = nI (cntN (lft g l) (tot g)) from rk1.1]
            refine exf_go 4 (show vp_in (0 : Int32) 4 ∧ (rN h1 87 0 = true → Go (d + 5) true 151 42 [.ref 10, .int 0, mk_, mk_] [.ref 88, .int (nI (cntN (lft g l) (tot g)))] h1 Q) ∧ (rN h1 87 0 = false → Go (d + 5) true 151 42 [.ref 10, .int 0, mk_, mk_] [.null, .int (nI (cntN (lft g l) (tot g)))] h1 Q) from ⟨vp_in_nI (n := 0) (by decide) (by decide), fun c5 => ?_, fun c5 => ?_⟩)
            · skip
              refine exf_go 1 (show Go (d + 5) true 151 45 [.ref 10, .int 0, mk_, mk_] [.int (rI h1 88 2), .int (nI (cntN (lft g l) (tot g)))] h1 Q from ?_)
              rw [show (rI h1 88 2 : Int32) = nI n from ct1.2.2.2.1]
              refine exf_go 1 (show wpC (d + 5) true 304 [.int (nI (cntN (lft g l) (tot g))), .int (nI n)] h1 (fun r h' => Go (d + 5) true 151 48 [.ref 10, .int 0, mk_, mk_] [r] h' Q) from ?_)
              refine c_min (a := (cntN (lft g l) (tot g))) (b := n) (by omega) (by omega) ?_
              show Go (d + 5) true 151 48 [.ref 10, .int 0, mk_, mk_] [.int (nI (min (cntN (lft g l) (tot g)) n))] h1 Q
              refine exf_go 3 (show Go (d + 5) true 151 51 [.ref 10, .int 0, .int (nI (min (cntN (lft g l) (tot g)) n)), .int 0] [] h1 Q from ?_)
              have L51 : ∀ (k51 : Nat) (i : Nat) (h2 : Hp), (min (cntN (lft g l) (tot g)) n - i) < k51 → (i ≤ min (cntN (lft g l) (tot g)) n) → (Fq (sAt 89) h1 h2) → (CTA (va_up tr 0 (some (so, n, cpyV g l so i vs))) h2) → Go (d + 5) true 151 51 [.ref 10, .int 0, .int (nI (min (cntN (lft g l) (tot g)) n)), .int (nI i)] [] h2 Q := by
                intro k51
                induction k51 with
                | zero => intro i h2 hk; exact absurd hk (Nat.not_lt_zero _)
                | succ k51 ih51 =>
                  intro i h2 hk hi q2 ca2
                  have ct2 : CT 0 (some (so, n, cpyV g l so i vs)) h2 := by have := ca2 0 (by decide); rw [up_eq] at this; exact this
                  have rk2 := rkd_gq rk1 q2 rfl (fun _ => rfl)
                  have wf2 := q2.gq.2.2.2.1 wf1
                  refine exf_go 3 (show ((nI (min (cntN (lft g l) (tot g)) n)) ≤ (nI i) → Go (d + 5) true 151 81 [.ref 10, .int 0, .int (nI (min (cntN (lft g l) (tot g)) n)), .int (nI i)] [] h2 Q) ∧ (¬ ((nI (min (cntN (lft g l) (tot g)) n)) ≤ (nI i)) → Go (d + 5) true 151 56 [.ref 10, .int 0, .int (nI (min (cntN (lft g l) (tot g)) n)), .int (nI i)] [] h2 Q) from ⟨fun c6 => ?_, fun c6 => ?_⟩)
                  · skip
                    have c6 : (min (cntN (lft g l) (tot g)) n) ≤ i := (nI_leI (a := (min (cntN (lft g l) (tot g)) n)) (b := i) (by omega) (by omega)).mp c6
                    refine exf_go 2 (show Q (.int (nI (min (cntN (lft g l) (tot g)) n))) h2 from ?_)
                    simp only [dCopy, et, hq] at k
                    rw [show i = min (cntL g l) n from by unfold cntL; omega] at ca2
                    exact k _ ((C_cp g1).tr (T_cp (q2.mono (sAt_s (fun _ => rfl))))) ca2
                  · skip
                    have c6 : ¬ (min (cntN (lft g l) (tot g)) n) ≤ i := fun q => c6 ((nI_leI (a := (min (cntN (lft g l) (tot g)) n)) (b := i) (by omega) (by omega)).mpr q)
                    refine exf_go 4 (show vp_in (0 : Int32) 4 ∧ (rN h2 87 0 = true → Go (d + 5) true 151 62 [.ref 10, .int 0, .int (nI (min (cntN (lft g l) (tot g)) n)), .int (nI i)] [.ref 88] h2 Q) ∧ (rN h2 87 0 = false → Go (d + 5) true 151 62 [.ref 10, .int 0, .int (nI (min (cntN (lft g l) (tot g)) n)), .int (nI i)] [.null] h2 Q) from ⟨vp_in_nI (n := 0) (by decide) (by decide), fun c7 => ?_, fun c7 => ?_⟩)
                    · skip
                      refine exf_go 5 (show wpC (d + 5) true 49 [.ref 71, .int (nI i)] h2 (fun r h' => Go (d + 5) true 151 71 [.ref 10, .int 0, .int (nI (min (cntN (lft g l) (tot g)) n)), .int (nI i)] [r, .int (nI i), .ref 88] h' Q) from ?_)
                      refine c_atI cs.1 rk2 (j := i) (by omega) ?_
                      have hoi := ordE_in (E := (lft g l)) (g := g) (kn := (evr g)) (k := i) (by omega)
                      show Go (d + 5) true 151 71 [.ref 10, .int 0, .int (nI (min (cntN (lft g l) (tot g)) n)), .int (nI i)] [.int (nI (ordE (lft g l) g (evr g) i)), .int (nI i), .ref 88] h2 Q
                      refine exf_go 1 (show Go (d + 5) true 151 72 [.ref 10, .int 0, .int (nI (min (cntN (lft g l) (tot g)) n)), .int (nI i)] [.long ((nI (ordE (lft g l) g (evr g) i)).toInt64), .int (nI i), .ref 88] h2 Q from ?_)
                      rw [show ((nI (ordE (lft g l) g (evr g) i)).toInt64 : Int64) = lN (ordE (lft g l) g (evr g) i) from nI_l (n := (ordE (lft g l) g (evr g) i)) (by omega)]
                      refine exf_go 1 (show wpC (d + 5) true 105 [.ref 88, .int (nI i), .long (lN (ordE (lft g l) g (evr g) i))] h2 (fun _ h' => Go (d + 5) true 151 75 [.ref 10, .int 0, .int (nI (min (cntN (lft g l) (tot g)) n)), .int (nI i)] [] h' Q) from ?_)
                      refine c_put0 ct2 (i := i) (by omega) ?_
                      show Go (d + 5) true 151 75 [.ref 10, .int 0, .int (nI (min (cntN (lft g l) (tot g)) n)), .int (nI i)] [] (uJ h2 89 i (cutV so (lN (ordE (lft g l) g (evr g) i)))) Q
                      refine exf_go 1 (show Go (d + 5) true 151 78 [.ref 10, .int 0, .int (nI (min (cntN (lft g l) (tot g)) n)), .int ((nI i) + 1)] [] (uJ h2 89 i (cutV so (lN (ordE (lft g l) g (evr g) i)))) Q from ?_)
                      rw [show ((nI i) + 1 : Int32) = nI (i + 1) from nI_add i 1]
                      refine exf_go 1 (show Go (d + 5) true 151 51 [.ref 10, .int 0, .int (nI (min (cntN (lft g l) (tot g)) n)), .int (nI (i + 1))] [] (uJ h2 89 i (cutV so (lN (ordE (lft g l) g (evr g) i)))) Q from ?_)
                      exact ih51 (i + 1) _ (by omega) (by omega) (q2.uJ' _ _ _ rfl) (by rw [← cpy_s]; have := cta_put (i := i) (w := cutV so (lN (ordL g l i))) ca2 (by decide) ct2; rw [up_up] at this; exact this)
                    · skip
                      exact absurd (((wf2.2.2 87 0 rfl)).symm.trans c7) (by decide)
              exact L51 (min (cntN (lft g l) (tot g)) n + 1) 0 h1 (by omega) (by omega) Fq.rfl' (by rw [cpy_0, ← hq, up_self]; exact ca1)
            · skip
              exact absurd (((wf1.2.2 87 0 rfl)).symm.trans c5) (by decide)
          · skip
            exact absurd (by decide) c4
      · skip
        exact absurd (((wf.2.2 87 0 rfl)).symm.trans c2) (by decide)
    · skip
      exact absurd (by decide) c1
  · skip
    subst etq
    show Go (d + 5) true 151 4 [.ref 10, .int 1, mk_, mk_] [.int 1] h Q
    refine exf_go 1 (show (¬ (1 : Int32) = 0 → Go (d + 5) true 151 10 [.ref 10, .int 1, mk_, mk_] [] h Q) ∧ (¬ (¬ (1 : Int32) = 0) → Go (d + 5) true 151 7 [.ref 10, .int 1, mk_, mk_] [] h Q) from ⟨fun c8 => ?_, fun c8 => ?_⟩)
    · skip
      refine exf_go 4 (show vp_in (1 : Int32) 4 ∧ (rN h 87 1 = true → Go (d + 5) true 151 16 [.ref 10, .int 1, mk_, mk_] [.ref 90] h Q) ∧ (rN h 87 1 = false → Go (d + 5) true 151 16 [.ref 10, .int 1, mk_, mk_] [.null] h Q) from ⟨vp_in_nI (n := 1) (by decide) (by decide), fun c9 => ?_, fun c9 => ?_⟩)
      · skip
        refine exf_go 1 (show wpC (d + 5) true 102 [.ref 90] h (fun r h' => Go (d + 5) true 151 19 [.ref 10, .int 1, mk_, mk_] [r] h' Q) from ?_)
        rcases hq : tr 1 with _ | ⟨so, n, vs⟩
        · skip
          have ct : CT 1 none h := by have := ca 1 (by decide); rw [hq] at this; exact this
          refine c_miss11 ct ?_
          show Go (d + 5) true 151 19 [.ref 10, .int 1, mk_, mk_] [.int 1] h Q
          refine exf_go 1 (show ((1 : Int32) = 0 → Go (d + 5) true 151 25 [.ref 10, .int 1, mk_, mk_] [] h Q) ∧ (¬ ((1 : Int32) = 0) → Go (d + 5) true 151 22 [.ref 10, .int 1, mk_, mk_] [] h Q) from ⟨fun c10 => ?_, fun c10 => ?_⟩)
          · skip
            exact absurd c10 (by decide)
          · skip
            refine exf_go 2 (show Q (.int (-6)) h from ?_)
            simp only [dCopy, et, hq] at k; exact k _ Gq.rfl' ca
        · skip
          have ct : CT 1 (some (so, n, vs)) h := by have := ca 1 (by decide); rw [hq] at this; exact this
          have hn4 := ct.2.1; have hs3 := ct.1
          refine c_miss01 ct ?_
          show Go (d + 5) true 151 19 [.ref 10, .int 1, mk_, mk_] [.int 0] h Q
          refine exf_go 1 (show ((0 : Int32) = 0 → Go (d + 5) true 151 25 [.ref 10, .int 1, mk_, mk_] [] h Q) ∧ (¬ ((0 : Int32) = 0) → Go (d + 5) true 151 22 [.ref 10, .int 1, mk_, mk_] [] h Q) from ⟨fun c11 => ?_, fun c11 => ?_⟩)
          · skip
            refine exf_go 2 (show wpC (d + 5) true 167 [.ref 10] h (fun _ h' => Go (d + 5) true 151 29 [.ref 10, .int 1, mk_, mk_] [] h' Q) from ?_)
            refine c_rankLeft wf cs cl (fun h1 r1 rk1 => ?_)
            have p1 := r1.mono scR_C
            have g1 : Gq scC h h1 := Gq.rfl'.tr p1
            have cs1 := cs_gq cs g1; have cl1 := cl_gq cl g1; have wf1 := g1.2.2.2.1 wf
            have hcc := cntN_le (lft g l) (tot g)
            have ca1 := cta_gq ca g1 scC_tr
            have ct1 : CT 1 (some (so, n, vs)) h1 := by have := ca1 1 (by decide); rw [hq] at this; exact this
            show Go (d + 5) true 151 29 [.ref 10, .int 1, mk_, mk_] [] h1 Q
            refine exf_go 3 (show Go (d + 5) true 151 36 [.ref 10, .int 1, mk_, mk_] [.int (rI h1 71 1)] h1 Q from ?_)
            rw [show (rI h1 71 1 : Int32) = nI (cntN (lft g l) (tot g)) from rk1.1]
            refine exf_go 4 (show vp_in (1 : Int32) 4 ∧ (rN h1 87 1 = true → Go (d + 5) true 151 42 [.ref 10, .int 1, mk_, mk_] [.ref 90, .int (nI (cntN (lft g l) (tot g)))] h1 Q) ∧ (rN h1 87 1 = false → Go (d + 5) true 151 42 [.ref 10, .int 1, mk_, mk_] [.null, .int (nI (cntN (lft g l) (tot g)))] h1 Q) from ⟨vp_in_nI (n := 1) (by decide) (by decide), fun c12 => ?_, fun c12 => ?_⟩)
            · skip
              refine exf_go 1 (show Go (d + 5) true 151 45 [.ref 10, .int 1, mk_, mk_] [.int (rI h1 90 2), .int (nI (cntN (lft g l) (tot g)))] h1 Q from ?_)
              rw [show (rI h1 90 2 : Int32) = nI n from ct1.2.2.2.1]
              refine exf_go 1 (show wpC (d + 5) true 304 [.int (nI (cntN (lft g l) (tot g))), .int (nI n)] h1 (fun r h' => Go (d + 5) true 151 48 [.ref 10, .int 1, mk_, mk_] [r] h' Q) from ?_)
              refine c_min (a := (cntN (lft g l) (tot g))) (b := n) (by omega) (by omega) ?_
              show Go (d + 5) true 151 48 [.ref 10, .int 1, mk_, mk_] [.int (nI (min (cntN (lft g l) (tot g)) n))] h1 Q
              refine exf_go 3 (show Go (d + 5) true 151 51 [.ref 10, .int 1, .int (nI (min (cntN (lft g l) (tot g)) n)), .int 0] [] h1 Q from ?_)
              have L51 : ∀ (k51 : Nat) (i : Nat) (h2 : Hp), (min (cntN (lft g l) (tot g)) n - i) < k51 → (i ≤ min (cntN (lft g l) (tot g)) n) → (Fq (sAt 91) h1 h2) → (CTA (va_up tr 1 (some (so, n, cpyV g l so i vs))) h2) → Go (d + 5) true 151 51 [.ref 10, .int 1, .int (nI (min (cntN (lft g l) (tot g)) n)), .int (nI i)] [] h2 Q := by
                intro k51
                induction k51 with
                | zero => intro i h2 hk; exact absurd hk (Nat.not_lt_zero _)
                | succ k51 ih51 =>
                  intro i h2 hk hi q2 ca2
                  have ct2 : CT 1 (some (so, n, cpyV g l so i vs)) h2 := by have := ca2 1 (by decide); rw [up_eq] at this; exact this
                  have rk2 := rkd_gq rk1 q2 rfl (fun _ => rfl)
                  have wf2 := q2.gq.2.2.2.1 wf1
                  refine exf_go 3 (show ((nI (min (cntN (lft g l) (tot g)) n)) ≤ (nI i) → Go (d + 5) true 151 81 [.ref 10, .int 1, .int (nI (min (cntN (lft g l) (tot g)) n)), .int (nI i)] [] h2 Q) ∧ (¬ ((nI (min (cntN (lft g l) (tot g)) n)) ≤ (nI i)) → Go (d + 5) true 151 56 [.ref 10, .int 1, .int (nI (min (cntN (lft g l) (tot g)) n)), .int (nI i)] [] h2 Q) from ⟨fun c13 => ?_, fun c13 => ?_⟩)
                  · skip
                    have c13 : (min (cntN (lft g l) (tot g)) n) ≤ i := (nI_leI (a := (min (cntN (lft g l) (tot g)) n)) (b := i) (by omega) (by omega)).mp c13
                    refine exf_go 2 (show Q (.int (nI (min (cntN (lft g l) (tot g)) n))) h2 from ?_)
                    simp only [dCopy, et, hq] at k
                    rw [show i = min (cntL g l) n from by unfold cntL; omega] at ca2
                    exact k _ ((C_cp g1).tr (T_cp (q2.mono (sAt_s (fun _ => rfl))))) ca2
                  · skip
                    have c13 : ¬ (min (cntN (lft g l) (tot g)) n) ≤ i := fun q => c13 ((nI_leI (a := (min (cntN (lft g l) (tot g)) n)) (b := i) (by omega) (by omega)).mpr q)
                    refine exf_go 4 (show vp_in (1 : Int32) 4 ∧ (rN h2 87 1 = true → Go (d + 5) true 151 62 [.ref 10, .int 1, .int (nI (min (cntN (lft g l) (tot g)) n)), .int (nI i)] [.ref 90] h2 Q) ∧ (rN h2 87 1 = false → Go (d + 5) true 151 62 [.ref 10, .int 1, .int (nI (min (cntN (lft g l) (tot g)) n)), .int (nI i)] [.null] h2 Q) from ⟨vp_in_nI (n := 1) (by decide) (by decide), fun c14 => ?_, fun c14 => ?_⟩)
                    · skip
                      refine exf_go 5 (show wpC (d + 5) true 49 [.ref 71, .int (nI i)] h2 (fun r h' => Go (d + 5) true 151 71 [.ref 10, .int 1, .int (nI (min (cntN (lft g l) (tot g)) n)), .int (nI i)] [r, .int (nI i), .ref 90] h' Q) from ?_)
                      refine c_atI cs.1 rk2 (j := i) (by omega) ?_
                      have hoi := ordE_in (E := (lft g l)) (g := g) (kn := (evr g)) (k := i) (by omega)
                      show Go (d + 5) true 151 71 [.ref 10, .int 1, .int (nI (min (cntN (lft g l) (tot g)) n)), .int (nI i)] [.int (nI (ordE (lft g l) g (evr g) i)), .int (nI i), .ref 90] h2 Q
                      refine exf_go 1 (show Go (d + 5) true 151 72 [.ref 10, .int 1, .int (nI (min (cntN (lft g l) (tot g)) n)), .int (nI i)] [.long ((nI (ordE (lft g l) g (evr g) i)).toInt64), .int (nI i), .ref 90] h2 Q from ?_)
                      rw [show ((nI (ordE (lft g l) g (evr g) i)).toInt64 : Int64) = lN (ordE (lft g l) g (evr g) i) from nI_l (n := (ordE (lft g l) g (evr g) i)) (by omega)]
                      refine exf_go 1 (show wpC (d + 5) true 105 [.ref 90, .int (nI i), .long (lN (ordE (lft g l) g (evr g) i))] h2 (fun _ h' => Go (d + 5) true 151 75 [.ref 10, .int 1, .int (nI (min (cntN (lft g l) (tot g)) n)), .int (nI i)] [] h' Q) from ?_)
                      refine c_put1 ct2 (i := i) (by omega) ?_
                      show Go (d + 5) true 151 75 [.ref 10, .int 1, .int (nI (min (cntN (lft g l) (tot g)) n)), .int (nI i)] [] (uJ h2 91 i (cutV so (lN (ordE (lft g l) g (evr g) i)))) Q
                      refine exf_go 1 (show Go (d + 5) true 151 78 [.ref 10, .int 1, .int (nI (min (cntN (lft g l) (tot g)) n)), .int ((nI i) + 1)] [] (uJ h2 91 i (cutV so (lN (ordE (lft g l) g (evr g) i)))) Q from ?_)
                      rw [show ((nI i) + 1 : Int32) = nI (i + 1) from nI_add i 1]
                      refine exf_go 1 (show Go (d + 5) true 151 51 [.ref 10, .int 1, .int (nI (min (cntN (lft g l) (tot g)) n)), .int (nI (i + 1))] [] (uJ h2 91 i (cutV so (lN (ordE (lft g l) g (evr g) i)))) Q from ?_)
                      exact ih51 (i + 1) _ (by omega) (by omega) (q2.uJ' _ _ _ rfl) (by rw [← cpy_s]; have := cta_put (i := i) (w := cutV so (lN (ordL g l i))) ca2 (by decide) ct2; rw [up_up] at this; exact this)
                    · skip
                      exact absurd (((wf2.2.2 87 1 rfl)).symm.trans c14) (by decide)
              exact L51 (min (cntN (lft g l) (tot g)) n + 1) 0 h1 (by omega) (by omega) Fq.rfl' (by rw [cpy_0, ← hq, up_self]; exact ca1)
            · skip
              exact absurd (((wf1.2.2 87 1 rfl)).symm.trans c12) (by decide)
          · skip
            exact absurd (by decide) c11
      · skip
        exact absurd (((wf.2.2 87 1 rfl)).symm.trans c9) (by decide)
    · skip
      exact absurd (by decide) c8
  · skip
    subst etq
    show Go (d + 5) true 151 4 [.ref 10, .int 2, mk_, mk_] [.int 1] h Q
    refine exf_go 1 (show (¬ (1 : Int32) = 0 → Go (d + 5) true 151 10 [.ref 10, .int 2, mk_, mk_] [] h Q) ∧ (¬ (¬ (1 : Int32) = 0) → Go (d + 5) true 151 7 [.ref 10, .int 2, mk_, mk_] [] h Q) from ⟨fun c15 => ?_, fun c15 => ?_⟩)
    · skip
      refine exf_go 4 (show vp_in (2 : Int32) 4 ∧ (rN h 87 2 = true → Go (d + 5) true 151 16 [.ref 10, .int 2, mk_, mk_] [.ref 92] h Q) ∧ (rN h 87 2 = false → Go (d + 5) true 151 16 [.ref 10, .int 2, mk_, mk_] [.null] h Q) from ⟨vp_in_nI (n := 2) (by decide) (by decide), fun c16 => ?_, fun c16 => ?_⟩)
      · skip
        refine exf_go 1 (show wpC (d + 5) true 102 [.ref 92] h (fun r h' => Go (d + 5) true 151 19 [.ref 10, .int 2, mk_, mk_] [r] h' Q) from ?_)
        rcases hq : tr 2 with _ | ⟨so, n, vs⟩
        · skip
          have ct : CT 2 none h := by have := ca 2 (by decide); rw [hq] at this; exact this
          refine c_miss12 ct ?_
          show Go (d + 5) true 151 19 [.ref 10, .int 2, mk_, mk_] [.int 1] h Q
          refine exf_go 1 (show ((1 : Int32) = 0 → Go (d + 5) true 151 25 [.ref 10, .int 2, mk_, mk_] [] h Q) ∧ (¬ ((1 : Int32) = 0) → Go (d + 5) true 151 22 [.ref 10, .int 2, mk_, mk_] [] h Q) from ⟨fun c17 => ?_, fun c17 => ?_⟩)
          · skip
            exact absurd c17 (by decide)
          · skip
            refine exf_go 2 (show Q (.int (-6)) h from ?_)
            simp only [dCopy, et, hq] at k; exact k _ Gq.rfl' ca
        · skip
          have ct : CT 2 (some (so, n, vs)) h := by have := ca 2 (by decide); rw [hq] at this; exact this
          have hn4 := ct.2.1; have hs3 := ct.1
          refine c_miss02 ct ?_
          show Go (d + 5) true 151 19 [.ref 10, .int 2, mk_, mk_] [.int 0] h Q
          refine exf_go 1 (show ((0 : Int32) = 0 → Go (d + 5) true 151 25 [.ref 10, .int 2, mk_, mk_] [] h Q) ∧ (¬ ((0 : Int32) = 0) → Go (d + 5) true 151 22 [.ref 10, .int 2, mk_, mk_] [] h Q) from ⟨fun c18 => ?_, fun c18 => ?_⟩)
          · skip
            refine exf_go 2 (show wpC (d + 5) true 167 [.ref 10] h (fun _ h' => Go (d + 5) true 151 29 [.ref 10, .int 2, mk_, mk_] [] h' Q) from ?_)
            refine c_rankLeft wf cs cl (fun h1 r1 rk1 => ?_)
            have p1 := r1.mono scR_C
            have g1 : Gq scC h h1 := Gq.rfl'.tr p1
            have cs1 := cs_gq cs g1; have cl1 := cl_gq cl g1; have wf1 := g1.2.2.2.1 wf
            have hcc := cntN_le (lft g l) (tot g)
            have ca1 := cta_gq ca g1 scC_tr
            have ct1 : CT 2 (some (so, n, vs)) h1 := by have := ca1 2 (by decide); rw [hq] at this; exact this
            show Go (d + 5) true 151 29 [.ref 10, .int 2, mk_, mk_] [] h1 Q
            refine exf_go 3 (show Go (d + 5) true 151 36 [.ref 10, .int 2, mk_, mk_] [.int (rI h1 71 1)] h1 Q from ?_)
            rw [show (rI h1 71 1 : Int32) = nI (cntN (lft g l) (tot g)) from rk1.1]
            refine exf_go 4 (show vp_in (2 : Int32) 4 ∧ (rN h1 87 2 = true → Go (d + 5) true 151 42 [.ref 10, .int 2, mk_, mk_] [.ref 92, .int (nI (cntN (lft g l) (tot g)))] h1 Q) ∧ (rN h1 87 2 = false → Go (d + 5) true 151 42 [.ref 10, .int 2, mk_, mk_] [.null, .int (nI (cntN (lft g l) (tot g)))] h1 Q) from ⟨vp_in_nI (n := 2) (by decide) (by decide), fun c19 => ?_, fun c19 => ?_⟩)
            · skip
              refine exf_go 1 (show Go (d + 5) true 151 45 [.ref 10, .int 2, mk_, mk_] [.int (rI h1 92 2), .int (nI (cntN (lft g l) (tot g)))] h1 Q from ?_)
              rw [show (rI h1 92 2 : Int32) = nI n from ct1.2.2.2.1]
              refine exf_go 1 (show wpC (d + 5) true 304 [.int (nI (cntN (lft g l) (tot g))), .int (nI n)] h1 (fun r h' => Go (d + 5) true 151 48 [.ref 10, .int 2, mk_, mk_] [r] h' Q) from ?_)
              refine c_min (a := (cntN (lft g l) (tot g))) (b := n) (by omega) (by omega) ?_
              show Go (d + 5) true 151 48 [.ref 10, .int 2, mk_, mk_] [.int (nI (min (cntN (lft g l) (tot g)) n))] h1 Q
              refine exf_go 3 (show Go (d + 5) true 151 51 [.ref 10, .int 2, .int (nI (min (cntN (lft g l) (tot g)) n)), .int 0] [] h1 Q from ?_)
              have L51 : ∀ (k51 : Nat) (i : Nat) (h2 : Hp), (min (cntN (lft g l) (tot g)) n - i) < k51 → (i ≤ min (cntN (lft g l) (tot g)) n) → (Fq (sAt 93) h1 h2) → (CTA (va_up tr 2 (some (so, n, cpyV g l so i vs))) h2) → Go (d + 5) true 151 51 [.ref 10, .int 2, .int (nI (min (cntN (lft g l) (tot g)) n)), .int (nI i)] [] h2 Q := by
                intro k51
                induction k51 with
                | zero => intro i h2 hk; exact absurd hk (Nat.not_lt_zero _)
                | succ k51 ih51 =>
                  intro i h2 hk hi q2 ca2
                  have ct2 : CT 2 (some (so, n, cpyV g l so i vs)) h2 := by have := ca2 2 (by decide); rw [up_eq] at this; exact this
                  have rk2 := rkd_gq rk1 q2 rfl (fun _ => rfl)
                  have wf2 := q2.gq.2.2.2.1 wf1
                  refine exf_go 3 (show ((nI (min (cntN (lft g l) (tot g)) n)) ≤ (nI i) → Go (d + 5) true 151 81 [.ref 10, .int 2, .int (nI (min (cntN (lft g l) (tot g)) n)), .int (nI i)] [] h2 Q) ∧ (¬ ((nI (min (cntN (lft g l) (tot g)) n)) ≤ (nI i)) → Go (d + 5) true 151 56 [.ref 10, .int 2, .int (nI (min (cntN (lft g l) (tot g)) n)), .int (nI i)] [] h2 Q) from ⟨fun c20 => ?_, fun c20 => ?_⟩)
                  · skip
                    have c20 : (min (cntN (lft g l) (tot g)) n) ≤ i := (nI_leI (a := (min (cntN (lft g l) (tot g)) n)) (b := i) (by omega) (by omega)).mp c20
                    refine exf_go 2 (show Q (.int (nI (min (cntN (lft g l) (tot g)) n))) h2 from ?_)
                    simp only [dCopy, et, hq] at k
                    rw [show i = min (cntL g l) n from by unfold cntL; omega] at ca2
                    exact k _ ((C_cp g1).tr (T_cp (q2.mono (sAt_s (fun _ => rfl))))) ca2
                  · skip
                    have c20 : ¬ (min (cntN (lft g l) (tot g)) n) ≤ i := fun q => c20 ((nI_leI (a := (min (cntN (lft g l) (tot g)) n)) (b := i) (by omega) (by omega)).mpr q)
                    refine exf_go 4 (show vp_in (2 : Int32) 4 ∧ (rN h2 87 2 = true → Go (d + 5) true 151 62 [.ref 10, .int 2, .int (nI (min (cntN (lft g l) (tot g)) n)), .int (nI i)] [.ref 92] h2 Q) ∧ (rN h2 87 2 = false → Go (d + 5) true 151 62 [.ref 10, .int 2, .int (nI (min (cntN (lft g l) (tot g)) n)), .int (nI i)] [.null] h2 Q) from ⟨vp_in_nI (n := 2) (by decide) (by decide), fun c21 => ?_, fun c21 => ?_⟩)
                    · skip
                      refine exf_go 5 (show wpC (d + 5) true 49 [.ref 71, .int (nI i)] h2 (fun r h' => Go (d + 5) true 151 71 [.ref 10, .int 2, .int (nI (min (cntN (lft g l) (tot g)) n)), .int (nI i)] [r, .int (nI i), .ref 92] h' Q) from ?_)
                      refine c_atI cs.1 rk2 (j := i) (by omega) ?_
                      have hoi := ordE_in (E := (lft g l)) (g := g) (kn := (evr g)) (k := i) (by omega)
                      show Go (d + 5) true 151 71 [.ref 10, .int 2, .int (nI (min (cntN (lft g l) (tot g)) n)), .int (nI i)] [.int (nI (ordE (lft g l) g (evr g) i)), .int (nI i), .ref 92] h2 Q
                      refine exf_go 1 (show Go (d + 5) true 151 72 [.ref 10, .int 2, .int (nI (min (cntN (lft g l) (tot g)) n)), .int (nI i)] [.long ((nI (ordE (lft g l) g (evr g) i)).toInt64), .int (nI i), .ref 92] h2 Q from ?_)
                      rw [show ((nI (ordE (lft g l) g (evr g) i)).toInt64 : Int64) = lN (ordE (lft g l) g (evr g) i) from nI_l (n := (ordE (lft g l) g (evr g) i)) (by omega)]
                      refine exf_go 1 (show wpC (d + 5) true 105 [.ref 92, .int (nI i), .long (lN (ordE (lft g l) g (evr g) i))] h2 (fun _ h' => Go (d + 5) true 151 75 [.ref 10, .int 2, .int (nI (min (cntN (lft g l) (tot g)) n)), .int (nI i)] [] h' Q) from ?_)
                      refine c_put2 ct2 (i := i) (by omega) ?_
                      show Go (d + 5) true 151 75 [.ref 10, .int 2, .int (nI (min (cntN (lft g l) (tot g)) n)), .int (nI i)] [] (uJ h2 93 i (cutV so (lN (ordE (lft g l) g (evr g) i)))) Q
                      refine exf_go 1 (show Go (d + 5) true 151 78 [.ref 10, .int 2, .int (nI (min (cntN (lft g l) (tot g)) n)), .int ((nI i) + 1)] [] (uJ h2 93 i (cutV so (lN (ordE (lft g l) g (evr g) i)))) Q from ?_)
                      rw [show ((nI i) + 1 : Int32) = nI (i + 1) from nI_add i 1]
                      refine exf_go 1 (show Go (d + 5) true 151 51 [.ref 10, .int 2, .int (nI (min (cntN (lft g l) (tot g)) n)), .int (nI (i + 1))] [] (uJ h2 93 i (cutV so (lN (ordE (lft g l) g (evr g) i)))) Q from ?_)
                      exact ih51 (i + 1) _ (by omega) (by omega) (q2.uJ' _ _ _ rfl) (by rw [← cpy_s]; have := cta_put (i := i) (w := cutV so (lN (ordL g l i))) ca2 (by decide) ct2; rw [up_up] at this; exact this)
                    · skip
                      exact absurd (((wf2.2.2 87 2 rfl)).symm.trans c21) (by decide)
              exact L51 (min (cntN (lft g l) (tot g)) n + 1) 0 h1 (by omega) (by omega) Fq.rfl' (by rw [cpy_0, ← hq, up_self]; exact ca1)
            · skip
              exact absurd (((wf1.2.2 87 2 rfl)).symm.trans c19) (by decide)
          · skip
            exact absurd (by decide) c18
      · skip
        exact absurd (((wf.2.2 87 2 rfl)).symm.trans c16) (by decide)
    · skip
      exact absurd (by decide) c15
  · skip
    subst etq
    show Go (d + 5) true 151 4 [.ref 10, .int 3, mk_, mk_] [.int 1] h Q
    refine exf_go 1 (show (¬ (1 : Int32) = 0 → Go (d + 5) true 151 10 [.ref 10, .int 3, mk_, mk_] [] h Q) ∧ (¬ (¬ (1 : Int32) = 0) → Go (d + 5) true 151 7 [.ref 10, .int 3, mk_, mk_] [] h Q) from ⟨fun c22 => ?_, fun c22 => ?_⟩)
    · skip
      refine exf_go 4 (show vp_in (3 : Int32) 4 ∧ (rN h 87 3 = true → Go (d + 5) true 151 16 [.ref 10, .int 3, mk_, mk_] [.ref 94] h Q) ∧ (rN h 87 3 = false → Go (d + 5) true 151 16 [.ref 10, .int 3, mk_, mk_] [.null] h Q) from ⟨vp_in_nI (n := 3) (by decide) (by decide), fun c23 => ?_, fun c23 => ?_⟩)
      · skip
        refine exf_go 1 (show wpC (d + 5) true 102 [.ref 94] h (fun r h' => Go (d + 5) true 151 19 [.ref 10, .int 3, mk_, mk_] [r] h' Q) from ?_)
        rcases hq : tr 3 with _ | ⟨so, n, vs⟩
        · skip
          have ct : CT 3 none h := by have := ca 3 (by decide); rw [hq] at this; exact this
          refine c_miss13 ct ?_
          show Go (d + 5) true 151 19 [.ref 10, .int 3, mk_, mk_] [.int 1] h Q
          refine exf_go 1 (show ((1 : Int32) = 0 → Go (d + 5) true 151 25 [.ref 10, .int 3, mk_, mk_] [] h Q) ∧ (¬ ((1 : Int32) = 0) → Go (d + 5) true 151 22 [.ref 10, .int 3, mk_, mk_] [] h Q) from ⟨fun c24 => ?_, fun c24 => ?_⟩)
          · skip
            exact absurd c24 (by decide)
          · skip
            refine exf_go 2 (show Q (.int (-6)) h from ?_)
            simp only [dCopy, et, hq] at k; exact k _ Gq.rfl' ca
        · skip
          have ct : CT 3 (some (so, n, vs)) h := by have := ca 3 (by decide); rw [hq] at this; exact this
          have hn4 := ct.2.1; have hs3 := ct.1
          refine c_miss03 ct ?_
          show Go (d + 5) true 151 19 [.ref 10, .int 3, mk_, mk_] [.int 0] h Q
          refine exf_go 1 (show ((0 : Int32) = 0 → Go (d + 5) true 151 25 [.ref 10, .int 3, mk_, mk_] [] h Q) ∧ (¬ ((0 : Int32) = 0) → Go (d + 5) true 151 22 [.ref 10, .int 3, mk_, mk_] [] h Q) from ⟨fun c25 => ?_, fun c25 => ?_⟩)
          · skip
            refine exf_go 2 (show wpC (d + 5) true 167 [.ref 10] h (fun _ h' => Go (d + 5) true 151 29 [.ref 10, .int 3, mk_, mk_] [] h' Q) from ?_)
            refine c_rankLeft wf cs cl (fun h1 r1 rk1 => ?_)
            have p1 := r1.mono scR_C
            have g1 : Gq scC h h1 := Gq.rfl'.tr p1
            have cs1 := cs_gq cs g1; have cl1 := cl_gq cl g1; have wf1 := g1.2.2.2.1 wf
            have hcc := cntN_le (lft g l) (tot g)
            have ca1 := cta_gq ca g1 scC_tr
            have ct1 : CT 3 (some (so, n, vs)) h1 := by have := ca1 3 (by decide); rw [hq] at this; exact this
            show Go (d + 5) true 151 29 [.ref 10, .int 3, mk_, mk_] [] h1 Q
            refine exf_go 3 (show Go (d + 5) true 151 36 [.ref 10, .int 3, mk_, mk_] [.int (rI h1 71 1)] h1 Q from ?_)
            rw [show (rI h1 71 1 : Int32) = nI (cntN (lft g l) (tot g)) from rk1.1]
            refine exf_go 4 (show vp_in (3 : Int32) 4 ∧ (rN h1 87 3 = true → Go (d + 5) true 151 42 [.ref 10, .int 3, mk_, mk_] [.ref 94, .int (nI (cntN (lft g l) (tot g)))] h1 Q) ∧ (rN h1 87 3 = false → Go (d + 5) true 151 42 [.ref 10, .int 3, mk_, mk_] [.null, .int (nI (cntN (lft g l) (tot g)))] h1 Q) from ⟨vp_in_nI (n := 3) (by decide) (by decide), fun c26 => ?_, fun c26 => ?_⟩)
            · skip
              refine exf_go 1 (show Go (d + 5) true 151 45 [.ref 10, .int 3, mk_, mk_] [.int (rI h1 94 2), .int (nI (cntN (lft g l) (tot g)))] h1 Q from ?_)
              rw [show (rI h1 94 2 : Int32) = nI n from ct1.2.2.2.1]
              refine exf_go 1 (show wpC (d + 5) true 304 [.int (nI (cntN (lft g l) (tot g))), .int (nI n)] h1 (fun r h' => Go (d + 5) true 151 48 [.ref 10, .int 3, mk_, mk_] [r] h' Q) from ?_)
              refine c_min (a := (cntN (lft g l) (tot g))) (b := n) (by omega) (by omega) ?_
              show Go (d + 5) true 151 48 [.ref 10, .int 3, mk_, mk_] [.int (nI (min (cntN (lft g l) (tot g)) n))] h1 Q
              refine exf_go 3 (show Go (d + 5) true 151 51 [.ref 10, .int 3, .int (nI (min (cntN (lft g l) (tot g)) n)), .int 0] [] h1 Q from ?_)
              have L51 : ∀ (k51 : Nat) (i : Nat) (h2 : Hp), (min (cntN (lft g l) (tot g)) n - i) < k51 → (i ≤ min (cntN (lft g l) (tot g)) n) → (Fq (sAt 95) h1 h2) → (CTA (va_up tr 3 (some (so, n, cpyV g l so i vs))) h2) → Go (d + 5) true 151 51 [.ref 10, .int 3, .int (nI (min (cntN (lft g l) (tot g)) n)), .int (nI i)] [] h2 Q := by
                intro k51
                induction k51 with
                | zero => intro i h2 hk; exact absurd hk (Nat.not_lt_zero _)
                | succ k51 ih51 =>
                  intro i h2 hk hi q2 ca2
                  have ct2 : CT 3 (some (so, n, cpyV g l so i vs)) h2 := by have := ca2 3 (by decide); rw [up_eq] at this; exact this
                  have rk2 := rkd_gq rk1 q2 rfl (fun _ => rfl)
                  have wf2 := q2.gq.2.2.2.1 wf1
                  refine exf_go 3 (show ((nI (min (cntN (lft g l) (tot g)) n)) ≤ (nI i) → Go (d + 5) true 151 81 [.ref 10, .int 3, .int (nI (min (cntN (lft g l) (tot g)) n)), .int (nI i)] [] h2 Q) ∧ (¬ ((nI (min (cntN (lft g l) (tot g)) n)) ≤ (nI i)) → Go (d + 5) true 151 56 [.ref 10, .int 3, .int (nI (min (cntN (lft g l) (tot g)) n)), .int (nI i)] [] h2 Q) from ⟨fun c27 => ?_, fun c27 => ?_⟩)
                  · skip
                    have c27 : (min (cntN (lft g l) (tot g)) n) ≤ i := (nI_leI (a := (min (cntN (lft g l) (tot g)) n)) (b := i) (by omega) (by omega)).mp c27
                    refine exf_go 2 (show Q (.int (nI (min (cntN (lft g l) (tot g)) n))) h2 from ?_)
                    simp only [dCopy, et, hq] at k
                    rw [show i = min (cntL g l) n from by unfold cntL; omega] at ca2
                    exact k _ ((C_cp g1).tr (T_cp (q2.mono (sAt_s (fun _ => rfl))))) ca2
                  · skip
                    have c27 : ¬ (min (cntN (lft g l) (tot g)) n) ≤ i := fun q => c27 ((nI_leI (a := (min (cntN (lft g l) (tot g)) n)) (b := i) (by omega) (by omega)).mpr q)
                    refine exf_go 4 (show vp_in (3 : Int32) 4 ∧ (rN h2 87 3 = true → Go (d + 5) true 151 62 [.ref 10, .int 3, .int (nI (min (cntN (lft g l) (tot g)) n)), .int (nI i)] [.ref 94] h2 Q) ∧ (rN h2 87 3 = false → Go (d + 5) true 151 62 [.ref 10, .int 3, .int (nI (min (cntN (lft g l) (tot g)) n)), .int (nI i)] [.null] h2 Q) from ⟨vp_in_nI (n := 3) (by decide) (by decide), fun c28 => ?_, fun c28 => ?_⟩)
                    · skip
                      refine exf_go 5 (show wpC (d + 5) true 49 [.ref 71, .int (nI i)] h2 (fun r h' => Go (d + 5) true 151 71 [.ref 10, .int 3, .int (nI (min (cntN (lft g l) (tot g)) n)), .int (nI i)] [r, .int (nI i), .ref 94] h' Q) from ?_)
                      refine c_atI cs.1 rk2 (j := i) (by omega) ?_
                      have hoi := ordE_in (E := (lft g l)) (g := g) (kn := (evr g)) (k := i) (by omega)
                      show Go (d + 5) true 151 71 [.ref 10, .int 3, .int (nI (min (cntN (lft g l) (tot g)) n)), .int (nI i)] [.int (nI (ordE (lft g l) g (evr g) i)), .int (nI i), .ref 94] h2 Q
                      refine exf_go 1 (show Go (d + 5) true 151 72 [.ref 10, .int 3, .int (nI (min (cntN (lft g l) (tot g)) n)), .int (nI i)] [.long ((nI (ordE (lft g l) g (evr g) i)).toInt64), .int (nI i), .ref 94] h2 Q from ?_)
                      rw [show ((nI (ordE (lft g l) g (evr g) i)).toInt64 : Int64) = lN (ordE (lft g l) g (evr g) i) from nI_l (n := (ordE (lft g l) g (evr g) i)) (by omega)]
                      refine exf_go 1 (show wpC (d + 5) true 105 [.ref 94, .int (nI i), .long (lN (ordE (lft g l) g (evr g) i))] h2 (fun _ h' => Go (d + 5) true 151 75 [.ref 10, .int 3, .int (nI (min (cntN (lft g l) (tot g)) n)), .int (nI i)] [] h' Q) from ?_)
                      refine c_put3 ct2 (i := i) (by omega) ?_
                      show Go (d + 5) true 151 75 [.ref 10, .int 3, .int (nI (min (cntN (lft g l) (tot g)) n)), .int (nI i)] [] (uJ h2 95 i (cutV so (lN (ordE (lft g l) g (evr g) i)))) Q
                      refine exf_go 1 (show Go (d + 5) true 151 78 [.ref 10, .int 3, .int (nI (min (cntN (lft g l) (tot g)) n)), .int ((nI i) + 1)] [] (uJ h2 95 i (cutV so (lN (ordE (lft g l) g (evr g) i)))) Q from ?_)
                      rw [show ((nI i) + 1 : Int32) = nI (i + 1) from nI_add i 1]
                      refine exf_go 1 (show Go (d + 5) true 151 51 [.ref 10, .int 3, .int (nI (min (cntN (lft g l) (tot g)) n)), .int (nI (i + 1))] [] (uJ h2 95 i (cutV so (lN (ordE (lft g l) g (evr g) i)))) Q from ?_)
                      exact ih51 (i + 1) _ (by omega) (by omega) (q2.uJ' _ _ _ rfl) (by rw [← cpy_s]; have := cta_put (i := i) (w := cutV so (lN (ordL g l i))) ca2 (by decide) ct2; rw [up_up] at this; exact this)
                    · skip
                      exact absurd (((wf2.2.2 87 3 rfl)).symm.trans c28) (by decide)
              exact L51 (min (cntN (lft g l) (tot g)) n + 1) 0 h1 (by omega) (by omega) Fq.rfl' (by rw [cpy_0, ← hq, up_self]; exact ca1)
            · skip
              exact absurd (((wf1.2.2 87 3 rfl)).symm.trans c26) (by decide)
          · skip
            exact absurd (by decide) c25
      · skip
        exact absurd (((wf.2.2 87 3 rfl)).symm.trans c23) (by decide)
    · skip
      exact absurd (by decide) c22
  · skip
    show Go (d + 5) true 151 4 [.ref 10, .int x, mk_, mk_] [.int 0] h Q
    refine exf_go 1 (show (¬ (0 : Int32) = 0 → Go (d + 5) true 151 10 [.ref 10, .int x, mk_, mk_] [] h Q) ∧ (¬ (¬ (0 : Int32) = 0) → Go (d + 5) true 151 7 [.ref 10, .int x, mk_, mk_] [] h Q) from ⟨fun c29 => ?_, fun c29 => ?_⟩)
    · skip
      exact absurd c29 (by decide)
    · skip
      refine exf_go 2 (show Q (.int (-2)) h from ?_)
      simp only [dCopy, et] at k; exact k _ Gq.rfl' ca
