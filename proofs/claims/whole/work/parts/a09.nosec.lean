/-! The model: seconds told in a tray. -/
theorem wn_2 {n : Nat} (hn : n ≤ 40) (h1 : ¬ lN n < 1) (h2 : ¬ (2 : Int64) < lN n) : ¬ (n < 1 ∨ 2 < n) := fun q => by
  rcases q with q | q
  · exact h1 ((pk_lLT (a := n) (b := 1) (by omega) (by omega)).mpr q)
  · exact h2 ((pk_lLT (a := 2) (b := n) (by omega) (by omega)).mpr q)
theorem wn_2n {n : Nat} (hn : n ≤ 40) (h : lN n < 1 ∨ (2 : Int64) < lN n) : n < 1 ∨ 2 < n := by
  rcases h with q | q
  · exact Or.inl ((pk_lLT (a := n) (b := 1) (by omega) (by omega)).mp q)
  · exact Or.inr ((pk_lLT (a := 2) (b := n) (by omega) (by omega)).mp q)
theorem wn_9 {x : Int64} (h : x < 0 ∨ (999 : Int64) < x) : ixL x 1000 = none := by
  rcases h with h | h
  · exact il_neg h
  · exact il_ge (lt_ge (N := 999) (by decide) (Int64.not_le.mpr h))
theorem m_noSec {d : Nat} {h : Hp} {tr : Nat → TrG} {x : Int32} {Q : Po} (ma : MTA tr h) (kn : ixN x 4 = none → Q (.int (-2)) h) (k6 : ∀ tt, ixN x 4 = some tt → tt < 4 → tr tt = none → Q (.int (-6)) h) (k4 : ∀ tt so n vs, ixN x 4 = some tt → tt < 4 → tr tt = some (so, n, vs) → (n < 1 ∨ 2 < n) → Q (.int (-4)) h) (k3 : ∀ tt so n vs, ixN x 4 = some tt → tt < 4 → tr tt = some (so, n, vs) → ¬ (n < 1 ∨ 2 < n) → awB vs 1000 n = false → Q (.int (-3)) h) (k0 : ∀ tt so n vs, ixN x 4 = some tt → x = nI tt → tt < 4 → tr tt = some (so, n, vs) → MT tt (some (so, n, vs)) h → ¬ (n < 1 ∨ 2 < n) → awB vs 1000 n = true → Q (.int 0) h) : wpC (d + 3) true 287 [.ref 130, .int x] h Q := by
  refine go_in rfl ?_
  refine exf_go 3 (show wpC (d + 2) true 257 [.ref 130, .int x] h (fun r h' => Go (d + 2) true 287 5 [.ref 130, .int x, mk_, mk_] [r] h' Q) from ?_)
  refine m_noTray (x := x) ma (fun et => ?_) (fun tt et etq etr hq => ?_) (fun tt so n vs et etq etr hq mt => ?_)
  · skip
    show Go (d + 2) true 287 5 [.ref 130, .int x, mk_, mk_] [.int (-2)] h Q
    refine exf_go 3 (show (((-2) : Int32) = 0 → Go (d + 2) true 287 12 [.ref 130, .int x, .int (-2), mk_] [] h Q) ∧ (¬ (((-2) : Int32) = 0) → Go (d + 2) true 287 10 [.ref 130, .int x, .int (-2), mk_] [] h Q) from ⟨fun c1 => ?_, fun c1 => ?_⟩)
    · skip
      exact absurd c1 (by decide)
    · skip
      refine exf_go 2 (show Q (.int (-2)) h from ?_)
      exact kn et
  · skip
    subst etq
    show Go (d + 2) true 287 5 [.ref 130, .int (nI tt), mk_, mk_] [.int (-6)] h Q
    refine exf_go 3 (show (((-6) : Int32) = 0 → Go (d + 2) true 287 12 [.ref 130, .int (nI tt), .int (-6), mk_] [] h Q) ∧ (¬ (((-6) : Int32) = 0) → Go (d + 2) true 287 10 [.ref 130, .int (nI tt), .int (-6), mk_] [] h Q) from ⟨fun c2 => ?_, fun c2 => ?_⟩)
    · skip
      exact absurd c2 (by decide)
    · skip
      refine exf_go 2 (show Q (.int (-6)) h from ?_)
      exact k6 tt et etr hq
  · skip
    subst etq
    have hn4 := mt.2.1; have hs3 := mt.1
    show Go (d + 2) true 287 5 [.ref 130, .int (nI tt), mk_, mk_] [.int 0] h Q
    refine exf_go 3 (show ((0 : Int32) = 0 → Go (d + 2) true 287 12 [.ref 130, .int (nI tt), .int 0, mk_] [] h Q) ∧ (¬ ((0 : Int32) = 0) → Go (d + 2) true 287 10 [.ref 130, .int (nI tt), .int 0, mk_] [] h Q) from ⟨fun c3 => ?_, fun c3 => ?_⟩)
    · skip
      refine exf_go 4 (show vp_in (nI tt) 4 ∧ (Go (d + 2) true 287 18 [.ref 130, .int (nI tt), .int 0, mk_] [.int (rI h 150 ((nI tt).toNatClampNeg))] h Q) from ⟨(vp_in_nI (by omega) (by omega)), ?_⟩)
      rw [show (rI h 150 ((nI tt).toNatClampNeg) : Int32) = nI n from by rw [nI_clamp (by omega)]; exact mt.2.2.2.1]
      refine exf_go 1 (show Go (d + 2) true 287 19 [.ref 130, .int (nI tt), .int 0, mk_] [.long ((nI n).toInt64)] h Q from ?_)
      rw [show ((nI n).toInt64 : Int64) = lN n from nI_l (n := n) (by omega)]
      refine exf_go 3 (show wpC (d + 2) true 183 [.long (lN n), .long 1, .long 2] h (fun r h' => Go (d + 2) true 287 26 [.ref 130, .int (nI tt), .int 0, mk_] [r] h' Q) from ?_)
      refine m_within (fun u4 v4 => ?_) (fun u4 => ?_)
      · skip
        have h12 := wn_2 hn4 u4 v4
        show Go (d + 2) true 287 26 [.ref 130, .int (nI tt), .int 0, mk_] [.int 1] h Q
        refine exf_go 1 (show (¬ (1 : Int32) = 0 → Go (d + 2) true 287 32 [.ref 130, .int (nI tt), .int 0, mk_] [] h Q) ∧ (¬ (¬ (1 : Int32) = 0) → Go (d + 2) true 287 29 [.ref 130, .int (nI tt), .int 0, mk_] [] h Q) from ⟨fun c5 => ?_, fun c5 => ?_⟩)
        · skip
          refine exf_go 2 (show Go (d + 2) true 287 34 [.ref 130, .int (nI tt), .int 0, .int 0] [] h Q from ?_)
          have L34 : ∀ (k34 : Nat) (i : Nat), (n - i) < k34 → (i ≤ n) → (awB vs 1000 i = true) → Go (d + 2) true 287 34 [.ref 130, .int (nI tt), .int 0, .int (nI i)] [] h Q := by
            intro k34
            induction k34 with
            | zero => intro i hk; exact absurd hk (Nat.not_lt_zero _)
            | succ k34 ih34 =>
              intro i hk hi ha
              refine exf_go 5 (show vp_in (nI tt) 4 ∧ (Go (d + 2) true 287 41 [.ref 130, .int (nI tt), .int 0, .int (nI i)] [.int (rI h 150 ((nI tt).toNatClampNeg)), .int (nI i)] h Q) from ⟨(vp_in_nI (by omega) (by omega)), ?_⟩)
              rw [show (rI h 150 ((nI tt).toNatClampNeg) : Int32) = nI n from by rw [nI_clamp (by omega)]; exact mt.2.2.2.1]
              refine exf_go 1 (show ((nI n) ≤ (nI i) → Go (d + 2) true 287 74 [.ref 130, .int (nI tt), .int 0, .int (nI i)] [] h Q) ∧ (¬ ((nI n) ≤ (nI i)) → Go (d + 2) true 287 44 [.ref 130, .int (nI tt), .int 0, .int (nI i)] [] h Q) from ⟨fun c6 => ?_, fun c6 => ?_⟩)
              · skip
                have c6 : n ≤ i := (nI_leI (a := n) (b := i) (by omega) (by omega)).mp c6
                refine exf_go 2 (show Q (.int 0) h from ?_)
                exact k0 tt so n vs et rfl etr hq mt h12 (by rw [← show i = n from by omega]; exact ha)
              · skip
                have c6 : ¬ n ≤ i := fun q => c6 ((nI_leI (a := n) (b := i) (by omega) (by omega)).mpr q)
                refine exf_go 5 (show Go (d + 2) true 287 52 [.ref 130, .int (nI tt), .int 0, .int (nI i)] [.int (40 * (nI tt)), .ref 151] h Q from ?_)
                rw [show (40 * (nI tt) : Int32) = nI (40 * tt) from pk_mul 40 tt]
                refine exf_go 2 (show Go (d + 2) true 287 54 [.ref 130, .int (nI tt), .int 0, .int (nI i)] [.int ((nI (40 * tt)) + (nI i)), .ref 151] h Q from ?_)
                rw [show ((nI (40 * tt)) + (nI i) : Int32) = nI ((40 * tt) + i) from nI_add (40 * tt) i]
                refine exf_go 1 (show vp_in (nI ((40 * tt) + i)) 160 ∧ (Go (d + 2) true 287 55 [.ref 130, .int (nI tt), .int 0, .int (nI i)] [.long (rJ h 151 ((nI ((40 * tt) + i)).toNatClampNeg))] h Q) from ⟨(vp_in_nI (by omega) (by omega)), ?_⟩)
                rw [show (rJ h 151 ((nI ((40 * tt) + i)).toNatClampNeg) : Int64) = vs i from by rw [nI_clamp (by omega)]; exact mt.2.2.2.2 _ (by omega)]
                refine exf_go 3 (show wpC (d + 2) true 183 [.long (vs i), .long 0, .long 999] h (fun r h' => Go (d + 2) true 287 62 [.ref 130, .int (nI tt), .int 0, .int (nI i)] [r] h' Q) from ?_)
                refine m_within (fun u7 v7 => ?_) (fun u7 => ?_)
                · skip
                  have hso := aw_some (N := 999) (by decide) u7 (Int64.not_lt.mp v7)
                  show Go (d + 2) true 287 62 [.ref 130, .int (nI tt), .int 0, .int (nI i)] [.int 1] h Q
                  refine exf_go 1 (show (¬ (1 : Int32) = 0 → Go (d + 2) true 287 68 [.ref 130, .int (nI tt), .int 0, .int (nI i)] [] h Q) ∧ (¬ (¬ (1 : Int32) = 0) → Go (d + 2) true 287 65 [.ref 130, .int (nI tt), .int 0, .int (nI i)] [] h Q) from ⟨fun c8 => ?_, fun c8 => ?_⟩)
                  · skip
                    refine exf_go 1 (show Go (d + 2) true 287 71 [.ref 130, .int (nI tt), .int 0, .int ((nI i) + 1)] [] h Q from ?_)
                    rw [show ((nI i) + 1 : Int32) = nI (i + 1) from nI_add i 1]
                    refine exf_go 1 (show Go (d + 2) true 287 34 [.ref 130, .int (nI tt), .int 0, .int (nI (i + 1))] [] h Q from ?_)
                    exact ih34 (i + 1) (by omega) (by omega) (by rw [awB, ha, hso]; rfl)
                  · skip
                    exact absurd (by decide) c8
                · skip
                  have hno := wn_9 u7
                  show Go (d + 2) true 287 62 [.ref 130, .int (nI tt), .int 0, .int (nI i)] [.int 0] h Q
                  refine exf_go 1 (show (¬ (0 : Int32) = 0 → Go (d + 2) true 287 68 [.ref 130, .int (nI tt), .int 0, .int (nI i)] [] h Q) ∧ (¬ (¬ (0 : Int32) = 0) → Go (d + 2) true 287 65 [.ref 130, .int (nI tt), .int 0, .int (nI i)] [] h Q) from ⟨fun c9 => ?_, fun c9 => ?_⟩)
                  · skip
                    exact absurd c9 (by decide)
                  · skip
                    refine exf_go 2 (show Q (.int (-3)) h from ?_)
                    exact k3 tt so n vs et etr hq h12 (aw_no hno n (by omega))
          exact L34 (n + 1) 0 (by omega) (by omega) rfl
        · skip
          exact absurd (by decide) c5
      · skip
        have h12 := wn_2n hn4 u4
        show Go (d + 2) true 287 26 [.ref 130, .int (nI tt), .int 0, mk_] [.int 0] h Q
        refine exf_go 1 (show (¬ (0 : Int32) = 0 → Go (d + 2) true 287 32 [.ref 130, .int (nI tt), .int 0, mk_] [] h Q) ∧ (¬ (¬ (0 : Int32) = 0) → Go (d + 2) true 287 29 [.ref 130, .int (nI tt), .int 0, mk_] [] h Q) from ⟨fun c10 => ?_, fun c10 => ?_⟩)
        · skip
          exact absurd c10 (by decide)
        · skip
          refine exf_go 2 (show Q (.int (-4)) h from ?_)
          exact k4 tt so n vs et etr hq h12
    · skip
      exact absurd (by decide) c3
