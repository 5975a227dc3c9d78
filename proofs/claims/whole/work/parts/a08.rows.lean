/-! The class's rows. -/
def sec (v : Int64) : Nat := (ixL v 1000).getD 0
def fRows (g : ShG) (l : LkG) (tr : Nat → TrG) (x : Int32) : Int64 := match ixN x 4 with
  | none => -2
  | some t => match tr t with
    | none => -6
    | some (_, n, vs) => if n < 1 ∨ 2 < n then -4 else if awB vs 1000 n = true then (if n = 1 then lN (cntN (fun m => decide (trn g (lA l) m = sec (vs 0))) (tot g)) else lN (fRow2 g (lA l) (sec (vs 0)) (sec (vs 1)))) else -3
theorem sec_at {vs : Nat → Int64} {n i : Nat} (h : awB vs 1000 n = true) (hi : i < n) : vs i = lN (sec (vs i)) ∧ sec (vs i) < 1000 := by
  obtain ⟨j, e1, e2, e3⟩ := aw_at (by decide) n h i hi
  unfold sec
  rw [e1]
  exact ⟨e2, e3⟩
theorem c_rows {d : Nat} {h : Hp} {g : ShG} {l : LkG} {tr : Nat → TrG} {x : Int32} {Q : Po} (wf : WF h) (cs : CS 31 g h) (cl : CL 39 g l h) (ca : CTA tr h) (k : ∀ h1, Gq scC h h1 → Q (.long (fRows g l tr x)) h1) : wpC (d + 6) true 147 [.ref 10, .int x] h Q := by
  have hN := tot_b cs.1
  have he := evr_b cs.1
  have h8 := cs.1.2.2.2.1
  have h4 := cs.1.2.2.2.2.2.1
  refine go_in rfl ?_
  refine exf_go 2 (show wpC (d + 5) true 159 [.int x] h (fun r h' => Go (d + 5) true 147 4 [.ref 10, .int x, mk_, mk_] [r] h' Q) from ?_)
  refine c_isTray (x := x) (fun et etq => ?_) (fun et etq => ?_) (fun et etq => ?_) (fun et etq => ?_) (fun et => ?_)
  · skip
    subst etq
    show Go (d + 5) true 147 4 [.ref 10, .int 0, mk_, mk_] [.int 1] h Q
    refine exf_go 1 (show (¬ (1 : Int32) = 0 → Go (d + 5) true 147 11 [.ref 10, .int 0, mk_, mk_] [] h Q) ∧ (¬ (¬ (1 : Int32) = 0) → Go (d + 5) true 147 7 [.ref 10, .int 0, mk_, mk_] [] h Q) from ⟨fun c1 => ?_, fun c1 => ?_⟩)
    · skip
      refine exf_go 4 (show vp_in (0 : Int32) 4 ∧ (rN h 87 0 = true → Go (d + 5) true 147 17 [.ref 10, .int 0, mk_, mk_] [.ref 88] h Q) ∧ (rN h 87 0 = false → Go (d + 5) true 147 17 [.ref 10, .int 0, mk_, mk_] [.null] h Q) from ⟨vp_in_nI (n := 0) (by decide) (by decide), fun c2 => ?_, fun c2 => ?_⟩)
      · skip
        refine exf_go 3 (show wpC (d + 5) true 102 [.ref 88] h (fun r h' => Go (d + 5) true 147 22 [.ref 10, .int 0, .ref 88, mk_] [r] h' Q) from ?_)
        rcases hq : tr 0 with _ | ⟨so, n, vs⟩
        · skip
          have ct : CT 0 none h := by have := ca 0 (by decide); rw [hq] at this; exact this
          refine c_miss10 ct ?_
          show Go (d + 5) true 147 22 [.ref 10, .int 0, .ref 88, mk_] [.int 1] h Q
          refine exf_go 1 (show ((1 : Int32) = 0 → Go (d + 5) true 147 29 [.ref 10, .int 0, .ref 88, mk_] [] h Q) ∧ (¬ ((1 : Int32) = 0) → Go (d + 5) true 147 25 [.ref 10, .int 0, .ref 88, mk_] [] h Q) from ⟨fun c3 => ?_, fun c3 => ?_⟩)
          · skip
            exact absurd c3 (by decide)
          · skip
            refine exf_go 2 (show Q (.long (-6)) h from ?_)
            simp only [fRows, et, hq] at k; exact k _ Gq.rfl'
        · skip
          have ct : CT 0 (some (so, n, vs)) h := by have := ca 0 (by decide); rw [hq] at this; exact this
          have hn4 := ct.2.1; have hs3 := ct.1
          refine c_miss00 ct ?_
          show Go (d + 5) true 147 22 [.ref 10, .int 0, .ref 88, mk_] [.int 0] h Q
          refine exf_go 1 (show ((0 : Int32) = 0 → Go (d + 5) true 147 29 [.ref 10, .int 0, .ref 88, mk_] [] h Q) ∧ (¬ ((0 : Int32) = 0) → Go (d + 5) true 147 25 [.ref 10, .int 0, .ref 88, mk_] [] h Q) from ⟨fun c4 => ?_, fun c4 => ?_⟩)
          · skip
            refine exf_go 2 (show Go (d + 5) true 147 33 [.ref 10, .int 0, .ref 88, mk_] [.int (rI h 88 2)] h Q from ?_)
            rw [show (rI h 88 2 : Int32) = nI n from ct.2.2.2.1]
            refine exf_go 2 (show ((nI n) < 1 → Go (d + 5) true 147 45 [.ref 10, .int 0, .ref 88, mk_] [] h Q) ∧ (¬ ((nI n) < 1) → Go (d + 5) true 147 37 [.ref 10, .int 0, .ref 88, mk_] [] h Q) from ⟨fun c5 => ?_, fun c5 => ?_⟩)
            · skip
              have c5 : n < 1 := (nI_ltI (a := n) (b := 1) (by omega) (by omega)).mp c5
              refine exf_go 2 (show Q (.long (-4)) h from ?_)
              simp only [fRows, et, hq] at k; rw [if_pos (by omega)] at k; exact k _ Gq.rfl'
            · skip
              have c5 : ¬ n < 1 := fun q => c5 ((nI_ltI (a := n) (b := 1) (by omega) (by omega)).mpr q)
              refine exf_go 2 (show Go (d + 5) true 147 41 [.ref 10, .int 0, .ref 88, mk_] [.int (rI h 88 2)] h Q from ?_)
              rw [show (rI h 88 2 : Int32) = nI n from ct.2.2.2.1]
              refine exf_go 2 (show ((nI n) ≤ 2 → Go (d + 5) true 147 49 [.ref 10, .int 0, .ref 88, mk_] [] h Q) ∧ (¬ ((nI n) ≤ 2) → Go (d + 5) true 147 45 [.ref 10, .int 0, .ref 88, mk_] [] h Q) from ⟨fun c6 => ?_, fun c6 => ?_⟩)
              · skip
                have c6 : n ≤ 2 := (nI_leI (a := n) (b := 2) (by omega) (by omega)).mp c6
                refine exf_go 3 (show wpC (d + 5) true 106 [.ref 88, .int 999] h (fun r h' => Go (d + 5) true 147 56 [.ref 10, .int 0, .ref 88, mk_] [r] h' Q) from ?_)
                refine c_aw0 ct (N := 999) (by omega) (fun haw => ?_) (fun haw => ?_)
                · skip
                  show Go (d + 5) true 147 56 [.ref 10, .int 0, .ref 88, mk_] [.int 1] h Q
                  refine exf_go 1 (show (¬ (1 : Int32) = 0 → Go (d + 5) true 147 63 [.ref 10, .int 0, .ref 88, mk_] [] h Q) ∧ (¬ (¬ (1 : Int32) = 0) → Go (d + 5) true 147 59 [.ref 10, .int 0, .ref 88, mk_] [] h Q) from ⟨fun c7 => ?_, fun c7 => ?_⟩)
                  · skip
                    refine exf_go 3 (show wpC (d + 5) true 104 [.ref 88, .int 0] h (fun r h' => Go (d + 5) true 147 68 [.ref 10, .int 0, .ref 88, mk_] [r] h' Q) from ?_)
                    have hs0 := sec_at haw (i := 0) (by omega)
                    refine c_tat0 ct (i := 0) (by omega) ?_
                    rw [hs0.1]
                    show Go (d + 5) true 147 68 [.ref 10, .int 0, .ref 88, mk_] [.long (lN (sec (vs 0)))] h Q
                    refine exf_go 1 (show Go (d + 5) true 147 69 [.ref 10, .int 0, .ref 88, mk_] [.int ((lN (sec (vs 0))).toInt32)] h Q from ?_)
                    rw [show ((lN (sec (vs 0))).toInt32 : Int32) = nI (sec (vs 0)) from lN_i _]
                    refine exf_go 3 (show Go (d + 5) true 147 74 [.ref 10, .int 0, .ref 88, .int (nI (sec (vs 0)))] [.int (rI h 88 2)] h Q from ?_)
                    rw [show (rI h 88 2 : Int32) = nI n from ct.2.2.2.1]
                    refine exf_go 2 (show (¬ (nI n) = 1 → Go (d + 5) true 147 98 [.ref 10, .int 0, .ref 88, .int (nI (sec (vs 0)))] [] h Q) ∧ (¬ (¬ (nI n) = 1) → Go (d + 5) true 147 78 [.ref 10, .int 0, .ref 88, .int (nI (sec (vs 0)))] [] h Q) from ⟨fun c8 => ?_, fun c8 => ?_⟩)
                    · skip
                      have c8 : ¬ n = 1 := fun q => c8 ((nI_eq (a := n) (b := 1) (by omega) (by omega)).mpr q)
                      refine exf_go 7 (show Go (d + 5) true 147 113 [.ref 10, .int 0, .ref 88, .int (nI (sec (vs 0)))] [.int (rI h 39 3), .ref 31, .ref 85] h Q from ?_)
                      rw [show (rI h 39 3 : Int32) = nI (lA l) from cl_A cl]
                      refine exf_go 4 (show wpC (d + 5) true 104 [.ref 88, .int 1] h (fun r h' => Go (d + 5) true 147 119 [.ref 10, .int 0, .ref 88, .int (nI (sec (vs 0)))] [r, .int (nI (sec (vs 0))), .int (nI (lA l)), .ref 31, .ref 85] h' Q) from ?_)
                      have hs1 := sec_at haw (i := 1) (by omega)
                      refine c_tat0 ct (i := 1) (by omega) ?_
                      rw [hs1.1]
                      show Go (d + 5) true 147 119 [.ref 10, .int 0, .ref 88, .int (nI (sec (vs 0)))] [.long (lN (sec (vs 1))), .int (nI (sec (vs 0))), .int (nI (lA l)), .ref 31, .ref 85] h Q
                      refine exf_go 1 (show Go (d + 5) true 147 120 [.ref 10, .int 0, .ref 88, .int (nI (sec (vs 0)))] [.int ((lN (sec (vs 1))).toInt32), .int (nI (sec (vs 0))), .int (nI (lA l)), .ref 31, .ref 85] h Q from ?_)
                      rw [show ((lN (sec (vs 1))).toInt32 : Int32) = nI (sec (vs 1)) from lN_i _]
                      refine exf_go 1 (show wpC (d + 5) true 43 [.ref 85, .ref 31, .int (nI (lA l)), .int (nI (sec (vs 0))), .int (nI (sec (vs 1)))] h (fun r h' => Go (d + 5) true 147 123 [.ref 10, .int 0, .ref 88, .int (nI (sec (vs 0)))] [r] h' Q) from ?_)
                      refine c_pairs wf cs cl.1.1 hs0.2 hs1.2 (fun h9 g9 => ?_)
                      show Go (d + 5) true 147 123 [.ref 10, .int 0, .ref 88, .int (nI (sec (vs 0)))] [.long (lN (fPair g (lA l) (sec (vs 0)) (sec (vs 1))))] h9 Q
                      refine exf_go 1 (show Q (.long (lN (fPair g (lA l) (sec (vs 0)) (sec (vs 1))))) h9 from ?_)
                      simp only [fRows, et, hq] at k; rw [if_neg (by omega), if_pos haw, if_neg (by omega), ← fPair_row cs.1 cl.1.1] at k; exact k _ g9
                    · skip
                      have c8 : n = 1 := (nI_eq (a := n) (b := 1) (by omega) (by omega)).mp (Classical.not_not.mp c8)
                      refine exf_go 7 (show Go (d + 5) true 147 93 [.ref 10, .int 0, .ref 88, .int (nI (sec (vs 0)))] [.int (rI h 39 3), .ref 31, .ref 85] h Q from ?_)
                      rw [show (rI h 39 3 : Int32) = nI (lA l) from cl_A cl]
                      refine exf_go 2 (show wpC (d + 5) true 42 [.ref 85, .ref 31, .int (nI (lA l)), .int (nI (sec (vs 0)))] h (fun r h' => Go (d + 5) true 147 97 [.ref 10, .int 0, .ref 88, .int (nI (sec (vs 0)))] [r] h' Q) from ?_)
                      refine c_single cs cl.1.1 (s := sec (vs 0)) hs0.2 ?_
                      show Go (d + 5) true 147 97 [.ref 10, .int 0, .ref 88, .int (nI (sec (vs 0)))] [.long (lN (cntN (fun n => decide (trn g (lA l) n = sec (vs 0))) (tot g)))] h Q
                      refine exf_go 1 (show Q (.long (lN (cntN (fun n => decide (trn g (lA l) n = sec (vs 0))) (tot g)))) h from ?_)
                      simp only [fRows, et, hq] at k; rw [if_neg (by omega), if_pos haw, if_pos (by omega)] at k; exact k _ Gq.rfl'
                  · skip
                    exact absurd (by decide) c7
                · skip
                  show Go (d + 5) true 147 56 [.ref 10, .int 0, .ref 88, mk_] [.int 0] h Q
                  refine exf_go 1 (show (¬ (0 : Int32) = 0 → Go (d + 5) true 147 63 [.ref 10, .int 0, .ref 88, mk_] [] h Q) ∧ (¬ (¬ (0 : Int32) = 0) → Go (d + 5) true 147 59 [.ref 10, .int 0, .ref 88, mk_] [] h Q) from ⟨fun c9 => ?_, fun c9 => ?_⟩)
                  · skip
                    exact absurd c9 (by decide)
                  · skip
                    refine exf_go 2 (show Q (.long (-3)) h from ?_)
                    simp only [fRows, et, hq] at k; rw [if_neg (by omega), if_neg (by rw [haw]; decide)] at k; exact k _ Gq.rfl'
              · skip
                have c6 : ¬ n ≤ 2 := fun q => c6 ((nI_leI (a := n) (b := 2) (by omega) (by omega)).mpr q)
                refine exf_go 2 (show Q (.long (-4)) h from ?_)
                simp only [fRows, et, hq] at k; rw [if_pos (by omega)] at k; exact k _ Gq.rfl'
          · skip
            exact absurd (by decide) c4
      · skip
        exact absurd (((wf.2.2 87 0 rfl)).symm.trans c2) (by decide)
    · skip
      exact absurd (by decide) c1
  · skip
    subst etq
    show Go (d + 5) true 147 4 [.ref 10, .int 1, mk_, mk_] [.int 1] h Q
    refine exf_go 1 (show (¬ (1 : Int32) = 0 → Go (d + 5) true 147 11 [.ref 10, .int 1, mk_, mk_] [] h Q) ∧ (¬ (¬ (1 : Int32) = 0) → Go (d + 5) true 147 7 [.ref 10, .int 1, mk_, mk_] [] h Q) from ⟨fun c10 => ?_, fun c10 => ?_⟩)
    · skip
      refine exf_go 4 (show vp_in (1 : Int32) 4 ∧ (rN h 87 1 = true → Go (d + 5) true 147 17 [.ref 10, .int 1, mk_, mk_] [.ref 90] h Q) ∧ (rN h 87 1 = false → Go (d + 5) true 147 17 [.ref 10, .int 1, mk_, mk_] [.null] h Q) from ⟨vp_in_nI (n := 1) (by decide) (by decide), fun c11 => ?_, fun c11 => ?_⟩)
      · skip
        refine exf_go 3 (show wpC (d + 5) true 102 [.ref 90] h (fun r h' => Go (d + 5) true 147 22 [.ref 10, .int 1, .ref 90, mk_] [r] h' Q) from ?_)
        rcases hq : tr 1 with _ | ⟨so, n, vs⟩
        · skip
          have ct : CT 1 none h := by have := ca 1 (by decide); rw [hq] at this; exact this
          refine c_miss11 ct ?_
          show Go (d + 5) true 147 22 [.ref 10, .int 1, .ref 90, mk_] [.int 1] h Q
          refine exf_go 1 (show ((1 : Int32) = 0 → Go (d + 5) true 147 29 [.ref 10, .int 1, .ref 90, mk_] [] h Q) ∧ (¬ ((1 : Int32) = 0) → Go (d + 5) true 147 25 [.ref 10, .int 1, .ref 90, mk_] [] h Q) from ⟨fun c12 => ?_, fun c12 => ?_⟩)
          · skip
            exact absurd c12 (by decide)
          · skip
            refine exf_go 2 (show Q (.long (-6)) h from ?_)
            simp only [fRows, et, hq] at k; exact k _ Gq.rfl'
        · skip
          have ct : CT 1 (some (so, n, vs)) h := by have := ca 1 (by decide); rw [hq] at this; exact this
          have hn4 := ct.2.1; have hs3 := ct.1
          refine c_miss01 ct ?_
          show Go (d + 5) true 147 22 [.ref 10, .int 1, .ref 90, mk_] [.int 0] h Q
          refine exf_go 1 (show ((0 : Int32) = 0 → Go (d + 5) true 147 29 [.ref 10, .int 1, .ref 90, mk_] [] h Q) ∧ (¬ ((0 : Int32) = 0) → Go (d + 5) true 147 25 [.ref 10, .int 1, .ref 90, mk_] [] h Q) from ⟨fun c13 => ?_, fun c13 => ?_⟩)
          · skip
            refine exf_go 2 (show Go (d + 5) true 147 33 [.ref 10, .int 1, .ref 90, mk_] [.int (rI h 90 2)] h Q from ?_)
            rw [show (rI h 90 2 : Int32) = nI n from ct.2.2.2.1]
            refine exf_go 2 (show ((nI n) < 1 → Go (d + 5) true 147 45 [.ref 10, .int 1, .ref 90, mk_] [] h Q) ∧ (¬ ((nI n) < 1) → Go (d + 5) true 147 37 [.ref 10, .int 1, .ref 90, mk_] [] h Q) from ⟨fun c14 => ?_, fun c14 => ?_⟩)
            · skip
              have c14 : n < 1 := (nI_ltI (a := n) (b := 1) (by omega) (by omega)).mp c14
              refine exf_go 2 (show Q (.long (-4)) h from ?_)
              simp only [fRows, et, hq] at k; rw [if_pos (by omega)] at k; exact k _ Gq.rfl'
            · skip
              have c14 : ¬ n < 1 := fun q => c14 ((nI_ltI (a := n) (b := 1) (by omega) (by omega)).mpr q)
              refine exf_go 2 (show Go (d + 5) true 147 41 [.ref 10, .int 1, .ref 90, mk_] [.int (rI h 90 2)] h Q from ?_)
              rw [show (rI h 90 2 : Int32) = nI n from ct.2.2.2.1]
              refine exf_go 2 (show ((nI n) ≤ 2 → Go (d + 5) true 147 49 [.ref 10, .int 1, .ref 90, mk_] [] h Q) ∧ (¬ ((nI n) ≤ 2) → Go (d + 5) true 147 45 [.ref 10, .int 1, .ref 90, mk_] [] h Q) from ⟨fun c15 => ?_, fun c15 => ?_⟩)
              · skip
                have c15 : n ≤ 2 := (nI_leI (a := n) (b := 2) (by omega) (by omega)).mp c15
                refine exf_go 3 (show wpC (d + 5) true 106 [.ref 90, .int 999] h (fun r h' => Go (d + 5) true 147 56 [.ref 10, .int 1, .ref 90, mk_] [r] h' Q) from ?_)
                refine c_aw1 ct (N := 999) (by omega) (fun haw => ?_) (fun haw => ?_)
                · skip
                  show Go (d + 5) true 147 56 [.ref 10, .int 1, .ref 90, mk_] [.int 1] h Q
                  refine exf_go 1 (show (¬ (1 : Int32) = 0 → Go (d + 5) true 147 63 [.ref 10, .int 1, .ref 90, mk_] [] h Q) ∧ (¬ (¬ (1 : Int32) = 0) → Go (d + 5) true 147 59 [.ref 10, .int 1, .ref 90, mk_] [] h Q) from ⟨fun c16 => ?_, fun c16 => ?_⟩)
                  · skip
                    refine exf_go 3 (show wpC (d + 5) true 104 [.ref 90, .int 0] h (fun r h' => Go (d + 5) true 147 68 [.ref 10, .int 1, .ref 90, mk_] [r] h' Q) from ?_)
                    have hs0 := sec_at haw (i := 0) (by omega)
                    refine c_tat1 ct (i := 0) (by omega) ?_
                    rw [hs0.1]
                    show Go (d + 5) true 147 68 [.ref 10, .int 1, .ref 90, mk_] [.long (lN (sec (vs 0)))] h Q
                    refine exf_go 1 (show Go (d + 5) true 147 69 [.ref 10, .int 1, .ref 90, mk_] [.int ((lN (sec (vs 0))).toInt32)] h Q from ?_)
                    rw [show ((lN (sec (vs 0))).toInt32 : Int32) = nI (sec (vs 0)) from lN_i _]
                    refine exf_go 3 (show Go (d + 5) true 147 74 [.ref 10, .int 1, .ref 90, .int (nI (sec (vs 0)))] [.int (rI h 90 2)] h Q from ?_)
                    rw [show (rI h 90 2 : Int32) = nI n from ct.2.2.2.1]
                    refine exf_go 2 (show (¬ (nI n) = 1 → Go (d + 5) true 147 98 [.ref 10, .int 1, .ref 90, .int (nI (sec (vs 0)))] [] h Q) ∧ (¬ (¬ (nI n) = 1) → Go (d + 5) true 147 78 [.ref 10, .int 1, .ref 90, .int (nI (sec (vs 0)))] [] h Q) from ⟨fun c17 => ?_, fun c17 => ?_⟩)
                    · skip
                      have c17 : ¬ n = 1 := fun q => c17 ((nI_eq (a := n) (b := 1) (by omega) (by omega)).mpr q)
                      refine exf_go 7 (show Go (d + 5) true 147 113 [.ref 10, .int 1, .ref 90, .int (nI (sec (vs 0)))] [.int (rI h 39 3), .ref 31, .ref 85] h Q from ?_)
                      rw [show (rI h 39 3 : Int32) = nI (lA l) from cl_A cl]
                      refine exf_go 4 (show wpC (d + 5) true 104 [.ref 90, .int 1] h (fun r h' => Go (d + 5) true 147 119 [.ref 10, .int 1, .ref 90, .int (nI (sec (vs 0)))] [r, .int (nI (sec (vs 0))), .int (nI (lA l)), .ref 31, .ref 85] h' Q) from ?_)
                      have hs1 := sec_at haw (i := 1) (by omega)
                      refine c_tat1 ct (i := 1) (by omega) ?_
                      rw [hs1.1]
                      show Go (d + 5) true 147 119 [.ref 10, .int 1, .ref 90, .int (nI (sec (vs 0)))] [.long (lN (sec (vs 1))), .int (nI (sec (vs 0))), .int (nI (lA l)), .ref 31, .ref 85] h Q
                      refine exf_go 1 (show Go (d + 5) true 147 120 [.ref 10, .int 1, .ref 90, .int (nI (sec (vs 0)))] [.int ((lN (sec (vs 1))).toInt32), .int (nI (sec (vs 0))), .int (nI (lA l)), .ref 31, .ref 85] h Q from ?_)
                      rw [show ((lN (sec (vs 1))).toInt32 : Int32) = nI (sec (vs 1)) from lN_i _]
                      refine exf_go 1 (show wpC (d + 5) true 43 [.ref 85, .ref 31, .int (nI (lA l)), .int (nI (sec (vs 0))), .int (nI (sec (vs 1)))] h (fun r h' => Go (d + 5) true 147 123 [.ref 10, .int 1, .ref 90, .int (nI (sec (vs 0)))] [r] h' Q) from ?_)
                      refine c_pairs wf cs cl.1.1 hs0.2 hs1.2 (fun h9 g9 => ?_)
                      show Go (d + 5) true 147 123 [.ref 10, .int 1, .ref 90, .int (nI (sec (vs 0)))] [.long (lN (fPair g (lA l) (sec (vs 0)) (sec (vs 1))))] h9 Q
                      refine exf_go 1 (show Q (.long (lN (fPair g (lA l) (sec (vs 0)) (sec (vs 1))))) h9 from ?_)
                      simp only [fRows, et, hq] at k; rw [if_neg (by omega), if_pos haw, if_neg (by omega), ← fPair_row cs.1 cl.1.1] at k; exact k _ g9
                    · skip
                      have c17 : n = 1 := (nI_eq (a := n) (b := 1) (by omega) (by omega)).mp (Classical.not_not.mp c17)
                      refine exf_go 7 (show Go (d + 5) true 147 93 [.ref 10, .int 1, .ref 90, .int (nI (sec (vs 0)))] [.int (rI h 39 3), .ref 31, .ref 85] h Q from ?_)
                      rw [show (rI h 39 3 : Int32) = nI (lA l) from cl_A cl]
                      refine exf_go 2 (show wpC (d + 5) true 42 [.ref 85, .ref 31, .int (nI (lA l)), .int (nI (sec (vs 0)))] h (fun r h' => Go (d + 5) true 147 97 [.ref 10, .int 1, .ref 90, .int (nI (sec (vs 0)))] [r] h' Q) from ?_)
                      refine c_single cs cl.1.1 (s := sec (vs 0)) hs0.2 ?_
                      show Go (d + 5) true 147 97 [.ref 10, .int 1, .ref 90, .int (nI (sec (vs 0)))] [.long (lN (cntN (fun n => decide (trn g (lA l) n = sec (vs 0))) (tot g)))] h Q
                      refine exf_go 1 (show Q (.long (lN (cntN (fun n => decide (trn g (lA l) n = sec (vs 0))) (tot g)))) h from ?_)
                      simp only [fRows, et, hq] at k; rw [if_neg (by omega), if_pos haw, if_pos (by omega)] at k; exact k _ Gq.rfl'
                  · skip
                    exact absurd (by decide) c16
                · skip
                  show Go (d + 5) true 147 56 [.ref 10, .int 1, .ref 90, mk_] [.int 0] h Q
                  refine exf_go 1 (show (¬ (0 : Int32) = 0 → Go (d + 5) true 147 63 [.ref 10, .int 1, .ref 90, mk_] [] h Q) ∧ (¬ (¬ (0 : Int32) = 0) → Go (d + 5) true 147 59 [.ref 10, .int 1, .ref 90, mk_] [] h Q) from ⟨fun c18 => ?_, fun c18 => ?_⟩)
                  · skip
                    exact absurd c18 (by decide)
                  · skip
                    refine exf_go 2 (show Q (.long (-3)) h from ?_)
                    simp only [fRows, et, hq] at k; rw [if_neg (by omega), if_neg (by rw [haw]; decide)] at k; exact k _ Gq.rfl'
              · skip
                have c15 : ¬ n ≤ 2 := fun q => c15 ((nI_leI (a := n) (b := 2) (by omega) (by omega)).mpr q)
                refine exf_go 2 (show Q (.long (-4)) h from ?_)
                simp only [fRows, et, hq] at k; rw [if_pos (by omega)] at k; exact k _ Gq.rfl'
          · skip
            exact absurd (by decide) c13
      · skip
        exact absurd (((wf.2.2 87 1 rfl)).symm.trans c11) (by decide)
    · skip
      exact absurd (by decide) c10
  · skip
    subst etq
    show Go (d + 5) true 147 4 [.ref 10, .int 2, mk_, mk_] [.int 1] h Q
    refine exf_go 1 (show (¬ (1 : Int32) = 0 → Go (d + 5) true 147 11 [.ref 10, .int 2, mk_, mk_] [] h Q) ∧ (¬ (¬ (1 : Int32) = 0) → Go (d + 5) true 147 7 [.ref 10, .int 2, mk_, mk_] [] h Q) from ⟨fun c19 => ?_, fun c19 => ?_⟩)
    · skip
      refine exf_go 4 (show vp_in (2 : Int32) 4 ∧ (rN h 87 2 = true → Go (d + 5) true 147 17 [.ref 10, .int 2, mk_, mk_] [.ref 92] h Q) ∧ (rN h 87 2 = false → Go (d + 5) true 147 17 [.ref 10, .int 2, mk_, mk_] [.null] h Q) from ⟨vp_in_nI (n := 2) (by decide) (by decide), fun c20 => ?_, fun c20 => ?_⟩)
      · skip
        refine exf_go 3 (show wpC (d + 5) true 102 [.ref 92] h (fun r h' => Go (d + 5) true 147 22 [.ref 10, .int 2, .ref 92, mk_] [r] h' Q) from ?_)
        rcases hq : tr 2 with _ | ⟨so, n, vs⟩
        · skip
          have ct : CT 2 none h := by have := ca 2 (by decide); rw [hq] at this; exact this
          refine c_miss12 ct ?_
          show Go (d + 5) true 147 22 [.ref 10, .int 2, .ref 92, mk_] [.int 1] h Q
          refine exf_go 1 (show ((1 : Int32) = 0 → Go (d + 5) true 147 29 [.ref 10, .int 2, .ref 92, mk_] [] h Q) ∧ (¬ ((1 : Int32) = 0) → Go (d + 5) true 147 25 [.ref 10, .int 2, .ref 92, mk_] [] h Q) from ⟨fun c21 => ?_, fun c21 => ?_⟩)
          · skip
            exact absurd c21 (by decide)
          · skip
            refine exf_go 2 (show Q (.long (-6)) h from ?_)
            simp only [fRows, et, hq] at k; exact k _ Gq.rfl'
        · skip
          have ct : CT 2 (some (so, n, vs)) h := by have := ca 2 (by decide); rw [hq] at this; exact this
          have hn4 := ct.2.1; have hs3 := ct.1
          refine c_miss02 ct ?_
          show Go (d + 5) true 147 22 [.ref 10, .int 2, .ref 92, mk_] [.int 0] h Q
          refine exf_go 1 (show ((0 : Int32) = 0 → Go (d + 5) true 147 29 [.ref 10, .int 2, .ref 92, mk_] [] h Q) ∧ (¬ ((0 : Int32) = 0) → Go (d + 5) true 147 25 [.ref 10, .int 2, .ref 92, mk_] [] h Q) from ⟨fun c22 => ?_, fun c22 => ?_⟩)
          · skip
            refine exf_go 2 (show Go (d + 5) true 147 33 [.ref 10, .int 2, .ref 92, mk_] [.int (rI h 92 2)] h Q from ?_)
            rw [show (rI h 92 2 : Int32) = nI n from ct.2.2.2.1]
            refine exf_go 2 (show ((nI n) < 1 → Go (d + 5) true 147 45 [.ref 10, .int 2, .ref 92, mk_] [] h Q) ∧ (¬ ((nI n) < 1) → Go (d + 5) true 147 37 [.ref 10, .int 2, .ref 92, mk_] [] h Q) from ⟨fun c23 => ?_, fun c23 => ?_⟩)
            · skip
              have c23 : n < 1 := (nI_ltI (a := n) (b := 1) (by omega) (by omega)).mp c23
              refine exf_go 2 (show Q (.long (-4)) h from ?_)
              simp only [fRows, et, hq] at k; rw [if_pos (by omega)] at k; exact k _ Gq.rfl'
            · skip
              have c23 : ¬ n < 1 := fun q => c23 ((nI_ltI (a := n) (b := 1) (by omega) (by omega)).mpr q)
              refine exf_go 2 (show Go (d + 5) true 147 41 [.ref 10, .int 2, .ref 92, mk_] [.int (rI h 92 2)] h Q from ?_)
              rw [show (rI h 92 2 : Int32) = nI n from ct.2.2.2.1]
              refine exf_go 2 (show ((nI n) ≤ 2 → Go (d + 5) true 147 49 [.ref 10, .int 2, .ref 92, mk_] [] h Q) ∧ (¬ ((nI n) ≤ 2) → Go (d + 5) true 147 45 [.ref 10, .int 2, .ref 92, mk_] [] h Q) from ⟨fun c24 => ?_, fun c24 => ?_⟩)
              · skip
                have c24 : n ≤ 2 := (nI_leI (a := n) (b := 2) (by omega) (by omega)).mp c24
                refine exf_go 3 (show wpC (d + 5) true 106 [.ref 92, .int 999] h (fun r h' => Go (d + 5) true 147 56 [.ref 10, .int 2, .ref 92, mk_] [r] h' Q) from ?_)
                refine c_aw2 ct (N := 999) (by omega) (fun haw => ?_) (fun haw => ?_)
                · skip
                  show Go (d + 5) true 147 56 [.ref 10, .int 2, .ref 92, mk_] [.int 1] h Q
                  refine exf_go 1 (show (¬ (1 : Int32) = 0 → Go (d + 5) true 147 63 [.ref 10, .int 2, .ref 92, mk_] [] h Q) ∧ (¬ (¬ (1 : Int32) = 0) → Go (d + 5) true 147 59 [.ref 10, .int 2, .ref 92, mk_] [] h Q) from ⟨fun c25 => ?_, fun c25 => ?_⟩)
                  · skip
                    refine exf_go 3 (show wpC (d + 5) true 104 [.ref 92, .int 0] h (fun r h' => Go (d + 5) true 147 68 [.ref 10, .int 2, .ref 92, mk_] [r] h' Q) from ?_)
                    have hs0 := sec_at haw (i := 0) (by omega)
                    refine c_tat2 ct (i := 0) (by omega) ?_
                    rw [hs0.1]
                    show Go (d + 5) true 147 68 [.ref 10, .int 2, .ref 92, mk_] [.long (lN (sec (vs 0)))] h Q
                    refine exf_go 1 (show Go (d + 5) true 147 69 [.ref 10, .int 2, .ref 92, mk_] [.int ((lN (sec (vs 0))).toInt32)] h Q from ?_)
                    rw [show ((lN (sec (vs 0))).toInt32 : Int32) = nI (sec (vs 0)) from lN_i _]
                    refine exf_go 3 (show Go (d + 5) true 147 74 [.ref 10, .int 2, .ref 92, .int (nI (sec (vs 0)))] [.int (rI h 92 2)] h Q from ?_)
                    rw [show (rI h 92 2 : Int32) = nI n from ct.2.2.2.1]
                    refine exf_go 2 (show (¬ (nI n) = 1 → Go (d + 5) true 147 98 [.ref 10, .int 2, .ref 92, .int (nI (sec (vs 0)))] [] h Q) ∧ (¬ (¬ (nI n) = 1) → Go (d + 5) true 147 78 [.ref 10, .int 2, .ref 92, .int (nI (sec (vs 0)))] [] h Q) from ⟨fun c26 => ?_, fun c26 => ?_⟩)
                    · skip
                      have c26 : ¬ n = 1 := fun q => c26 ((nI_eq (a := n) (b := 1) (by omega) (by omega)).mpr q)
                      refine exf_go 7 (show Go (d + 5) true 147 113 [.ref 10, .int 2, .ref 92, .int (nI (sec (vs 0)))] [.int (rI h 39 3), .ref 31, .ref 85] h Q from ?_)
                      rw [show (rI h 39 3 : Int32) = nI (lA l) from cl_A cl]
                      refine exf_go 4 (show wpC (d + 5) true 104 [.ref 92, .int 1] h (fun r h' => Go (d + 5) true 147 119 [.ref 10, .int 2, .ref 92, .int (nI (sec (vs 0)))] [r, .int (nI (sec (vs 0))), .int (nI (lA l)), .ref 31, .ref 85] h' Q) from ?_)
                      have hs1 := sec_at haw (i := 1) (by omega)
                      refine c_tat2 ct (i := 1) (by omega) ?_
                      rw [hs1.1]
                      show Go (d + 5) true 147 119 [.ref 10, .int 2, .ref 92, .int (nI (sec (vs 0)))] [.long (lN (sec (vs 1))), .int (nI (sec (vs 0))), .int (nI (lA l)), .ref 31, .ref 85] h Q
                      refine exf_go 1 (show Go (d + 5) true 147 120 [.ref 10, .int 2, .ref 92, .int (nI (sec (vs 0)))] [.int ((lN (sec (vs 1))).toInt32), .int (nI (sec (vs 0))), .int (nI (lA l)), .ref 31, .ref 85] h Q from ?_)
                      rw [show ((lN (sec (vs 1))).toInt32 : Int32) = nI (sec (vs 1)) from lN_i _]
                      refine exf_go 1 (show wpC (d + 5) true 43 [.ref 85, .ref 31, .int (nI (lA l)), .int (nI (sec (vs 0))), .int (nI (sec (vs 1)))] h (fun r h' => Go (d + 5) true 147 123 [.ref 10, .int 2, .ref 92, .int (nI (sec (vs 0)))] [r] h' Q) from ?_)
                      refine c_pairs wf cs cl.1.1 hs0.2 hs1.2 (fun h9 g9 => ?_)
                      show Go (d + 5) true 147 123 [.ref 10, .int 2, .ref 92, .int (nI (sec (vs 0)))] [.long (lN (fPair g (lA l) (sec (vs 0)) (sec (vs 1))))] h9 Q
                      refine exf_go 1 (show Q (.long (lN (fPair g (lA l) (sec (vs 0)) (sec (vs 1))))) h9 from ?_)
                      simp only [fRows, et, hq] at k; rw [if_neg (by omega), if_pos haw, if_neg (by omega), ← fPair_row cs.1 cl.1.1] at k; exact k _ g9
                    · skip
                      have c26 : n = 1 := (nI_eq (a := n) (b := 1) (by omega) (by omega)).mp (Classical.not_not.mp c26)
                      refine exf_go 7 (show Go (d + 5) true 147 93 [.ref 10, .int 2, .ref 92, .int (nI (sec (vs 0)))] [.int (rI h 39 3), .ref 31, .ref 85] h Q from ?_)
                      rw [show (rI h 39 3 : Int32) = nI (lA l) from cl_A cl]
                      refine exf_go 2 (show wpC (d + 5) true 42 [.ref 85, .ref 31, .int (nI (lA l)), .int (nI (sec (vs 0)))] h (fun r h' => Go (d + 5) true 147 97 [.ref 10, .int 2, .ref 92, .int (nI (sec (vs 0)))] [r] h' Q) from ?_)
                      refine c_single cs cl.1.1 (s := sec (vs 0)) hs0.2 ?_
                      show Go (d + 5) true 147 97 [.ref 10, .int 2, .ref 92, .int (nI (sec (vs 0)))] [.long (lN (cntN (fun n => decide (trn g (lA l) n = sec (vs 0))) (tot g)))] h Q
                      refine exf_go 1 (show Q (.long (lN (cntN (fun n => decide (trn g (lA l) n = sec (vs 0))) (tot g)))) h from ?_)
                      simp only [fRows, et, hq] at k; rw [if_neg (by omega), if_pos haw, if_pos (by omega)] at k; exact k _ Gq.rfl'
                  · skip
                    exact absurd (by decide) c25
                · skip
                  show Go (d + 5) true 147 56 [.ref 10, .int 2, .ref 92, mk_] [.int 0] h Q
                  refine exf_go 1 (show (¬ (0 : Int32) = 0 → Go (d + 5) true 147 63 [.ref 10, .int 2, .ref 92, mk_] [] h Q) ∧ (¬ (¬ (0 : Int32) = 0) → Go (d + 5) true 147 59 [.ref 10, .int 2, .ref 92, mk_] [] h Q) from ⟨fun c27 => ?_, fun c27 => ?_⟩)
                  · skip
                    exact absurd c27 (by decide)
                  · skip
                    refine exf_go 2 (show Q (.long (-3)) h from ?_)
                    simp only [fRows, et, hq] at k; rw [if_neg (by omega), if_neg (by rw [haw]; decide)] at k; exact k _ Gq.rfl'
              · skip
                have c24 : ¬ n ≤ 2 := fun q => c24 ((nI_leI (a := n) (b := 2) (by omega) (by omega)).mpr q)
                refine exf_go 2 (show Q (.long (-4)) h from ?_)
                simp only [fRows, et, hq] at k; rw [if_pos (by omega)] at k; exact k _ Gq.rfl'
          · skip
            exact absurd (by decide) c22
      · skip
        exact absurd (((wf.2.2 87 2 rfl)).symm.trans c20) (by decide)
    · skip
      exact absurd (by decide) c19
  · skip
    subst etq
    show Go (d + 5) true 147 4 [.ref 10, .int 3, mk_, mk_] [.int 1] h Q
    refine exf_go 1 (show (¬ (1 : Int32) = 0 → Go (d + 5) true 147 11 [.ref 10, .int 3, mk_, mk_] [] h Q) ∧ (¬ (¬ (1 : Int32) = 0) → Go (d + 5) true 147 7 [.ref 10, .int 3, mk_, mk_] [] h Q) from ⟨fun c28 => ?_, fun c28 => ?_⟩)
    · skip
      refine exf_go 4 (show vp_in (3 : Int32) 4 ∧ (rN h 87 3 = true → Go (d + 5) true 147 17 [.ref 10, .int 3, mk_, mk_] [.ref 94] h Q) ∧ (rN h 87 3 = false → Go (d + 5) true 147 17 [.ref 10, .int 3, mk_, mk_] [.null] h Q) from ⟨vp_in_nI (n := 3) (by decide) (by decide), fun c29 => ?_, fun c29 => ?_⟩)
      · skip
        refine exf_go 3 (show wpC (d + 5) true 102 [.ref 94] h (fun r h' => Go (d + 5) true 147 22 [.ref 10, .int 3, .ref 94, mk_] [r] h' Q) from ?_)
        rcases hq : tr 3 with _ | ⟨so, n, vs⟩
        · skip
          have ct : CT 3 none h := by have := ca 3 (by decide); rw [hq] at this; exact this
          refine c_miss13 ct ?_
          show Go (d + 5) true 147 22 [.ref 10, .int 3, .ref 94, mk_] [.int 1] h Q
          refine exf_go 1 (show ((1 : Int32) = 0 → Go (d + 5) true 147 29 [.ref 10, .int 3, .ref 94, mk_] [] h Q) ∧ (¬ ((1 : Int32) = 0) → Go (d + 5) true 147 25 [.ref 10, .int 3, .ref 94, mk_] [] h Q) from ⟨fun c30 => ?_, fun c30 => ?_⟩)
          · skip
            exact absurd c30 (by decide)
          · skip
            refine exf_go 2 (show Q (.long (-6)) h from ?_)
            simp only [fRows, et, hq] at k; exact k _ Gq.rfl'
        · skip
          have ct : CT 3 (some (so, n, vs)) h := by have := ca 3 (by decide); rw [hq] at this; exact this
          have hn4 := ct.2.1; have hs3 := ct.1
          refine c_miss03 ct ?_
          show Go (d + 5) true 147 22 [.ref 10, .int 3, .ref 94, mk_] [.int 0] h Q
          refine exf_go 1 (show ((0 : Int32) = 0 → Go (d + 5) true 147 29 [.ref 10, .int 3, .ref 94, mk_] [] h Q) ∧ (¬ ((0 : Int32) = 0) → Go (d + 5) true 147 25 [.ref 10, .int 3, .ref 94, mk_] [] h Q) from ⟨fun c31 => ?_, fun c31 => ?_⟩)
          · skip
            refine exf_go 2 (show Go (d + 5) true 147 33 [.ref 10, .int 3, .ref 94, mk_] [.int (rI h 94 2)] h Q from ?_)
            rw [show (rI h 94 2 : Int32) = nI n from ct.2.2.2.1]
            refine exf_go 2 (show ((nI n) < 1 → Go (d + 5) true 147 45 [.ref 10, .int 3, .ref 94, mk_] [] h Q) ∧ (¬ ((nI n) < 1) → Go (d + 5) true 147 37 [.ref 10, .int 3, .ref 94, mk_] [] h Q) from ⟨fun c32 => ?_, fun c32 => ?_⟩)
            · skip
              have c32 : n < 1 := (nI_ltI (a := n) (b := 1) (by omega) (by omega)).mp c32
              refine exf_go 2 (show Q (.long (-4)) h from ?_)
              simp only [fRows, et, hq] at k; rw [if_pos (by omega)] at k; exact k _ Gq.rfl'
            · skip
              have c32 : ¬ n < 1 := fun q => c32 ((nI_ltI (a := n) (b := 1) (by omega) (by omega)).mpr q)
              refine exf_go 2 (show Go (d + 5) true 147 41 [.ref 10, .int 3, .ref 94, mk_] [.int (rI h 94 2)] h Q from ?_)
              rw [show (rI h 94 2 : Int32) = nI n from ct.2.2.2.1]
              refine exf_go 2 (show ((nI n) ≤ 2 → Go (d + 5) true 147 49 [.ref 10, .int 3, .ref 94, mk_] [] h Q) ∧ (¬ ((nI n) ≤ 2) → Go (d + 5) true 147 45 [.ref 10, .int 3, .ref 94, mk_] [] h Q) from ⟨fun c33 => ?_, fun c33 => ?_⟩)
              · skip
                have c33 : n ≤ 2 := (nI_leI (a := n) (b := 2) (by omega) (by omega)).mp c33
                refine exf_go 3 (show wpC (d + 5) true 106 [.ref 94, .int 999] h (fun r h' => Go (d + 5) true 147 56 [.ref 10, .int 3, .ref 94, mk_] [r] h' Q) from ?_)
                refine c_aw3 ct (N := 999) (by omega) (fun haw => ?_) (fun haw => ?_)
                · skip
                  show Go (d + 5) true 147 56 [.ref 10, .int 3, .ref 94, mk_] [.int 1] h Q
                  refine exf_go 1 (show (¬ (1 : Int32) = 0 → Go (d + 5) true 147 63 [.ref 10, .int 3, .ref 94, mk_] [] h Q) ∧ (¬ (¬ (1 : Int32) = 0) → Go (d + 5) true 147 59 [.ref 10, .int 3, .ref 94, mk_] [] h Q) from ⟨fun c34 => ?_, fun c34 => ?_⟩)
                  · skip
                    refine exf_go 3 (show wpC (d + 5) true 104 [.ref 94, .int 0] h (fun r h' => Go (d + 5) true 147 68 [.ref 10, .int 3, .ref 94, mk_] [r] h' Q) from ?_)
                    have hs0 := sec_at haw (i := 0) (by omega)
                    refine c_tat3 ct (i := 0) (by omega) ?_
                    rw [hs0.1]
                    show Go (d + 5) true 147 68 [.ref 10, .int 3, .ref 94, mk_] [.long (lN (sec (vs 0)))] h Q
                    refine exf_go 1 (show Go (d + 5) true 147 69 [.ref 10, .int 3, .ref 94, mk_] [.int ((lN (sec (vs 0))).toInt32)] h Q from ?_)
                    rw [show ((lN (sec (vs 0))).toInt32 : Int32) = nI (sec (vs 0)) from lN_i _]
                    refine exf_go 3 (show Go (d + 5) true 147 74 [.ref 10, .int 3, .ref 94, .int (nI (sec (vs 0)))] [.int (rI h 94 2)] h Q from ?_)
                    rw [show (rI h 94 2 : Int32) = nI n from ct.2.2.2.1]
                    refine exf_go 2 (show (¬ (nI n) = 1 → Go (d + 5) true 147 98 [.ref 10, .int 3, .ref 94, .int (nI (sec (vs 0)))] [] h Q) ∧ (¬ (¬ (nI n) = 1) → Go (d + 5) true 147 78 [.ref 10, .int 3, .ref 94, .int (nI (sec (vs 0)))] [] h Q) from ⟨fun c35 => ?_, fun c35 => ?_⟩)
                    · skip
                      have c35 : ¬ n = 1 := fun q => c35 ((nI_eq (a := n) (b := 1) (by omega) (by omega)).mpr q)
                      refine exf_go 7 (show Go (d + 5) true 147 113 [.ref 10, .int 3, .ref 94, .int (nI (sec (vs 0)))] [.int (rI h 39 3), .ref 31, .ref 85] h Q from ?_)
                      rw [show (rI h 39 3 : Int32) = nI (lA l) from cl_A cl]
                      refine exf_go 4 (show wpC (d + 5) true 104 [.ref 94, .int 1] h (fun r h' => Go (d + 5) true 147 119 [.ref 10, .int 3, .ref 94, .int (nI (sec (vs 0)))] [r, .int (nI (sec (vs 0))), .int (nI (lA l)), .ref 31, .ref 85] h' Q) from ?_)
                      have hs1 := sec_at haw (i := 1) (by omega)
                      refine c_tat3 ct (i := 1) (by omega) ?_
                      rw [hs1.1]
                      show Go (d + 5) true 147 119 [.ref 10, .int 3, .ref 94, .int (nI (sec (vs 0)))] [.long (lN (sec (vs 1))), .int (nI (sec (vs 0))), .int (nI (lA l)), .ref 31, .ref 85] h Q
                      refine exf_go 1 (show Go (d + 5) true 147 120 [.ref 10, .int 3, .ref 94, .int (nI (sec (vs 0)))] [.int ((lN (sec (vs 1))).toInt32), .int (nI (sec (vs 0))), .int (nI (lA l)), .ref 31, .ref 85] h Q from ?_)
                      rw [show ((lN (sec (vs 1))).toInt32 : Int32) = nI (sec (vs 1)) from lN_i _]
                      refine exf_go 1 (show wpC (d + 5) true 43 [.ref 85, .ref 31, .int (nI (lA l)), .int (nI (sec (vs 0))), .int (nI (sec (vs 1)))] h (fun r h' => Go (d + 5) true 147 123 [.ref 10, .int 3, .ref 94, .int (nI (sec (vs 0)))] [r] h' Q) from ?_)
                      refine c_pairs wf cs cl.1.1 hs0.2 hs1.2 (fun h9 g9 => ?_)
                      show Go (d + 5) true 147 123 [.ref 10, .int 3, .ref 94, .int (nI (sec (vs 0)))] [.long (lN (fPair g (lA l) (sec (vs 0)) (sec (vs 1))))] h9 Q
                      refine exf_go 1 (show Q (.long (lN (fPair g (lA l) (sec (vs 0)) (sec (vs 1))))) h9 from ?_)
                      simp only [fRows, et, hq] at k; rw [if_neg (by omega), if_pos haw, if_neg (by omega), ← fPair_row cs.1 cl.1.1] at k; exact k _ g9
                    · skip
                      have c35 : n = 1 := (nI_eq (a := n) (b := 1) (by omega) (by omega)).mp (Classical.not_not.mp c35)
                      refine exf_go 7 (show Go (d + 5) true 147 93 [.ref 10, .int 3, .ref 94, .int (nI (sec (vs 0)))] [.int (rI h 39 3), .ref 31, .ref 85] h Q from ?_)
                      rw [show (rI h 39 3 : Int32) = nI (lA l) from cl_A cl]
                      refine exf_go 2 (show wpC (d + 5) true 42 [.ref 85, .ref 31, .int (nI (lA l)), .int (nI (sec (vs 0)))] h (fun r h' => Go (d + 5) true 147 97 [.ref 10, .int 3, .ref 94, .int (nI (sec (vs 0)))] [r] h' Q) from ?_)
                      refine c_single cs cl.1.1 (s := sec (vs 0)) hs0.2 ?_
                      show Go (d + 5) true 147 97 [.ref 10, .int 3, .ref 94, .int (nI (sec (vs 0)))] [.long (lN (cntN (fun n => decide (trn g (lA l) n = sec (vs 0))) (tot g)))] h Q
                      refine exf_go 1 (show Q (.long (lN (cntN (fun n => decide (trn g (lA l) n = sec (vs 0))) (tot g)))) h from ?_)
                      simp only [fRows, et, hq] at k; rw [if_neg (by omega), if_pos haw, if_pos (by omega)] at k; exact k _ Gq.rfl'
                  · skip
                    exact absurd (by decide) c34
                · skip
                  show Go (d + 5) true 147 56 [.ref 10, .int 3, .ref 94, mk_] [.int 0] h Q
                  refine exf_go 1 (show (¬ (0 : Int32) = 0 → Go (d + 5) true 147 63 [.ref 10, .int 3, .ref 94, mk_] [] h Q) ∧ (¬ (¬ (0 : Int32) = 0) → Go (d + 5) true 147 59 [.ref 10, .int 3, .ref 94, mk_] [] h Q) from ⟨fun c36 => ?_, fun c36 => ?_⟩)
                  · skip
                    exact absurd c36 (by decide)
                  · skip
                    refine exf_go 2 (show Q (.long (-3)) h from ?_)
                    simp only [fRows, et, hq] at k; rw [if_neg (by omega), if_neg (by rw [haw]; decide)] at k; exact k _ Gq.rfl'
              · skip
                have c33 : ¬ n ≤ 2 := fun q => c33 ((nI_leI (a := n) (b := 2) (by omega) (by omega)).mpr q)
                refine exf_go 2 (show Q (.long (-4)) h from ?_)
                simp only [fRows, et, hq] at k; rw [if_pos (by omega)] at k; exact k _ Gq.rfl'
          · skip
            exact absurd (by decide) c31
      · skip
        exact absurd (((wf.2.2 87 3 rfl)).symm.trans c29) (by decide)
    · skip
      exact absurd (by decide) c28
  · skip
    show Go (d + 5) true 147 4 [.ref 10, .int x, mk_, mk_] [.int 0] h Q
    refine exf_go 1 (show (¬ (0 : Int32) = 0 → Go (d + 5) true 147 11 [.ref 10, .int x, mk_, mk_] [] h Q) ∧ (¬ (¬ (0 : Int32) = 0) → Go (d + 5) true 147 7 [.ref 10, .int x, mk_, mk_] [] h Q) from ⟨fun c37 => ?_, fun c37 => ?_⟩)
    · skip
      exact absurd c37 (by decide)
    · skip
      refine exf_go 2 (show Q (.long (-2)) h from ?_)
      simp only [fRows, et] at k; exact k _ Gq.rfl'
