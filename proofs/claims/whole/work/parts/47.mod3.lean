/-! The model's asking calls. -/
theorem m_laysLeft {d : Nat} {h : Hp} {g : ShG} {l : LkG} {Q : Po} (ms : MS g l h) (k : ∀ h1, Fq scM h h1 → MW g (evr g) h1 → MO (lft g l) g (evr g) h1 → Q mk_ h1) : wpC (d + 5) true 228 [.ref 130] h Q := by
  have he := evr_b ms.1.1
  have hev : evr g = 2 ^ sC g - 1 := rfl
  refine go_in rfl ?_
  refine exf_go 3 (show wpC (d + 4) true 223 [.ref 130] h (fun r h' => Go (d + 4) true 228 5 [.ref 130] [r, .ref 130] h' Q) from ?_)
  refine m_every ms ?_
  show Go (d + 4) true 228 5 [.ref 130] [.int (nI (evr g)), .ref 130] h Q
  refine exf_go 2 (show wpC (d + 4) true 227 [.ref 130, .int (nI (evr g)), .int 1] h (fun _ h' => Go (d + 4) true 228 9 [.ref 130] [] h' Q) from ?_)
  refine m_laysOrder1 ms (by omega) (fun h1 q1 mw1 mo1 => ?_)
  show Go (d + 4) true 228 9 [.ref 130] [] h1 Q
  refine exf_go 1 (show Q (mk_) h1 from ?_)
  rw [show elg g l (evr g) true = lft g l from funext (elg_lft ms.1.1 ms.1.2)] at mo1; exact k h1 q1 mw1 mo1
theorem m_left {d : Nat} {h : Hp} {g : ShG} {l : LkG} {Q : Po} (ms : MS g l h) (k : ∀ h1, Fq scM h h1 → Q (.int (nI (cntL g l))) h1) : wpC (d + 6) true 238 [.ref 130] h Q := by
  have hN := tot_b ms.1.1
  have h4 := ms.1.1.1
  have h8 := ms.1.1.2.2.2.1
  have he := evr_b ms.1.1
  have hev : evr g = 2 ^ sC g - 1 := rfl
  refine go_in rfl ?_
  refine exf_go 5 (show wpC (d + 5) true 228 [.ref 130] (uI h 130 0 0) (fun _ h' => Go (d + 5) true 238 9 [.ref 130] [] h' Q) from ?_)
  refine m_laysLeft (ms_fq ms (Fq.uI' Fq.rfl' _ _ _ rfl)) (fun h1 p1 mw1 mo1 => ?_)
  have q1 := Fq.tr (Fq.uI' Fq.rfl' _ _ _ rfl) p1
  have ms1 := ms_fq ms q1
  have hcc := cntN_le (lft g l) (tot g)
  show Go (d + 5) true 238 9 [.ref 130] [] h1 Q
  refine exf_go 2 (show Go (d + 5) true 238 13 [.ref 130] [.int (rI h1 130 22)] h1 Q from ?_)
  rw [show (rI h1 130 22 : Int32) = nI (cntN (lft g l) (tot g)) from mo1.1]
  refine exf_go 1 (show Q (.int (nI (cntN (lft g l) (tot g)))) h1 from ?_)
  exact k _ q1
theorem m_weightAt {d : Nat} {h : Hp} {g : ShG} {l : LkG} {j : Nat} {Q : Po} (ms : MS g l h) (mw : MW g (evr g) h) (mo : MO (lft g l) g (evr g) h) (hj : j < cntN (lft g l) (tot g)) (k : Q (.long (lN (wtA g (sH g (ordOf h j))))) h) : wpC (d + 1) true 229 [.ref 130, .int (nI j)] h Q := by
  have hN := tot_b ms.1.1
  have h4 := ms.1.1.1
  have h8 := ms.1.1.2.2.2.1
  have he := evr_b ms.1.1
  have hev : evr g = 2 ^ sC g - 1 := rfl
  have hcc := cntN_le (lft g l) (tot g)
  have ho := (ord_in (mo_ord ms.1.1 mo) hj).1
  have hs := sH_b ms.1.1 (ordOf h j)
  refine go_in rfl ?_
  refine exf_go 9 (show vp_in (nI j) 10000 ∧ (Go d true 229 17 [.ref 130, .int (nI j)] [.int (rI h 140 ((nI j).toNatClampNeg)), .int 3841, .ref 131, .ref 137] h Q) from ⟨(vp_in_nI (by omega) (by omega)), ?_⟩)
  rw [show (rI h 140 ((nI j).toNatClampNeg) : Int32) = nI (ordOf h j) from mo_at ms.1.1 mo (k := j) (by omega)]
  refine exf_go 1 (show Go d true 229 18 [.ref 130, .int (nI j)] [.int (3841 + (nI (ordOf h j))), .ref 131, .ref 137] h Q from ?_)
  rw [show (3841 + (nI (ordOf h j)) : Int32) = nI (3841 + (ordOf h j)) from nI_add 3841 (ordOf h j)]
  refine exf_go 1 (show vp_in (nI (3841 + (ordOf h j))) 41523 ∧ (Go d true 229 19 [.ref 130, .int (nI j)] [.int (rI h 131 ((nI (3841 + (ordOf h j))).toNatClampNeg)), .ref 137] h Q) from ⟨(vp_in_nI (by omega) (by omega)), ?_⟩)
  rw [show (rI h 131 ((nI (3841 + (ordOf h j))).toNatClampNeg) : Int32) = nI (sH g (ordOf h j)) from ms_H ms (n := (ordOf h j)) (by omega)]
  have := sH_b ms.1.1 (ordOf h j)
  refine exf_go 1 (show vp_in (nI (sH g (ordOf h j))) 256 ∧ (Go d true 229 20 [.ref 130, .int (nI j)] [.long (rJ h 137 ((nI (sH g (ordOf h j))).toNatClampNeg))] h Q) from ⟨(vp_in_nI (by omega) (by omega)), ?_⟩)
  rw [show (rJ h 137 ((nI (sH g (ordOf h j))).toNatClampNeg) : Int64) = lN (wtK g (evr g) (sH g (ordOf h j))) from mw_at ms mw (m := (sH g (ordOf h j))) (by first | exact hH ms.1.1 _ | omega)]
  refine exf_go 1 (show Q (.long (lN (wtK g (evr g) (sH g (ordOf h j))))) h from ?_)
  exact k
theorem sum_left {g : ShG} {l : LkG} {h : Hp} (hg : ShW g) (mo : MO (lft g l) g (evr g) h) : sumN (fun j => wtA g (sH g (ordOf h j))) (cntN (lft g l) (tot g)) = sumL g l := ord_sum (mo_ord hg mo) (fun n => wtA g (sH g n))
theorem m_weightAll {d : Nat} {h : Hp} {g : ShG} {l : LkG} {Q : Po} (ms : MS g l h) (mw : MW g (evr g) h) (mo : MO (lft g l) g (evr g) h) (k : Q (.long (lN (sumL g l))) h) : wpC (d + 2) true 230 [.ref 130] h Q := by
  have hN := tot_b ms.1.1
  have h4 := ms.1.1.1
  have h8 := ms.1.1.2.2.2.1
  have he := evr_b ms.1.1
  have hev : evr g = 2 ^ sC g - 1 := rfl
  have hcc := cntN_le (lft g l) (tot g)
  refine go_in rfl ?_
  refine exf_go 4 (show Go (d + 1) true 230 4 [.ref 130, .long 0, mk_, .int 0] [] h Q from ?_)
  have L4 : ∀ (k4 : Nat) (j s : Nat), (cntN (lft g l) (tot g) - j) < k4 → (j ≤ cntN (lft g l) (tot g)) → (s = sumN (fun j => wtA g (sH g (ordOf h j))) j) → Go (d + 1) true 230 4 [.ref 130, .long (lN s), mk_, .int (nI j)] [] h Q := by
    intro k4
    induction k4 with
    | zero => intro j s hk; exact absurd hk (Nat.not_lt_zero _)
    | succ k4 ih4 =>
      intro j s hk hj hs
      refine exf_go 3 (show Go (d + 1) true 230 9 [.ref 130, .long (lN s), mk_, .int (nI j)] [.int (rI h 130 22), .int (nI j)] h Q from ?_)
      rw [show (rI h 130 22 : Int32) = nI (cntN (lft g l) (tot g)) from mo.1]
      refine exf_go 1 (show ((nI (cntN (lft g l) (tot g))) ≤ (nI j) → Go (d + 1) true 230 26 [.ref 130, .long (lN s), mk_, .int (nI j)] [] h Q) ∧ (¬ ((nI (cntN (lft g l) (tot g))) ≤ (nI j)) → Go (d + 1) true 230 12 [.ref 130, .long (lN s), mk_, .int (nI j)] [] h Q) from ⟨fun c1 => ?_, fun c1 => ?_⟩)
      · skip
        have c1 : (cntN (lft g l) (tot g)) ≤ j := (nI_leI (a := (cntN (lft g l) (tot g))) (b := j) (by omega) (by omega)).mp c1
        refine exf_go 2 (show Q (.long (lN s)) h from ?_)
        rw [hs, show j = cntN (lft g l) (tot g) from by omega, sum_left ms.1.1 mo]; exact k
      · skip
        have c1 : ¬ (cntN (lft g l) (tot g)) ≤ j := fun q => c1 ((nI_leI (a := (cntN (lft g l) (tot g))) (b := j) (by omega) (by omega)).mpr q)
        refine exf_go 4 (show wpC (d + 1) true 229 [.ref 130, .int (nI j)] h (fun r h' => Go (d + 1) true 230 18 [.ref 130, .long (lN s), mk_, .int (nI j)] [r, .long (lN s)] h' Q) from ?_)
        refine m_weightAt ms mw mo (by omega) ?_
        have := wtA_b ms.1.1 (sH g (ordOf h j))
        show Go (d + 1) true 230 18 [.ref 130, .long (lN s), mk_, .int (nI j)] [.long (lN (wtA g (sH g (ordOf h j)))), .long (lN s)] h Q
        refine exf_go 1 (show Go (d + 1) true 230 19 [.ref 130, .long (lN s), mk_, .int (nI j)] [.long ((lN s) + (lN (wtA g (sH g (ordOf h j)))))] h Q from ?_)
        rw [show ((lN s) + (lN (wtA g (sH g (ordOf h j)))) : Int64) = lN (s + (wtA g (sH g (ordOf h j)))) from lN_add s (wtA g (sH g (ordOf h j)))]
        refine exf_go 2 (show Go (d + 1) true 230 23 [.ref 130, .long (lN (s + (wtA g (sH g (ordOf h j))))), mk_, .int ((nI j) + 1)] [] h Q from ?_)
        rw [show ((nI j) + 1 : Int32) = nI (j + 1) from nI_add j 1]
        refine exf_go 1 (show Go (d + 1) true 230 4 [.ref 130, .long (lN (s + (wtA g (sH g (ordOf h j))))), mk_, .int (nI (j + 1))] [] h Q from ?_)
        exact ih4 (j + 1) (s + (wtA g (sH g (ordOf h j)))) (by omega) (by omega) (by rw [hs]; rfl)
  exact L4 (cntN (lft g l) (tot g) + 1) 0 0 (by omega) (by omega) rfl
theorem m_all {d : Nat} {h : Hp} {g : ShG} {l : LkG} {Q : Po} (ms : MS g l h) (k : ∀ h1, Fq scM h h1 → Q (.long (lN (sumL g l))) h1) : wpC (d + 6) true 239 [.ref 130] h Q := by
  have hN := tot_b ms.1.1
  have h4 := ms.1.1.1
  have h8 := ms.1.1.2.2.2.1
  have he := evr_b ms.1.1
  have hev : evr g = 2 ^ sC g - 1 := rfl
  refine go_in rfl ?_
  refine exf_go 5 (show wpC (d + 5) true 228 [.ref 130] (uI h 130 0 0) (fun _ h' => Go (d + 5) true 239 9 [.ref 130] [] h' Q) from ?_)
  refine m_laysLeft (ms_fq ms (Fq.uI' Fq.rfl' _ _ _ rfl)) (fun h1 p1 mw1 mo1 => ?_)
  have q1 := Fq.tr (Fq.uI' Fq.rfl' _ _ _ rfl) p1
  have ms1 := ms_fq ms q1
  have hcc := cntN_le (lft g l) (tot g)
  show Go (d + 5) true 239 9 [.ref 130] [] h1 Q
  refine exf_go 2 (show wpC (d + 5) true 230 [.ref 130] h1 (fun r h' => Go (d + 5) true 239 13 [.ref 130] [r] h' Q) from ?_)
  refine m_weightAll ms1 mw1 mo1 ?_
  have hsL : sumL g l ≤ 1000000000000 := sumN_b (lwt_b ms.1.1 l) _ hN.2
  show Go (d + 5) true 239 13 [.ref 130] [.long (lN (sumL g l))] h1 Q
  refine exf_go 1 (show Q (.long (lN (sumL g l))) h1 from ?_)
  exact k _ q1
theorem m_steps {d : Nat} {h : Hp} {g : ShG} {l : LkG} {x y : Int32} {Q : Po} (ms : MS g l h) (k : ∀ h1, Fq scM h h1 → Q (.int (fSteps g x y)) h1) : wpC (d + 3) true 263 [.ref 130, .int x, .int y] h Q := by
  have hN := tot_b ms.1.1
  have h4 := ms.1.1.1
  have h8 := ms.1.1.2.2.2.1
  have he := evr_b ms.1.1
  have hev : evr g = 2 ^ sC g - 1 := rfl
  refine go_in rfl ?_
  refine exf_go 7 (show wpC (d + 2) true 218 [.ref 130, .long x.toInt64] (uI h 130 0 0) (fun r h' => Go (d + 2) true 263 11 [.ref 130, .int x, .int y] [r] h' Q) from ?_)
  refine m_isNumber (x := x) (ms_fq ms (Fq.uI' Fq.rfl' _ _ _ rfl)) (fun j1 e1 q1 r1 => ?_) (fun e1 => ?_)
  · skip
    subst q1
    show Go (d + 2) true 263 11 [.ref 130, .int (nI j1), .int y] [.int 1] (uI h 130 0 0) Q
    refine exf_go 1 (show ((1 : Int32) = 0 → Go (d + 2) true 263 32 [.ref 130, .int (nI j1), .int y] [] (uI h 130 0 0) Q) ∧ (¬ ((1 : Int32) = 0) → Go (d + 2) true 263 14 [.ref 130, .int (nI j1), .int y] [] (uI h 130 0 0) Q) from ⟨fun c2 => ?_, fun c2 => ?_⟩)
    · skip
      exact absurd c2 (by decide)
    · skip
      refine exf_go 4 (show wpC (d + 2) true 218 [.ref 130, .long y.toInt64] (uI h 130 0 0) (fun r h' => Go (d + 2) true 263 20 [.ref 130, .int (nI j1), .int y] [r] h' Q) from ?_)
      refine m_isNumber (x := y) (ms_fq ms (Fq.uI' Fq.rfl' _ _ _ rfl)) (fun j3 e3 q3 r3 => ?_) (fun e3 => ?_)
      · skip
        subst q3
        show Go (d + 2) true 263 20 [.ref 130, .int (nI j1), .int (nI j3)] [.int 1] (uI h 130 0 0) Q
        refine exf_go 1 (show ((1 : Int32) = 0 → Go (d + 2) true 263 32 [.ref 130, .int (nI j1), .int (nI j3)] [] (uI h 130 0 0) Q) ∧ (¬ ((1 : Int32) = 0) → Go (d + 2) true 263 23 [.ref 130, .int (nI j1), .int (nI j3)] [] (uI h 130 0 0) Q) from ⟨fun c4 => ?_, fun c4 => ?_⟩)
        · skip
          exact absurd c4 (by decide)
        · skip
          refine exf_go 4 (show wpC (d + 2) true 251 [.ref 130, .int (nI j1), .int (nI j3)] (uI h 130 0 0) (fun r h' => Go (d + 2) true 263 29 [.ref 130, .int (nI j1), .int (nI j3)] [r] h' Q) from ?_)
          refine m_turns (ms_fq ms (Fq.uI' Fq.rfl' _ _ _ rfl)) (by omega) (by omega) ?_
          have := trn_b ms.1.1 j1 j3
          show Go (d + 2) true 263 29 [.ref 130, .int (nI j1), .int (nI j3)] [.int (nI (trn g j1 j3))] (uI h 130 0 0) Q
          refine exf_go 2 (show Q (.int (nI (trn g j1 j3))) (uI h 130 0 0) from ?_)
          simp only [fSteps, *] at k
          exact k _ (Fq.uI' Fq.rfl' _ _ _ rfl)
      · skip
        show Go (d + 2) true 263 20 [.ref 130, .int (nI j1), .int y] [.int 0] (uI h 130 0 0) Q
        refine exf_go 1 (show ((0 : Int32) = 0 → Go (d + 2) true 263 32 [.ref 130, .int (nI j1), .int y] [] (uI h 130 0 0) Q) ∧ (¬ ((0 : Int32) = 0) → Go (d + 2) true 263 23 [.ref 130, .int (nI j1), .int y] [] (uI h 130 0 0) Q) from ⟨fun c5 => ?_, fun c5 => ?_⟩)
        · skip
          refine exf_go 2 (show Q (.int (-3)) (uI h 130 0 0) from ?_)
          simp only [fSteps, *] at k
          exact k _ (Fq.uI' Fq.rfl' _ _ _ rfl)
        · skip
          exact absurd (by decide) c5
  · skip
    show Go (d + 2) true 263 11 [.ref 130, .int x, .int y] [.int 0] (uI h 130 0 0) Q
    refine exf_go 1 (show ((0 : Int32) = 0 → Go (d + 2) true 263 32 [.ref 130, .int x, .int y] [] (uI h 130 0 0) Q) ∧ (¬ ((0 : Int32) = 0) → Go (d + 2) true 263 14 [.ref 130, .int x, .int y] [] (uI h 130 0 0) Q) from ⟨fun c6 => ?_, fun c6 => ?_⟩)
    · skip
      refine exf_go 2 (show Q (.int (-3)) (uI h 130 0 0) from ?_)
      simp only [fSteps, *] at k
      exact k _ (Fq.uI' Fq.rfl' _ _ _ rfl)
    · skip
      exact absurd (by decide) c6
theorem m_figure {d : Nat} {h : Hp} {g : ShG} {l : LkG} {x y : Int32} {Q : Po} (ms : MS g l h) (k : ∀ h1, Fq scM h h1 → Q (.int (fFigure g x y)) h1) : wpC (d + 3) true 234 [.ref 130, .int x, .int y] h Q := by
  have hN := tot_b ms.1.1
  have h4 := ms.1.1.1
  have h8 := ms.1.1.2.2.2.1
  have he := evr_b ms.1.1
  have hev : evr g = 2 ^ sC g - 1 := rfl
  refine go_in rfl ?_
  refine exf_go 6 (show wpC (d + 2) true 219 [.ref 130, .int y] (uI h 130 0 0) (fun r h' => Go (d + 2) true 234 10 [.ref 130, .int x, .int y] [r] h' Q) from ?_)
  refine m_isWheel (x := y) (ms_fq ms (Fq.uI' Fq.rfl' _ _ _ rfl)) (fun j1 e1 q1 r1 => ?_) (fun e1 => ?_)
  · skip
    subst q1
    show Go (d + 2) true 234 10 [.ref 130, .int x, .int (nI j1)] [.int 1] (uI h 130 0 0) Q
    refine exf_go 1 (show (¬ (1 : Int32) = 0 → Go (d + 2) true 234 16 [.ref 130, .int x, .int (nI j1)] [] (uI h 130 0 0) Q) ∧ (¬ (¬ (1 : Int32) = 0) → Go (d + 2) true 234 13 [.ref 130, .int x, .int (nI j1)] [] (uI h 130 0 0) Q) from ⟨fun c2 => ?_, fun c2 => ?_⟩)
    · skip
      refine exf_go 4 (show wpC (d + 2) true 218 [.ref 130, .long x.toInt64] (uI h 130 0 0) (fun r h' => Go (d + 2) true 234 22 [.ref 130, .int x, .int (nI j1)] [r] h' Q) from ?_)
      refine m_isNumber (x := x) (ms_fq ms (Fq.uI' Fq.rfl' _ _ _ rfl)) (fun j3 e3 q3 r3 => ?_) (fun e3 => ?_)
      · skip
        subst q3
        show Go (d + 2) true 234 22 [.ref 130, .int (nI j3), .int (nI j1)] [.int 1] (uI h 130 0 0) Q
        refine exf_go 1 (show ((1 : Int32) = 0 → Go (d + 2) true 234 34 [.ref 130, .int (nI j3), .int (nI j1)] [] (uI h 130 0 0) Q) ∧ (¬ ((1 : Int32) = 0) → Go (d + 2) true 234 25 [.ref 130, .int (nI j3), .int (nI j1)] [] (uI h 130 0 0) Q) from ⟨fun c4 => ?_, fun c4 => ?_⟩)
        · skip
          exact absurd c4 (by decide)
        · skip
          refine exf_go 4 (show wpC (d + 2) true 220 [.ref 130, .int (nI j3), .int (nI j1)] (uI h 130 0 0) (fun r h' => Go (d + 2) true 234 31 [.ref 130, .int (nI j3), .int (nI j1)] [r] h' Q) from ?_)
          refine m_figureOf (ms_fq ms (Fq.uI' Fq.rfl' _ _ _ rfl)) (by omega) (by omega) ?_
          have := fgo_lt ms.1.1 j3 j1; have := sF_b ms.1.1 j1
          show Go (d + 2) true 234 31 [.ref 130, .int (nI j3), .int (nI j1)] [.int (nI (fgo g j3 j1))] (uI h 130 0 0) Q
          refine exf_go 2 (show Q (.int (nI (fgo g j3 j1))) (uI h 130 0 0) from ?_)
          simp only [fFigure, *] at k
          exact k _ (Fq.uI' Fq.rfl' _ _ _ rfl)
      · skip
        show Go (d + 2) true 234 22 [.ref 130, .int x, .int (nI j1)] [.int 0] (uI h 130 0 0) Q
        refine exf_go 1 (show ((0 : Int32) = 0 → Go (d + 2) true 234 34 [.ref 130, .int x, .int (nI j1)] [] (uI h 130 0 0) Q) ∧ (¬ ((0 : Int32) = 0) → Go (d + 2) true 234 25 [.ref 130, .int x, .int (nI j1)] [] (uI h 130 0 0) Q) from ⟨fun c5 => ?_, fun c5 => ?_⟩)
        · skip
          refine exf_go 2 (show Q (.int (-3)) (uI h 130 0 0) from ?_)
          simp only [fFigure, *] at k
          exact k _ (Fq.uI' Fq.rfl' _ _ _ rfl)
        · skip
          exact absurd (by decide) c5
    · skip
      exact absurd (by decide) c2
  · skip
    show Go (d + 2) true 234 10 [.ref 130, .int x, .int y] [.int 0] (uI h 130 0 0) Q
    refine exf_go 1 (show (¬ (0 : Int32) = 0 → Go (d + 2) true 234 16 [.ref 130, .int x, .int y] [] (uI h 130 0 0) Q) ∧ (¬ (¬ (0 : Int32) = 0) → Go (d + 2) true 234 13 [.ref 130, .int x, .int y] [] (uI h 130 0 0) Q) from ⟨fun c6 => ?_, fun c6 => ?_⟩)
    · skip
      exact absurd c6 (by decide)
    · skip
      refine exf_go 2 (show Q (.int (-2)) (uI h 130 0 0) from ?_)
      simp only [fFigure, *] at k
      exact k _ (Fq.uI' Fq.rfl' _ _ _ rfl)
