/-! The model: a wheel. -/
theorem m_wheel {d : Nat} {h : Hp} {g : ShG} {l : LkG} {x y : Int32} {Q : Po} (ms : MS g l h) (k : ∀ h1, Fq scM h h1 → Q (.int (fWheel g l x y)) h1) : wpC (d + 8) true 232 [.ref 130, .int x, .int y] h Q := by
  have hN := tot_b ms.1.1
  have h4 := ms.1.1.1
  have h8 := ms.1.1.2.2.2.1
  have he := evr_b ms.1.1
  have hev : evr g = 2 ^ sC g - 1 := rfl
  have hA := ms.1.2.1
  refine go_in rfl ?_
  refine exf_go 6 (show wpC (d + 7) true 219 [.ref 130, .int x] (uI h 130 0 0) (fun r h' => Go (d + 7) true 232 10 [.ref 130, .int x, .int y] [r] h' Q) from ?_)
  refine m_isWheel (x := x) (ms_fq ms (Fq.uI' Fq.rfl' _ _ _ rfl)) (fun j1 e1 q1 r1 => ?_) (fun e1 => ?_)
  · skip
    subst q1
    show Go (d + 7) true 232 10 [.ref 130, .int (nI j1), .int y] [.int 1] (uI h 130 0 0) Q
    refine exf_go 1 (show (¬ (1 : Int32) = 0 → Go (d + 7) true 232 16 [.ref 130, .int (nI j1), .int y] [] (uI h 130 0 0) Q) ∧ (¬ (¬ (1 : Int32) = 0) → Go (d + 7) true 232 13 [.ref 130, .int (nI j1), .int y] [] (uI h 130 0 0) Q) from ⟨fun c2 => ?_, fun c2 => ?_⟩)
    · skip
      refine exf_go 2 (show (y.toInt < 0 ∨ 4 < y.toInt → Go (d + 7) true 232 101 [.ref 130, .int (nI j1), .int y] [] (uI h 130 0 0) Q) ∧ (y.toInt = 0 → Go (d + 7) true 232 52 [.ref 130, .int (nI j1), .int y] [] (uI h 130 0 0) Q) ∧ (y.toInt = 1 → Go (d + 7) true 232 62 [.ref 130, .int (nI j1), .int y] [] (uI h 130 0 0) Q) ∧ (y.toInt = 2 → Go (d + 7) true 232 72 [.ref 130, .int (nI j1), .int y] [] (uI h 130 0 0) Q) ∧ (y.toInt = 3 → Go (d + 7) true 232 82 [.ref 130, .int (nI j1), .int y] [] (uI h 130 0 0) Q) ∧ (y.toInt = 4 → Go (d + 7) true 232 95 [.ref 130, .int (nI j1), .int y] [] (uI h 130 0 0) Q) ∧ True from ⟨fun c3 => ?_, fun c3 => ?_, fun c3 => ?_, fun c3 => ?_, fun c3 => ?_, fun c3 => ?_, trivial⟩)
      · skip
        refine exf_go 2 (show Q (.int (-2)) (uI h 130 0 0) from ?_)
        simp only [fWheel, e1] at k
        rw [if_neg (fun q => by subst q; exact absurd c3 (by decide)), if_neg (fun q => by subst q; exact absurd c3 (by decide)), if_neg (fun q => by subst q; exact absurd c3 (by decide)), if_neg (fun q => by subst q; exact absurd c3 (by decide)), if_neg (fun q => by subst q; exact absurd c3 (by decide))] at k
        exact k _ (Fq.uI' Fq.rfl' _ _ _ rfl)
      · skip
        have cy : y = nI 0 := ti_eq (by omega) c3
        subst cy
        refine exf_go 5 (show Go (d + 7) true 232 60 [.ref 130, .int (nI j1), .int (nI 0)] [.int (10 + (nI j1)), .ref 131] (uI h 130 0 0) Q from ?_)
        rw [show (10 + (nI j1) : Int32) = nI (10 + j1) from nI_add 10 j1]
        refine exf_go 1 (show vp_in (nI (10 + j1)) 41523 ∧ (Go (d + 7) true 232 61 [.ref 130, .int (nI j1), .int (nI 0)] [.int (rI h 131 ((nI (10 + j1)).toNatClampNeg))] (uI h 130 0 0) Q) from ⟨(vp_in_nI (by omega) (by omega)), ?_⟩)
        rw [show (rI h 131 ((nI (10 + j1)).toNatClampNeg) : Int32) = nI (sF g j1) from ms_F ms (n := j1) (by omega)]
        have := sF_b ms.1.1 j1
        refine exf_go 1 (show Q (.int (nI (sF g j1))) (uI h 130 0 0) from ?_)
        simp only [fWheel, e1] at k
        exact k _ (Fq.uI' Fq.rfl' _ _ _ rfl)
      · skip
        have cy : y = nI 1 := ti_eq (by omega) c3
        subst cy
        refine exf_go 5 (show Go (d + 7) true 232 70 [.ref 130, .int (nI j1), .int (nI 1)] [.int (14 + (nI j1)), .ref 131] (uI h 130 0 0) Q from ?_)
        rw [show (14 + (nI j1) : Int32) = nI (14 + j1) from nI_add 14 j1]
        refine exf_go 1 (show vp_in (nI (14 + j1)) 41523 ∧ (Go (d + 7) true 232 71 [.ref 130, .int (nI j1), .int (nI 1)] [.int (rI h 131 ((nI (14 + j1)).toNatClampNeg))] (uI h 130 0 0) Q) from ⟨(vp_in_nI (by omega) (by omega)), ?_⟩)
        rw [show (rI h 131 ((nI (14 + j1)).toNatClampNeg) : Int32) = nI (sS g j1) from ms_S ms (n := j1) (by omega)]
        refine exf_go 1 (show Q (.int (nI (sS g j1))) (uI h 130 0 0) from ?_)
        simp only [fWheel, e1] at k
        exact k _ (Fq.uI' Fq.rfl' _ _ _ rfl)
      · skip
        have cy : y = nI 2 := ti_eq (by omega) c3
        subst cy
        refine exf_go 5 (show Go (d + 7) true 232 80 [.ref 130, .int (nI j1), .int (nI 2)] [.int (18 + (nI j1)), .ref 131] (uI h 130 0 0) Q from ?_)
        rw [show (18 + (nI j1) : Int32) = nI (18 + j1) from nI_add 18 j1]
        refine exf_go 1 (show vp_in (nI (18 + j1)) 41523 ∧ (Go (d + 7) true 232 81 [.ref 130, .int (nI j1), .int (nI 2)] [.int (rI h 131 ((nI (18 + j1)).toNatClampNeg))] (uI h 130 0 0) Q) from ⟨(vp_in_nI (by omega) (by omega)), ?_⟩)
        rw [show (rI h 131 ((nI (18 + j1)).toNatClampNeg) : Int32) = nI (sR g j1) from ms_R ms (n := j1) (by omega)]
        refine exf_go 1 (show Q (.int (nI (sR g j1))) (uI h 130 0 0) from ?_)
        simp only [fWheel, e1] at k
        exact k _ (Fq.uI' Fq.rfl' _ _ _ rfl)
      · skip
        have cy : y = nI 3 := ti_eq (by omega) c3
        subst cy
        refine exf_go 5 (show vp_in 50 41523 ∧ (Go (d + 7) true 232 90 [.ref 130, .int (nI j1), .int (nI 3)] [.int (rI h 131 50), .ref 130] (uI h 130 0 0) Q) from ⟨(vp_in_nI (n := 50) (by decide) (by decide)), ?_⟩)
        rw [show (rI h 131 50 : Int32) = nI (lA l) from ms_A ms]
        refine exf_go 2 (show wpC (d + 7) true 220 [.ref 130, .int (nI (lA l)), .int (nI j1)] (uI h 130 0 0) (fun r h' => Go (d + 7) true 232 94 [.ref 130, .int (nI j1), .int (nI 3)] [r] h' Q) from ?_)
        refine m_figureOf (ms_fq ms (Fq.uI' Fq.rfl' _ _ _ rfl)) (by omega) (by omega) ?_
        have := fgo_lt ms.1.1 (lA l) j1; have := sF_b ms.1.1 j1
        show Go (d + 7) true 232 94 [.ref 130, .int (nI j1), .int (nI 3)] [.int (nI (fgo g (lA l) j1))] (uI h 130 0 0) Q
        refine exf_go 1 (show Q (.int (nI (fgo g (lA l) j1))) (uI h 130 0 0) from ?_)
        simp only [fWheel, e1] at k
        exact k _ (Fq.uI' Fq.rfl' _ _ _ rfl)
      · skip
        have cy : y = nI 4 := ti_eq (by omega) c3
        subst cy
        refine exf_go 3 (show wpC (d + 7) true 231 [.ref 130, .int (nI j1)] (uI h 130 0 0) (fun r h' => Go (d + 7) true 232 100 [.ref 130, .int (nI j1), .int (nI 4)] [r] h' Q) from ?_)
        refine m_sure (ms_fq ms (Fq.uI' Fq.rfl' _ _ _ rfl)) (by omega) (fun h1 p1 => ?_)
        have q1 := Fq.tr (Fq.uI' Fq.rfl' _ _ _ rfl) p1
        show Go (d + 7) true 232 100 [.ref 130, .int (nI j1), .int (nI 4)] [.int (fSure g l j1)] h1 Q
        refine exf_go 1 (show Q (.int (fSure g l j1)) h1 from ?_)
        simp only [fWheel, e1] at k
        exact k _ q1
    · skip
      exact absurd (by decide) c2
  · skip
    show Go (d + 7) true 232 10 [.ref 130, .int x, .int y] [.int 0] (uI h 130 0 0) Q
    refine exf_go 1 (show (¬ (0 : Int32) = 0 → Go (d + 7) true 232 16 [.ref 130, .int x, .int y] [] (uI h 130 0 0) Q) ∧ (¬ (¬ (0 : Int32) = 0) → Go (d + 7) true 232 13 [.ref 130, .int x, .int y] [] (uI h 130 0 0) Q) from ⟨fun c4 => ?_, fun c4 => ?_⟩)
    · skip
      exact absurd c4 (by decide)
    · skip
      refine exf_go 2 (show Q (.int (-2)) (uI h 130 0 0) from ?_)
      simp only [fWheel, e1] at k
      exact k _ (Fq.uI' Fq.rfl' _ _ _ rfl)
