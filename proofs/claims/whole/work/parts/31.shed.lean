theorem c_figureOf {d : Nat} {h : Hp} {g : ShG} {n w : Nat} {Q : Po} (cs : CS 31 g h) (hn : n < 2 ^ 31) (hw : w < 4) (k : Q (.int (nI (fgo g n w))) h) : wpC (d + 1) true 81 [.ref 31, .int (nI n), .int (nI w)] h Q := by
  have hf := sF_b cs.1 w
  have ho := wor_b cs.1 w
  refine go_in rfl ?_
  refine exf_go 2 (show ((nI w) < 0 → Go d true 81 29 [.ref 31, .int (nI n), .int (nI w)] [] h Q) ∧ (¬ ((nI w) < 0) → Go d true 81 4 [.ref 31, .int (nI n), .int (nI w)] [] h Q) from ⟨fun c1 => ?_, fun c1 => ?_⟩)
  · skip
    have c1 : w < 0 := (nI_ltI (a := w) (b := 0) (by omega) (by omega)).mp c1
    exact absurd c1 (by omega)
  · skip
    have c1 : ¬ w < 0 := fun q => c1 ((nI_ltI (a := w) (b := 0) (by omega) (by omega)).mpr q)
    refine exf_go 3 (show (4 ≤ (nI w) → Go d true 81 29 [.ref 31, .int (nI n), .int (nI w)] [] h Q) ∧ (¬ (4 ≤ (nI w)) → Go d true 81 9 [.ref 31, .int (nI n), .int (nI w)] [] h Q) from ⟨fun c2 => ?_, fun c2 => ?_⟩)
    · skip
      have c2 : 4 ≤ w := (nI_leI (a := 4) (b := w) (by omega) (by omega)).mp c2
      refine exf_go 2 (show Q (.int 0) h from ?_)
      exact absurd rfl (by omega)
    · skip
      have c2 : ¬ 4 ≤ w := fun q => c2 ((nI_leI (a := 4) (b := w) (by omega) (by omega)).mpr q)
      refine exf_go 6 (show vp_in (nI w) 4 ∧ (((rI h 35 ((nI w).toNatClampNeg)) < 1 → Go d true 81 29 [.ref 31, .int (nI n), .int (nI w)] [] h Q) ∧ (¬ ((rI h 35 ((nI w).toNatClampNeg)) < 1) → Go d true 81 19 [.ref 31, .int (nI n), .int (nI w)] [] h Q)) from ⟨(vp_in_nI (by omega) (by omega)), fun c3 => ?_, fun c3 => ?_⟩)
      · skip
        refine exf_go 2 (show Q (.int 0) h from ?_)
        exact absurd rfl (by omega)
      · skip
        refine exf_go 6 (show vp_in (nI w) 4 ∧ ((1 ≤ (rI h 32 ((nI w).toNatClampNeg)) → Go d true 81 31 [.ref 31, .int (nI n), .int (nI w)] [] h Q) ∧ (¬ (1 ≤ (rI h 32 ((nI w).toNatClampNeg))) → Go d true 81 29 [.ref 31, .int (nI n), .int (nI w)] [] h Q)) from ⟨(vp_in_nI (by omega) (by omega)), fun c4 => ?_, fun c4 => ?_⟩)
        · skip
          refine exf_go 12 (show vp_in (nI w) 4 ∧ ¬ (rI h 35 ((nI w).toNatClampNeg)) = 0 ∧ vp_in (nI w) 4 ∧ ¬ (rI h 32 ((nI w).toNatClampNeg)) = 0 ∧ Q (.int (((nI n) / (rI h 35 ((nI w).toNatClampNeg))) - ((nI n) / (rI h 35 ((nI w).toNatClampNeg))) / (rI h 32 ((nI w).toNatClampNeg)) * (rI h 32 ((nI w).toNatClampNeg)))) h from ⟨(vp_in_nI (by omega) (by omega)), (nI_ne0 (by omega) (by omega)), (vp_in_nI (by omega) (by omega)), (nI_ne0 (by omega) (by omega)), ?_⟩)
          exact k
        · skip
          refine exf_go 2 (show Q (.int 0) h from ?_)
          exact absurd rfl (by omega)
