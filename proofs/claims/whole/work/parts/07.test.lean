theorem c32 {d : Nat} {h : Hp} {x : Int32} {Q : Po} (k : Q (.int (if ¬ x < 0 ∧ ¬ rI h 39 1 ≤ x then 1 else 0)) h) : wpC (d + 1) true 32 [.ref 39, .int x] h Q := by
  refine go_in (exf_go 2 (show (x < 0 → Go d true 32 16 [.ref 39, .int x] [] h Q) ∧ (¬ x < 0 → Go d true 32 4 [.ref 39, .int x] [] h Q) from ⟨fun c => ?_, fun c => ?_⟩))
  · refine exf_go 2 (show ((0 : Int32) = 0 ∨ (0 : Int32) = 1) ∧ Q (.int 0) h from ⟨Or.inl rfl, ?_⟩)
    rw [if_neg (by simp [c])] at k
    exact k
  · refine exf_go 4 (show (rI h 39 1 ≤ x → Go d true 32 16 [.ref 39, .int x] [] h Q) ∧ (¬ rI h 39 1 ≤ x → Go d true 32 12 [.ref 39, .int x] [] h Q) from ⟨fun c2 => ?_, fun c2 => ?_⟩)
    · refine exf_go 2 (show ((0 : Int32) = 0 ∨ (0 : Int32) = 1) ∧ Q (.int 0) h from ⟨Or.inl rfl, ?_⟩)
      rw [if_neg (by simp [c2])] at k
      exact k
    · refine exf_go 3 (show ((1 : Int32) = 0 ∨ (1 : Int32) = 1) ∧ Q (.int 1) h from ⟨Or.inr rfl, ?_⟩)
      rw [if_pos ⟨c, c2⟩] at k
      exact k
theorem c31 {d : Nat} {h : Hp} {x : Int32} {Q : Po} (hs : vp_in x 5 → vp_in x (al h 40)) (k : ∀ v, Q (.int v) h) : wpC (d + 2) true 31 [.ref 39, .int x] h Q := by
  refine go_in (exf_go 3 (show wpC (d + 1) true 32 [.ref 39, .int x] h (fun r h => Go (d + 1) true 31 5 [.ref 39, .int x] [r] h Q) from c32 ?_))
  refine exf_go 1 (show (_ = _ → Go (d + 1) true 31 25 [.ref 39, .int x] [] h Q) ∧ (¬ _ = _ → Go (d + 1) true 31 8 [.ref 39, .int x] [] h Q) from ⟨fun c => ?_, fun c => ?_⟩)
  · sorry
  · refine exf_go 7 (show vp_in x (al h 40) ∧ ((¬ (rI h 40 x.toNatClampNeg &&& 1792) = 0 → Go (d + 1) true 31 25 [.ref 39, .int x] [] h Q) ∧ (¬ ¬ (rI h 40 x.toNatClampNeg &&& 1792) = 0 → Go (d + 1) true 31 21 [.ref 39, .int x] [] h Q)) from ⟨?_, fun c => ?_, fun c => ?_⟩)
    · sorry
    · sorry
    · sorry
