/-! How many ways are left for the upper half. -/
def wyQ (W : Nat → Nat → Nat) (s t s2 t2 : Nat) : Nat := if t ≤ s ∧ s - t < 163 ∧ t2 ≤ s2 ∧ s2 - t2 < 163 then W (s - t) (s2 - t2) else 0
theorem c_ways {d : Nat} {h : Hp} {W : Nat → Nat → Nat} {s u s2 u2 : Nat} {Q : Po} (hs : s < 1000) (hu : u < 1000) (hs2 : s2 < 1000) (hu2 : u2 < 1000) (hW : ∀ x y, x < 163 → y < 163 → rI h 86 (x * 163 + y) = nI (W x y)) (hl : 26569 ≤ rL h 86) (hl2 : rL h 86 ≤ 50000) (k : Q (.int (nI (wyQ W s u s2 u2))) h) : wpC (d + 1) true 44 [.ref 85, .int ((nI s) - (nI u)), .int ((nI s2) - (nI u2))] h Q := by
  refine go_in rfl ?_
  refine exf_go 2 (show (((nI s) - (nI u)) < 0 → Go d true 44 26 [.ref 85, .int ((nI s) - (nI u)), .int ((nI s2) - (nI u2)), mk_] [] h Q) ∧ (¬ (((nI s) - (nI u)) < 0) → Go d true 44 4 [.ref 85, .int ((nI s) - (nI u)), .int ((nI s2) - (nI u2)), mk_] [] h Q) from ⟨fun c1 => ?_, fun c1 => ?_⟩)
  · skip
    have c1 := (nI_sub_neg (by omega) (by omega)).mp c1
    refine exf_go 4 (show ((0 : Int32) = 0 → Go d true 44 47 [.ref 85, .int ((nI s) - (nI u)), .int ((nI s2) - (nI u2)), .int 0] [] h Q) ∧ (¬ ((0 : Int32) = 0) → Go d true 44 32 [.ref 85, .int ((nI s) - (nI u)), .int ((nI s2) - (nI u2)), .int 0] [] h Q) from ⟨fun c2 => ?_, fun c2 => ?_⟩)
    · skip
      refine exf_go 2 (show Q (.int 0) h from ?_)
      rw [wyQ, if_neg (fun q => by omega)] at k; exact k
    · skip
      exact absurd (by decide) c2
  · skip
    have c1 : ¬ s < u := fun q => c1 ((nI_sub_neg (by omega) (by omega)).mpr q)
    refine exf_go 3 (show (163 ≤ ((nI s) - (nI u)) → Go d true 44 26 [.ref 85, .int ((nI s) - (nI u)), .int ((nI s2) - (nI u2)), mk_] [] h Q) ∧ (¬ (163 ≤ ((nI s) - (nI u))) → Go d true 44 11 [.ref 85, .int ((nI s) - (nI u)), .int ((nI s2) - (nI u2)), mk_] [] h Q) from ⟨fun c3 => ?_, fun c3 => ?_⟩)
    · skip
      have c3 : 163 ≤ s - u := (nI_leI (a := 163) (b := s - u) (by omega) (by omega)).mp (by rw [← pk_sub (a := s) (b := u) (by omega)]; exact c3)
      refine exf_go 4 (show ((0 : Int32) = 0 → Go d true 44 47 [.ref 85, .int ((nI s) - (nI u)), .int ((nI s2) - (nI u2)), .int 0] [] h Q) ∧ (¬ ((0 : Int32) = 0) → Go d true 44 32 [.ref 85, .int ((nI s) - (nI u)), .int ((nI s2) - (nI u2)), .int 0] [] h Q) from ⟨fun c4 => ?_, fun c4 => ?_⟩)
      · skip
        refine exf_go 2 (show Q (.int 0) h from ?_)
        rw [wyQ, if_neg (fun q => by omega)] at k; exact k
      · skip
        exact absurd (by decide) c4
    · skip
      have c3 : ¬ 163 ≤ s - u := fun q => c3 (by rw [pk_sub (a := s) (b := u) (by omega)]; exact (nI_leI (a := 163) (b := s - u) (by omega) (by omega)).mpr q)
      refine exf_go 2 (show (((nI s2) - (nI u2)) < 0 → Go d true 44 26 [.ref 85, .int ((nI s) - (nI u)), .int ((nI s2) - (nI u2)), mk_] [] h Q) ∧ (¬ (((nI s2) - (nI u2)) < 0) → Go d true 44 15 [.ref 85, .int ((nI s) - (nI u)), .int ((nI s2) - (nI u2)), mk_] [] h Q) from ⟨fun c5 => ?_, fun c5 => ?_⟩)
      · skip
        have c5 := (nI_sub_neg (by omega) (by omega)).mp c5
        refine exf_go 4 (show ((0 : Int32) = 0 → Go d true 44 47 [.ref 85, .int ((nI s) - (nI u)), .int ((nI s2) - (nI u2)), .int 0] [] h Q) ∧ (¬ ((0 : Int32) = 0) → Go d true 44 32 [.ref 85, .int ((nI s) - (nI u)), .int ((nI s2) - (nI u2)), .int 0] [] h Q) from ⟨fun c6 => ?_, fun c6 => ?_⟩)
        · skip
          refine exf_go 2 (show Q (.int 0) h from ?_)
          rw [wyQ, if_neg (fun q => by omega)] at k; exact k
        · skip
          exact absurd (by decide) c6
      · skip
        have c5 : ¬ s2 < u2 := fun q => c5 ((nI_sub_neg (by omega) (by omega)).mpr q)
        refine exf_go 3 (show (163 ≤ ((nI s2) - (nI u2)) → Go d true 44 26 [.ref 85, .int ((nI s) - (nI u)), .int ((nI s2) - (nI u2)), mk_] [] h Q) ∧ (¬ (163 ≤ ((nI s2) - (nI u2))) → Go d true 44 22 [.ref 85, .int ((nI s) - (nI u)), .int ((nI s2) - (nI u2)), mk_] [] h Q) from ⟨fun c7 => ?_, fun c7 => ?_⟩)
        · skip
          have c7 : 163 ≤ s2 - u2 := (nI_leI (a := 163) (b := s2 - u2) (by omega) (by omega)).mp (by rw [← pk_sub (a := s2) (b := u2) (by omega)]; exact c7)
          refine exf_go 4 (show ((0 : Int32) = 0 → Go d true 44 47 [.ref 85, .int ((nI s) - (nI u)), .int ((nI s2) - (nI u2)), .int 0] [] h Q) ∧ (¬ ((0 : Int32) = 0) → Go d true 44 32 [.ref 85, .int ((nI s) - (nI u)), .int ((nI s2) - (nI u2)), .int 0] [] h Q) from ⟨fun c8 => ?_, fun c8 => ?_⟩)
          · skip
            refine exf_go 2 (show Q (.int 0) h from ?_)
            rw [wyQ, if_neg (fun q => by omega)] at k; exact k
          · skip
            exact absurd (by decide) c8
        · skip
          have c7 : ¬ 163 ≤ s2 - u2 := fun q => c7 (by rw [pk_sub (a := s2) (b := u2) (by omega)]; exact (nI_leI (a := 163) (b := s2 - u2) (by omega) (by omega)).mpr q)
          refine exf_go 5 (show ((1 : Int32) = 0 → Go d true 44 47 [.ref 85, .int ((nI s) - (nI u)), .int ((nI s2) - (nI u2)), .int 1] [] h Q) ∧ (¬ ((1 : Int32) = 0) → Go d true 44 32 [.ref 85, .int ((nI s) - (nI u)), .int ((nI s2) - (nI u2)), .int 1] [] h Q) from ⟨fun c9 => ?_, fun c9 => ?_⟩)
          · skip
            exact absurd c9 (by decide)
          · skip
            refine exf_go 7 (show Go d true 44 43 [.ref 85, .int ((nI s) - (nI u)), .int ((nI s2) - (nI u2)), .int 1] [.int ((((nI s) - (nI u)) * 163) + ((nI s2) - (nI u2))), .ref 86] h Q from ?_)
            rw [show ((((nI s) - (nI u)) * 163) + ((nI s2) - (nI u2)) : Int32) = nI ((s - u) * 163 + (s2 - u2)) from by rw [pk_sub (a := s) (b := u) (by omega), pk_sub (a := s2) (b := u2) (by omega), show (163 : Int32) = nI 163 from rfl, pk_mul, nI_add]]
            refine exf_go 1 (show vp_in (nI ((s - u) * 163 + (s2 - u2))) (al h 86) ∧ (Go d true 44 44 [.ref 85, .int ((nI s) - (nI u)), .int ((nI s2) - (nI u2)), .int 1] [.int (rI h 86 ((nI ((s - u) * 163 + (s2 - u2))).toNatClampNeg))] h Q) from ⟨(vp_in_nI (by show _ < rL h 86; omega) (by show rL h 86 < _; omega)), ?_⟩)
            rw [show (rI h 86 ((nI ((s - u) * 163 + (s2 - u2))).toNatClampNeg) : Int32) = nI (W (s - u) (s2 - u2)) from by rw [nI_clamp (by omega)]; exact hW _ _ (by omega) (by omega)]
            refine exf_go 2 (show Q (.int (nI (W (s - u) (s2 - u2)))) h from ?_)
            rw [wyQ, if_pos ⟨by omega, by omega, by omega, by omega⟩] at k; exact k
theorem c_fill86 {d : Nat} {h : Hp} {Q : Po} (hl : al h 86 < 2 ^ 31) (k : ∀ h1, Fq (sAt 86) h h1 → (∀ i, i < (al h 86) → rI h1 86 i = 0) → Q mk_ h1) : wpC (d + 1) true 318 [.ref 86, .int 0] h Q := by
  refine go_in rfl ?_
  refine exf_go 4 (show Go d true 318 4 [.ref 86, .int 0, .int 0, mk_] [.int (nI (al h 86))] h Q from ?_)
  rw [show (nI (al h 86) : Int32) = nI (al h 86) from rfl]
  refine exf_go 1 (show Go d true 318 5 [.ref 86, .int 0, .int 0, .int (nI (al h 86))] [] h Q from ?_)
  have L5 : ∀ (k5 : Nat) (j : Nat) (h1 : Hp), ((al h 86) - j) < k5 → (j ≤ (al h 86)) → (Fq (sAt 86) h h1) → (∀ i, i < j → rI h1 86 i = 0) → Go d true 318 5 [.ref 86, .int 0, .int (nI j), .int (nI (al h 86))] [] h1 Q := by
    intro k5
    induction k5 with
    | zero => intro j h1 hk; exact absurd hk (Nat.not_lt_zero _)
    | succ k5 ih5 =>
      intro j h1 hk hj q1 hv
      have hal1 : al h1 86 = al h 86 := q1.L 86
      refine exf_go 3 (show ((nI (al h 86)) ≤ (nI j) → Go d true 318 20 [.ref 86, .int 0, .int (nI j), .int (nI (al h 86))] [] h1 Q) ∧ (¬ ((nI (al h 86)) ≤ (nI j)) → Go d true 318 10 [.ref 86, .int 0, .int (nI j), .int (nI (al h 86))] [] h1 Q) from ⟨fun c1 => ?_, fun c1 => ?_⟩)
      · skip
        have c1 : (al h 86) ≤ j := (nI_leI (a := (al h 86)) (b := j) (by omega) (by omega)).mp c1
        refine exf_go 1 (show Q (mk_) h1 from ?_)
        exact k h1 q1 (fun i hi => hv i (by omega))
      · skip
        have c1 : ¬ (al h 86) ≤ j := fun q => c1 ((nI_leI (a := (al h 86)) (b := j) (by omega) (by omega)).mpr q)
        refine exf_go 5 (show vp_in (nI j) (al h1 86) ∧ (Go d true 318 17 [.ref 86, .int 0, .int ((nI j) + 1), .int (nI (al h 86))] [] (uI h1 86 ((nI j).toNatClampNeg) 0) Q) from ⟨(by rw [show al h1 86 = al h 86 from q1.L 86]; exact vp_in_nI (by omega) (by omega)), ?_⟩)
        rw [show ((nI j) + 1 : Int32) = nI (j + 1) from nI_add j 1]
        refine exf_go 1 (show Go d true 318 5 [.ref 86, .int 0, .int (nI (j + 1)), .int (nI (al h 86))] [] (uI h1 86 ((nI j).toNatClampNeg) 0) Q from ?_)
        exact ih5 (j + 1) _ (by omega) (by omega) (q1.uI' _ _ _ rfl) (fun i hi => by rw [nI_clamp (by omega)]; exact (Decidable.em (i = j)).elim (fun e => by rw [e, rI_uI_eq]) (fun e => by rw [rI_uI_at e]; exact hv i (by omega)))
  exact L5 ((al h 86) + 1) 0 h (by omega) (by omega) Fq.rfl' (fun i hi => absurd hi (Nat.not_lt_zero _))
