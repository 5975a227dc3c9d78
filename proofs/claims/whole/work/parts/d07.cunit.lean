/-! The class: sums, units, truths. -/
theorem whl_p {b : Nat → Nat} {n f : Nat} {F : PsG → PsG} {s : PsG} (hf : 1 ≤ f) (h : pmK b n s = true) (e : ¬ qe (F (nx s)) = 0) : whl (pmK b n) (pmB b n F) f s = F (nx s) := by
  rw [whl_y hf h]
  have e2 : pmB b n F s = F (nx s) := em_id e
  rw [e2, whl_n (pmK_id e)]
theorem pmK_y {b : Nat → Nat} {n : Nat} {s : PsG} (he : qe s = 0) (h : kd b n (qi s) = 27 ∨ kd b n (qi s) = 28) : pmK b n s = true := by
  unfold pmK
  rcases h with h | h
  · rw [isK_y he h]; rfl
  · rw [isK_y (k := 28) he h, Bool.or_true]
theorem pmK_n {b : Nat → Nat} {n : Nat} {s : PsG} (h1 : ¬ kd b n (qi s) = 27) (h2 : ¬ kd b n (qi s) = 28) : pmK b n s = false := by
  unfold pmK
  rw [isK_n (fun z => h1 z.2), isK_n (fun z => h2 z.2)]; rfl
theorem cmpK_y {b : Nat → Nat} {n : Nat} {s : PsG} (he : qe s = 0) (h : kd b n (qi s) = 34 ∨ kd b n (qi s) = 35 ∨ kd b n (qi s) = 36) : cmpK b n s = true := by
  unfold cmpK
  rcases h with h | h | h
  · rw [isK_y he h]; rfl
  · rw [isK_y (k := 35) he h, Bool.or_true]; rfl
  · rw [isK_y (k := 36) he h, Bool.or_true]
theorem cmpK_n {b : Nat → Nat} {n : Nat} {s : PsG} (h : ¬ qe s = 0 ∨ (¬ kd b n (qi s) = 34 ∧ ¬ kd b n (qi s) = 35 ∧ ¬ kd b n (qi s) = 36)) : cmpK b n s = false := by
  unfold cmpK
  rw [isK_n (by omega), isK_n (by omega), isK_n (by omega)]; rfl
theorem c_sumF0 {d : Nat} {h : Hp} {b : Nat → Nat} {n N : Nat} {s : PsG} {Q : Po} {W dp : Nat} {F : PsG → PsG} (gF : Gd b n F) (hF : CC b n N W (d + 7) 71 dp F) (cp : CP b n N s h) (iv : IV b n 0 s) (he : qe s = 0) (hW : rI h 23 0 = nI W) (k1 : ∀ h1, Fq sRc h h1 → CP b n N (sumF b n F s) h1 → qe (sumF b n F s) = 0 → Q (.int 1) h1) (k0 : ∀ h1, Fq sRc h h1 → CP b n N (sumF b n F s) h1 → ¬ qe (sumF b n F s) = 0 → Q (.int 0) h1) : wpC (d + 8) true 70 [.ref 16, .int (nI dp)] h Q := by
  have hb := cp_b cp
  refine go_in rfl ?_
  refine exf_go 3 (show wpC (d + 7) true 71 [.ref 16, .int (nI dp)] h (fun r h' => Go (d + 7) true 70 5 [.ref 16, .int (nI dp), mk_, mk_] [r] h' Q) from ?_)
  have gg1 := gF _ _ iv; have iv1 := gg1.1
  refine hF _ _ _ cp (iv.le (Nat.zero_le _)) (by omega) (hW) (fun h1 q1 cp1 hz1 => ?_) (fun h2 q2 cp2 hz2 => ?_)
  · skip
    have hb1 := cp_b cp1
    show Go (d + 7) true 70 5 [.ref 16, .int (nI dp), mk_, mk_] [.int 1] h1 Q
    refine exf_go 1 (show (¬ (1 : Int32) = 0 → Go (d + 7) true 70 10 [.ref 16, .int (nI dp), mk_, mk_] [] h1 Q) ∧ (¬ (¬ (1 : Int32) = 0) → Go (d + 7) true 70 8 [.ref 16, .int (nI dp), mk_, mk_] [] h1 Q) from ⟨fun c1 => ?_, fun c1 => ?_⟩)
    · skip
      refine exf_go 2 (show Go (d + 7) true 70 12 [.ref 16, .int (nI dp), .int 0, mk_] [] h1 Q from ?_)
      have L12 : ∀ (k12 : Nat) (z3 : Value) (j : Nat) (s1 : PsG) (hL : Hp), (900 - j) < k12 → (j ≤ 900) → (Fq sRc h hL) → (CP b n N s1 hL) → (IV b n 0 s1) → (qe s1 = 0) → (sumF b n F s = whl (pmK b n) (pmB b n F) (900 - j) s1) → Go (d + 7) true 70 12 [.ref 16, .int (nI dp), .int (nI j), z3] [] hL Q := by
        intro k12
        induction k12 with
        | zero => intro z3 j s1 hL hk; exact absurd hk (Nat.not_lt_zero _)
        | succ k12 ih12 =>
          intro z3 j s1 hL hk hj qL cpL ivL heL hwh
          have hbL := cp_b cpL
          refine exf_go 3 (show (900 ≤ (nI j) → Go (d + 7) true 70 89 [.ref 16, .int (nI dp), .int (nI j), z3] [] hL Q) ∧ (¬ (900 ≤ (nI j)) → Go (d + 7) true 70 19 [.ref 16, .int (nI dp), .int (nI j), z3] [] hL Q) from ⟨fun c2 => ?_, fun c2 => ?_⟩)
          · skip
            have c2 : 900 ≤ j := (nI_leI (a := 900) (b := j) (by omega) (by omega)).mp c2
            refine exf_go 2 (show ((1 : Int32) = 0 ∨ (1 : Int32) = 1) ∧ Q (.int 1) hL from ⟨(by first | exact Or.inl rfl | exact Or.inr rfl | assumption), ?_⟩)
            rw [hwh, whl_0 (by omega)] at k1; exact k1 _ qL cpL heL
          · skip
            have c2 : ¬ 900 ≤ j := fun q => c2 ((nI_leI (a := 900) (b := j) (by omega) (by omega)).mpr q)
            refine exf_go 2 (show wpC (d + 7) true 55 [.ref 16] hL (fun r h' => Go (d + 7) true 70 23 [.ref 16, .int (nI dp), .int (nI j), z3] [r] h' Q) from ?_)
            refine c_kind cpL ?_
            show Go (d + 7) true 70 23 [.ref 16, .int (nI dp), .int (nI j), z3] [.int (nI (ckd (kd b n (qi s1))))] hL Q
            refine exf_go 2 (show ((nI (ckd (kd b n (qi s1)))) = 43 → Go (d + 7) true 70 37 [.ref 16, .int (nI dp), .int (nI j), z3] [] hL Q) ∧ (¬ ((nI (ckd (kd b n (qi s1)))) = 43) → Go (d + 7) true 70 28 [.ref 16, .int (nI dp), .int (nI j), z3] [] hL Q) from ⟨fun c3 => ?_, fun c3 => ?_⟩)
            · skip
              have c3 : (ckd (kd b n (qi s1))) = 43 := (nI_eq (a := (ckd (kd b n (qi s1)))) (b := 43) (by omega) (by omega)).mp c3
              have c3 : kd b n (qi s1) = 27 := (ckd_inj _ (by omega) 27 (by decide)).mp (show _ = 43 from by omega)
              refine exf_go 2 (show wpC (d + 7) true 55 [.ref 16] hL (fun r h' => Go (d + 7) true 70 41 [.ref 16, .int (nI dp), .int (nI j), z3] [r] h' Q) from ?_)
              refine c_kind cpL ?_
              show Go (d + 7) true 70 41 [.ref 16, .int (nI dp), .int (nI j), z3] [.int (nI (ckd (kd b n (qi s1))))] hL Q
              refine exf_go 2 (show (¬ (nI (ckd (kd b n (qi s1)))) = 43 → Go (d + 7) true 70 51 [.ref 16, .int (nI dp), .int (nI j), z3] [] hL Q) ∧ (¬ (¬ (nI (ckd (kd b n (qi s1)))) = 43) → Go (d + 7) true 70 46 [.ref 16, .int (nI dp), .int (nI j), z3] [] hL Q) from ⟨fun c4 => ?_, fun c4 => ?_⟩)
              · skip
                have c4 : ¬ (ckd (kd b n (qi s1))) = 43 := fun q => c4 ((nI_eq (a := (ckd (kd b n (qi s1)))) (b := 43) (by omega) (by omega)).mpr q)
                have c4 : ¬ kd b n (qi s1) = 27 := fun z => absurd (show ckd (kd b n (qi s1)) = 43 from by rw [z]; rfl) (by omega)
                exfalso; omega
              · skip
                have c4 : (ckd (kd b n (qi s1))) = 43 := (nI_eq (a := (ckd (kd b n (qi s1)))) (b := 43) (by omega) (by omega)).mp (Classical.not_not.mp c4)
                have c4 : kd b n (qi s1) = 27 := (ckd_inj _ (by omega) 27 (by decide)).mp (show _ = 43 from by omega)
                refine exf_go 6 (show Go (d + 7) true 70 59 [.ref 16, .int (nI dp), .int (nI j), .int 7] [.int (rI hL 16 2), .ref 16] hL Q from ?_)
                rw [show (rI hL 16 2 : Int32) = nI (qi s1) from cpL.2.2.1.2.1]
                refine exf_go 2 (show Go (d + 7) true 70 61 [.ref 16, .int (nI dp), .int (nI j), .int 7] [.int ((nI (qi s1)) + 1), .ref 16] hL Q from ?_)
                rw [show ((nI (qi s1)) + 1 : Int32) = nI ((qi s1) + 1) from nI_add (qi s1) 1]
                refine exf_go 4 (show wpC (d + 7) true 71 [.ref 16, .int (nI dp)] (uI hL 16 2 (nI ((qi s1) + 1))) (fun r h' => Go (d + 7) true 70 69 [.ref 16, .int (nI dp), .int (nI j), .int 7] [r] h' Q) from ?_)
                have cp3 := cp_nx cpL (by omega) (by omega)
                have q3 : Fq sRc hL (uI hL 16 2 (nI ((qi s1) + 1))) := Fq.rfl'.uI' _ _ _ rfl
                have iv3 := iv_nx ivL (by omega); have hz3 := qe_nx s1; have hi3 := qi_nx s1
                generalize hg3 : uI hL 16 2 (nI ((qi s1) + 1)) = h3 at cp3 q3 ⊢
                have hb3 := cp_b cp3
                have gg4 := gF _ _ iv3; have iv4 := gg4.1
                refine hF _ _ _ cp3 (iv3.le (Nat.zero_le _)) (by omega) ((((Fq.tr qL q3)).1 23 0 rfl).1.trans hW) (fun h4 q4 cp4 hz4 => ?_) (fun h5 q5 cp5 hz5 => ?_)
                · skip
                  have hb4 := cp_b cp4
                  show Go (d + 7) true 70 69 [.ref 16, .int (nI dp), .int (nI j), .int 7] [.int 1] h4 Q
                  refine exf_go 1 (show (¬ (1 : Int32) = 0 → Go (d + 7) true 70 74 [.ref 16, .int (nI dp), .int (nI j), .int 7] [] h4 Q) ∧ (¬ (¬ (1 : Int32) = 0) → Go (d + 7) true 70 72 [.ref 16, .int (nI dp), .int (nI j), .int 7] [] h4 Q) from ⟨fun c5 => ?_, fun c5 => ?_⟩)
                  · skip
                    refine exf_go 5 (show rN h4 16 6 = true ∧ (wpC (d + 7) true 3 [.ref 17, .int 7, .int 0] h4 (fun _ h' => Go (d + 7) true 70 83 [.ref 16, .int (nI dp), .int (nI j), .int 7] [] h' Q)) from ⟨(cp4.2.1.2.2), ?_⟩)
                    have hq6 := iv4.2 (by omega)
                    refine c_emit (c := 3000) cp4 (by omega) (by omega) (by decide) (by decide) (fun h6 q6 cp6 => ?_)
                    have hb6 := cp_b cp6
                    have hz6 := qe_em 3000 (F (nx s1)); have hi6 := qi_em 3000 (F (nx s1))
                    show Go (d + 7) true 70 83 [.ref 16, .int (nI dp), .int (nI j), .int 7] [] h6 Q
                    refine exf_go 1 (show Go (d + 7) true 70 86 [.ref 16, .int (nI dp), .int ((nI j) + 1), .int 7] [] h6 Q from ?_)
                    rw [show ((nI j) + 1 : Int32) = nI (j + 1) from nI_add j 1]
                    refine exf_go 1 (show Go (d + 7) true 70 12 [.ref 16, .int (nI dp), .int (nI (j + 1)), .int 7] [] h6 Q from ?_)
                    have hpk := pmK_y (b := b) (n := n) heL (by omega)
                    have hpb : (em 3000 (F (nx s1))) = pmB b n F s1 := by unfold pmB; rw [if_pos (by omega)]
                    have hz9 : qe (pmB b n F s1) = 0 := by rw [← hpb]; omega
                    rw [hpb] at cp6
                    exact ih12 (.int 7) (j + 1) _ h6 (by omega) (by omega) (Fq.tr (Fq.tr (Fq.tr qL q3) q4) q6) cp6 (gd_pm gF 0 s1 ivL hpk).1 hz9 (by rw [hwh]; exact whl_y (by omega) hpk)
                  · skip
                    exact absurd (by decide) c5
                · skip
                  show Go (d + 7) true 70 69 [.ref 16, .int (nI dp), .int (nI j), .int 7] [.int 0] h5 Q
                  refine exf_go 1 (show (¬ (0 : Int32) = 0 → Go (d + 7) true 70 74 [.ref 16, .int (nI dp), .int (nI j), .int 7] [] h5 Q) ∧ (¬ (¬ (0 : Int32) = 0) → Go (d + 7) true 70 72 [.ref 16, .int (nI dp), .int (nI j), .int 7] [] h5 Q) from ⟨fun c6 => ?_, fun c6 => ?_⟩)
                  · skip
                    exact absurd c6 (by decide)
                  · skip
                    refine exf_go 2 (show ((0 : Int32) = 0 ∨ (0 : Int32) = 1) ∧ Q (.int 0) h5 from ⟨(by first | exact Or.inl rfl | exact Or.inr rfl | assumption), ?_⟩)
                    rw [hwh, whl_p (by omega) (pmK_y heL (by omega)) hz5] at k0; exact k0 _ (Fq.tr (Fq.tr qL q3) q5) cp5 hz5
            · skip
              have c3 : ¬ (ckd (kd b n (qi s1))) = 43 := fun q => c3 ((nI_eq (a := (ckd (kd b n (qi s1)))) (b := 43) (by omega) (by omega)).mpr q)
              have c3 : ¬ kd b n (qi s1) = 27 := fun z => absurd (show ckd (kd b n (qi s1)) = 43 from by rw [z]; rfl) (by omega)
              refine exf_go 2 (show wpC (d + 7) true 55 [.ref 16] hL (fun r h' => Go (d + 7) true 70 32 [.ref 16, .int (nI dp), .int (nI j), z3] [r] h' Q) from ?_)
              refine c_kind cpL ?_
              show Go (d + 7) true 70 32 [.ref 16, .int (nI dp), .int (nI j), z3] [.int (nI (ckd (kd b n (qi s1))))] hL Q
              refine exf_go 2 (show (¬ (nI (ckd (kd b n (qi s1)))) = 45 → Go (d + 7) true 70 89 [.ref 16, .int (nI dp), .int (nI j), z3] [] hL Q) ∧ (¬ (¬ (nI (ckd (kd b n (qi s1)))) = 45) → Go (d + 7) true 70 37 [.ref 16, .int (nI dp), .int (nI j), z3] [] hL Q) from ⟨fun c7 => ?_, fun c7 => ?_⟩)
              · skip
                have c7 : ¬ (ckd (kd b n (qi s1))) = 45 := fun q => c7 ((nI_eq (a := (ckd (kd b n (qi s1)))) (b := 45) (by omega) (by omega)).mpr q)
                have c7 : ¬ kd b n (qi s1) = 28 := fun z => absurd (show ckd (kd b n (qi s1)) = 45 from by rw [z]; rfl) (by omega)
                refine exf_go 2 (show ((1 : Int32) = 0 ∨ (1 : Int32) = 1) ∧ Q (.int 1) hL from ⟨(by first | exact Or.inl rfl | exact Or.inr rfl | assumption), ?_⟩)
                rw [hwh, whl_n (pmK_n (by omega) (by omega))] at k1; exact k1 _ qL cpL heL
              · skip
                have c7 : (ckd (kd b n (qi s1))) = 45 := (nI_eq (a := (ckd (kd b n (qi s1)))) (b := 45) (by omega) (by omega)).mp (Classical.not_not.mp c7)
                have c7 : kd b n (qi s1) = 28 := (ckd_inj _ (by omega) 28 (by decide)).mp (show _ = 45 from by omega)
                refine exf_go 2 (show wpC (d + 7) true 55 [.ref 16] hL (fun r h' => Go (d + 7) true 70 41 [.ref 16, .int (nI dp), .int (nI j), z3] [r] h' Q) from ?_)
                refine c_kind cpL ?_
                show Go (d + 7) true 70 41 [.ref 16, .int (nI dp), .int (nI j), z3] [.int (nI (ckd (kd b n (qi s1))))] hL Q
                refine exf_go 2 (show (¬ (nI (ckd (kd b n (qi s1)))) = 43 → Go (d + 7) true 70 51 [.ref 16, .int (nI dp), .int (nI j), z3] [] hL Q) ∧ (¬ (¬ (nI (ckd (kd b n (qi s1)))) = 43) → Go (d + 7) true 70 46 [.ref 16, .int (nI dp), .int (nI j), z3] [] hL Q) from ⟨fun c8 => ?_, fun c8 => ?_⟩)
                · skip
                  have c8 : ¬ (ckd (kd b n (qi s1))) = 43 := fun q => c8 ((nI_eq (a := (ckd (kd b n (qi s1)))) (b := 43) (by omega) (by omega)).mpr q)
                  have c8 : ¬ kd b n (qi s1) = 27 := fun z => absurd (show ckd (kd b n (qi s1)) = 43 from by rw [z]; rfl) (by omega)
                  refine exf_go 5 (show Go (d + 7) true 70 59 [.ref 16, .int (nI dp), .int (nI j), .int 8] [.int (rI hL 16 2), .ref 16] hL Q from ?_)
                  rw [show (rI hL 16 2 : Int32) = nI (qi s1) from cpL.2.2.1.2.1]
                  refine exf_go 2 (show Go (d + 7) true 70 61 [.ref 16, .int (nI dp), .int (nI j), .int 8] [.int ((nI (qi s1)) + 1), .ref 16] hL Q from ?_)
                  rw [show ((nI (qi s1)) + 1 : Int32) = nI ((qi s1) + 1) from nI_add (qi s1) 1]
                  refine exf_go 4 (show wpC (d + 7) true 71 [.ref 16, .int (nI dp)] (uI hL 16 2 (nI ((qi s1) + 1))) (fun r h' => Go (d + 7) true 70 69 [.ref 16, .int (nI dp), .int (nI j), .int 8] [r] h' Q) from ?_)
                  have cp7 := cp_nx cpL (by omega) (by omega)
                  have q7 : Fq sRc hL (uI hL 16 2 (nI ((qi s1) + 1))) := Fq.rfl'.uI' _ _ _ rfl
                  have iv7 := iv_nx ivL (by omega); have hz7 := qe_nx s1; have hi7 := qi_nx s1
                  generalize hg7 : uI hL 16 2 (nI ((qi s1) + 1)) = h7 at cp7 q7 ⊢
                  have hb7 := cp_b cp7
                  have gg8 := gF _ _ iv7; have iv8 := gg8.1
                  refine hF _ _ _ cp7 (iv7.le (Nat.zero_le _)) (by omega) ((((Fq.tr qL q7)).1 23 0 rfl).1.trans hW) (fun h8 q8 cp8 hz8 => ?_) (fun h9 q9 cp9 hz9 => ?_)
                  · skip
                    have hb8 := cp_b cp8
                    show Go (d + 7) true 70 69 [.ref 16, .int (nI dp), .int (nI j), .int 8] [.int 1] h8 Q
                    refine exf_go 1 (show (¬ (1 : Int32) = 0 → Go (d + 7) true 70 74 [.ref 16, .int (nI dp), .int (nI j), .int 8] [] h8 Q) ∧ (¬ (¬ (1 : Int32) = 0) → Go (d + 7) true 70 72 [.ref 16, .int (nI dp), .int (nI j), .int 8] [] h8 Q) from ⟨fun c9 => ?_, fun c9 => ?_⟩)
                    · skip
                      refine exf_go 5 (show rN h8 16 6 = true ∧ (wpC (d + 7) true 3 [.ref 17, .int 8, .int 0] h8 (fun _ h' => Go (d + 7) true 70 83 [.ref 16, .int (nI dp), .int (nI j), .int 8] [] h' Q)) from ⟨(cp8.2.1.2.2), ?_⟩)
                      have hq10 := iv8.2 (by omega)
                      refine c_emit (c := 3001) cp8 (by omega) (by omega) (by decide) (by decide) (fun h10 q10 cp10 => ?_)
                      have hb10 := cp_b cp10
                      have hz10 := qe_em 3001 (F (nx s1)); have hi10 := qi_em 3001 (F (nx s1))
                      show Go (d + 7) true 70 83 [.ref 16, .int (nI dp), .int (nI j), .int 8] [] h10 Q
                      refine exf_go 1 (show Go (d + 7) true 70 86 [.ref 16, .int (nI dp), .int ((nI j) + 1), .int 8] [] h10 Q from ?_)
                      rw [show ((nI j) + 1 : Int32) = nI (j + 1) from nI_add j 1]
                      refine exf_go 1 (show Go (d + 7) true 70 12 [.ref 16, .int (nI dp), .int (nI (j + 1)), .int 8] [] h10 Q from ?_)
                      have hpk := pmK_y (b := b) (n := n) heL (by omega)
                      have hpb : (em 3001 (F (nx s1))) = pmB b n F s1 := by unfold pmB; rw [if_neg (by omega)]
                      have hz9 : qe (pmB b n F s1) = 0 := by rw [← hpb]; omega
                      rw [hpb] at cp10
                      exact ih12 (.int 8) (j + 1) _ h10 (by omega) (by omega) (Fq.tr (Fq.tr (Fq.tr qL q7) q8) q10) cp10 (gd_pm gF 0 s1 ivL hpk).1 hz9 (by rw [hwh]; exact whl_y (by omega) hpk)
                    · skip
                      exact absurd (by decide) c9
                  · skip
                    show Go (d + 7) true 70 69 [.ref 16, .int (nI dp), .int (nI j), .int 8] [.int 0] h9 Q
                    refine exf_go 1 (show (¬ (0 : Int32) = 0 → Go (d + 7) true 70 74 [.ref 16, .int (nI dp), .int (nI j), .int 8] [] h9 Q) ∧ (¬ (¬ (0 : Int32) = 0) → Go (d + 7) true 70 72 [.ref 16, .int (nI dp), .int (nI j), .int 8] [] h9 Q) from ⟨fun c10 => ?_, fun c10 => ?_⟩)
                    · skip
                      exact absurd c10 (by decide)
                    · skip
                      refine exf_go 2 (show ((0 : Int32) = 0 ∨ (0 : Int32) = 1) ∧ Q (.int 0) h9 from ⟨(by first | exact Or.inl rfl | exact Or.inr rfl | assumption), ?_⟩)
                      rw [hwh, whl_p (by omega) (pmK_y heL (by omega)) hz9] at k0; exact k0 _ (Fq.tr (Fq.tr qL q7) q9) cp9 hz9
                · skip
                  have c8 : (ckd (kd b n (qi s1))) = 43 := (nI_eq (a := (ckd (kd b n (qi s1)))) (b := 43) (by omega) (by omega)).mp (Classical.not_not.mp c8)
                  have c8 : kd b n (qi s1) = 27 := (ckd_inj _ (by omega) 27 (by decide)).mp (show _ = 43 from by omega)
                  exfalso; omega
      exact L12 (900 + 1) mk_ 0 _ h1 (by omega) (by omega) q1 cp1 gg1.1 hz1 rfl
    · skip
      exact absurd (by decide) c1
  · skip
    show Go (d + 7) true 70 5 [.ref 16, .int (nI dp), mk_, mk_] [.int 0] h2 Q
    refine exf_go 1 (show (¬ (0 : Int32) = 0 → Go (d + 7) true 70 10 [.ref 16, .int (nI dp), mk_, mk_] [] h2 Q) ∧ (¬ (¬ (0 : Int32) = 0) → Go (d + 7) true 70 8 [.ref 16, .int (nI dp), mk_, mk_] [] h2 Q) from ⟨fun c11 => ?_, fun c11 => ?_⟩)
    · skip
      exact absurd c11 (by decide)
    · skip
      refine exf_go 2 (show ((0 : Int32) = 0 ∨ (0 : Int32) = 1) ∧ Q (.int 0) h2 from ⟨(by first | exact Or.inl rfl | exact Or.inr rfl | assumption), ?_⟩)
      have e9 : sumF b n F s = F s := by unfold sumF; exact whl_n (pmK_id hz2)
      rw [e9] at k0; exact k0 _ q2 cp2 hz2
theorem CC.up {b : Nat → Nat} {n N W D D' y dp : Nat} {F : PsG → PsG} (h : CC b n N W D y dp F) (hd : D ≤ D') : CC b n N W D' y dp F := fun s h1 Q cp iv he hW k1 k0 => wpC_le hd (h s h1 Q cp iv he hW k1 k0)
theorem c_sumF {d : Nat} {b : Nat → Nat} {n N W dp : Nat} {F : PsG → PsG} (gF : Gd b n F) (hF : CC b n N W (d + 7) 71 dp F) : CC b n N W (d + 8) 70 dp (sumF b n F) := fun _ _ _ cp iv he hW k1 k0 => c_sumF0 gF hF cp iv he hW k1 k0
theorem c_sumS {d : Nat} {b : Nat → Nat} {n N W m : Nat} (hW4 : W ≤ 4) (hm : m ≤ 6) (ih : ∀ q, m = q + 1 → CC b n N W (d + 7) 70 (6 - q) (innS b n W m)) : CC b n N W (d + 10) 70 (6 - m) (smL b n W m) := by
  rw [smL_e]
  exact c_sumF (d := d + 2) (gd_bin (by decide) (gd_atom (gd_innS b n W m))) (c_termW (d := d + 1) (gd_atom (gd_innS b n W m)) (c_atom hW4 hm (gd_innS b n W m) ih))
theorem c_sumLv {b : Nat → Nat} {n N W : Nat} (hW4 : W ≤ 4) (d : Nat) : ∀ m, m ≤ 6 → CC b n N W (3 * m + d + 10) 70 (6 - m) (smL b n W m)
  | 0, h => c_sumS hW4 h (fun q e => absurd e (by omega))
  | m + 1, h => c_sumS hW4 h (fun q e => by
    have e : q = m := by omega
    subst e
    rw [show 3 * (q + 1) + d + 7 = 3 * q + d + 10 from by omega]
    exact c_sumLv hW4 d q (by omega))
theorem c_cmp0 {d : Nat} {h : Hp} {b : Nat → Nat} {n N : Nat} {s : PsG} {Q : Po} {W dp : Nat} {F : PsG → PsG} (gF : Gd b n F) (hF : CC b n N W (d + 7) 70 dp F) (cp : CP b n N s h) (iv : IV b n 0 s) (he : qe s = 0) (hW : rI h 23 0 = nI W) (k1 : ∀ h1, Fq sRc h h1 → CP b n N (cmpF b n F s) h1 → qe (cmpF b n F s) = 0 → Q (.int 1) h1) (k0 : ∀ h1, Fq sRc h h1 → CP b n N (cmpF b n F s) h1 → ¬ qe (cmpF b n F s) = 0 → Q (.int 0) h1) : wpC (d + 8) true 69 [.ref 16, .int (nI dp)] h Q := by
  have hb := cp_b cp
  refine go_in rfl ?_
  refine exf_go 3 (show wpC (d + 7) true 70 [.ref 16, .int (nI dp)] h (fun r h' => Go (d + 7) true 69 5 [.ref 16, .int (nI dp), mk_] [r] h' Q) from ?_)
  have gg1 := gF _ _ iv; have iv1 := gg1.1
  refine hF _ _ _ cp (iv.le (Nat.zero_le _)) (by omega) (hW) (fun h1 q1 cp1 hz1 => ?_) (fun h2 q2 cp2 hz2 => ?_)
  · skip
    have hb1 := cp_b cp1
    show Go (d + 7) true 69 5 [.ref 16, .int (nI dp), mk_] [.int 1] h1 Q
    refine exf_go 1 (show (¬ (1 : Int32) = 0 → Go (d + 7) true 69 10 [.ref 16, .int (nI dp), mk_] [] h1 Q) ∧ (¬ (¬ (1 : Int32) = 0) → Go (d + 7) true 69 8 [.ref 16, .int (nI dp), mk_] [] h1 Q) from ⟨fun c1 => ?_, fun c1 => ?_⟩)
    · skip
      refine exf_go 2 (show wpC (d + 7) true 55 [.ref 16] h1 (fun r h' => Go (d + 7) true 69 14 [.ref 16, .int (nI dp), mk_] [r] h' Q) from ?_)
      refine c_kind cp1 ?_
      show Go (d + 7) true 69 14 [.ref 16, .int (nI dp), mk_] [.int (nI (ckd (kd b n (qi (F s)))))] h1 Q
      refine exf_go 4 (show ((nI (ckd (kd b n (qi (F s))))) = 61 → Go (d + 7) true 69 39 [.ref 16, .int (nI dp), .int (nI (ckd (kd b n (qi (F s)))))] [] h1 Q) ∧ (¬ ((nI (ckd (kd b n (qi (F s))))) = 61) → Go (d + 7) true 69 21 [.ref 16, .int (nI dp), .int (nI (ckd (kd b n (qi (F s)))))] [] h1 Q) from ⟨fun c2 => ?_, fun c2 => ?_⟩)
      · skip
        have c2 : (ckd (kd b n (qi (F s)))) = 61 := (nI_eq (a := (ckd (kd b n (qi (F s))))) (b := 61) (by omega) (by omega)).mp c2
        have c2 : kd b n (qi (F s)) = 34 := (ckd_inj _ (by omega) 34 (by decide)).mp (show _ = 61 from by omega)
        refine exf_go 3 (show Go (d + 7) true 69 44 [.ref 16, .int (nI dp), .int (nI (ckd (kd b n (qi (F s)))))] [.int (rI h1 16 2), .ref 16] h1 Q from ?_)
        rw [show (rI h1 16 2 : Int32) = nI (qi (F s)) from cp1.2.2.1.2.1]
        refine exf_go 2 (show Go (d + 7) true 69 46 [.ref 16, .int (nI dp), .int (nI (ckd (kd b n (qi (F s)))))] [.int ((nI (qi (F s))) + 1), .ref 16] h1 Q from ?_)
        rw [show ((nI (qi (F s))) + 1 : Int32) = nI ((qi (F s)) + 1) from nI_add (qi (F s)) 1]
        refine exf_go 4 (show wpC (d + 7) true 70 [.ref 16, .int (nI dp)] (uI h1 16 2 (nI ((qi (F s)) + 1))) (fun r h' => Go (d + 7) true 69 54 [.ref 16, .int (nI dp), .int (nI (ckd (kd b n (qi (F s)))))] [r] h' Q) from ?_)
        have cp3 := cp_nx cp1 (by omega) (by omega)
        have q3 : Fq sRc h1 (uI h1 16 2 (nI ((qi (F s)) + 1))) := Fq.rfl'.uI' _ _ _ rfl
        have iv3 := iv_nx iv1 (by omega); have hz3 := qe_nx (F s); have hi3 := qi_nx (F s)
        generalize hg3 : uI h1 16 2 (nI ((qi (F s)) + 1)) = h3 at cp3 q3 ⊢
        have hb3 := cp_b cp3
        have gg4 := gF _ _ iv3; have iv4 := gg4.1
        refine hF _ _ _ cp3 (iv3.le (Nat.zero_le _)) (by omega) ((((Fq.tr q1 q3)).1 23 0 rfl).1.trans hW) (fun h4 q4 cp4 hz4 => ?_) (fun h5 q5 cp5 hz5 => ?_)
        · skip
          have hb4 := cp_b cp4
          show Go (d + 7) true 69 54 [.ref 16, .int (nI dp), .int (nI (ckd (kd b n (qi (F s)))))] [.int 1] h4 Q
          refine exf_go 1 (show (¬ (1 : Int32) = 0 → Go (d + 7) true 69 59 [.ref 16, .int (nI dp), .int (nI (ckd (kd b n (qi (F s)))))] [] h4 Q) ∧ (¬ (¬ (1 : Int32) = 0) → Go (d + 7) true 69 57 [.ref 16, .int (nI dp), .int (nI (ckd (kd b n (qi (F s)))))] [] h4 Q) from ⟨fun c3 => ?_, fun c3 => ?_⟩)
          · skip
            refine exf_go 5 (show rN h4 16 6 = true ∧ ((¬ (nI (ckd (kd b n (qi (F s))))) = 61 → Go (d + 7) true 69 74 [.ref 16, .int (nI dp), .int (nI (ckd (kd b n (qi (F s)))))] [.ref 17] h4 Q) ∧ (¬ (¬ (nI (ckd (kd b n (qi (F s))))) = 61) → Go (d + 7) true 69 69 [.ref 16, .int (nI dp), .int (nI (ckd (kd b n (qi (F s)))))] [.ref 17] h4 Q)) from ⟨(cp4.2.1.2.2), fun c4 => ?_, fun c4 => ?_⟩)
            · skip
              have c4 : ¬ (ckd (kd b n (qi (F s)))) = 61 := fun q => c4 ((nI_eq (a := (ckd (kd b n (qi (F s))))) (b := 61) (by omega) (by omega)).mpr q)
              have c4 : ¬ kd b n (qi (F s)) = 34 := fun z => absurd (show ckd (kd b n (qi (F s))) = 61 from by rw [z]; rfl) (by omega)
              exfalso; omega
            · skip
              have c4 : (ckd (kd b n (qi (F s)))) = 61 := (nI_eq (a := (ckd (kd b n (qi (F s))))) (b := 61) (by omega) (by omega)).mp (Classical.not_not.mp c4)
              have c4 : kd b n (qi (F s)) = 34 := (ckd_inj _ (by omega) 34 (by decide)).mp (show _ = 61 from by omega)
              refine exf_go 4 (show wpC (d + 7) true 3 [.ref 17, .int 10, .int 0] h4 (fun _ h' => Go (d + 7) true 69 91 [.ref 16, .int (nI dp), .int (nI (ckd (kd b n (qi (F s)))))] [] h' Q) from ?_)
              have hq6 := iv4.2 (by omega)
              refine c_emit (c := 3003) cp4 (by omega) (by omega) (by decide) (by decide) (fun h6 q6 cp6 => ?_)
              have hb6 := cp_b cp6
              have hz6 := qe_em 3003 (F (nx (F s))); have hi6 := qi_em 3003 (F (nx (F s)))
              show Go (d + 7) true 69 91 [.ref 16, .int (nI dp), .int (nI (ckd (kd b n (qi (F s)))))] [] h6 Q
              refine exf_go 2 (show ((1 : Int32) = 0 ∨ (1 : Int32) = 1) ∧ Q (.int 1) h6 from ⟨(by first | exact Or.inl rfl | exact Or.inr rfl | assumption), ?_⟩)
              have e8 : cmpN b n (F s) = nx (F s) := by unfold cmpN; rw [if_pos (cmpK_y (by omega) (by omega))]
              have e7 : cmpC b n (F s) = 3003 := by unfold cmpC; rw [if_pos (by omega)]
              have e9 : cmpF b n F s = (em 3003 (F (nx (F s)))) := by unfold cmpF; rw [e8, e7]
              rw [e9] at k1; exact k1 _ (Fq.tr (Fq.tr (Fq.tr q1 q3) q4) q6) cp6 (by omega)
          · skip
            exact absurd (by decide) c3
        · skip
          show Go (d + 7) true 69 54 [.ref 16, .int (nI dp), .int (nI (ckd (kd b n (qi (F s)))))] [.int 0] h5 Q
          refine exf_go 1 (show (¬ (0 : Int32) = 0 → Go (d + 7) true 69 59 [.ref 16, .int (nI dp), .int (nI (ckd (kd b n (qi (F s)))))] [] h5 Q) ∧ (¬ (¬ (0 : Int32) = 0) → Go (d + 7) true 69 57 [.ref 16, .int (nI dp), .int (nI (ckd (kd b n (qi (F s)))))] [] h5 Q) from ⟨fun c5 => ?_, fun c5 => ?_⟩)
          · skip
            exact absurd c5 (by decide)
          · skip
            refine exf_go 2 (show ((0 : Int32) = 0 ∨ (0 : Int32) = 1) ∧ Q (.int 0) h5 from ⟨(by first | exact Or.inl rfl | exact Or.inr rfl | assumption), ?_⟩)
            have e8 : cmpN b n (F s) = nx (F s) := by unfold cmpN; rw [if_pos (cmpK_y (by omega) (by omega))]
            have e9 : cmpF b n F s = F (nx (F s)) := by unfold cmpF; rw [e8, em_id hz5]
            rw [e9] at k0; exact k0 _ (Fq.tr (Fq.tr q1 q3) q5) cp5 hz5
      · skip
        have c2 : ¬ (ckd (kd b n (qi (F s)))) = 61 := fun q => c2 ((nI_eq (a := (ckd (kd b n (qi (F s))))) (b := 61) (by omega) (by omega)).mpr q)
        have c2 : ¬ kd b n (qi (F s)) = 34 := fun z => absurd (show ckd (kd b n (qi (F s))) = 61 from by rw [z]; rfl) (by omega)
        refine exf_go 3 (show ((nI (ckd (kd b n (qi (F s))))) = 60 → Go (d + 7) true 69 39 [.ref 16, .int (nI dp), .int (nI (ckd (kd b n (qi (F s)))))] [] h1 Q) ∧ (¬ ((nI (ckd (kd b n (qi (F s))))) = 60) → Go (d + 7) true 69 27 [.ref 16, .int (nI dp), .int (nI (ckd (kd b n (qi (F s)))))] [] h1 Q) from ⟨fun c6 => ?_, fun c6 => ?_⟩)
        · skip
          have c6 : (ckd (kd b n (qi (F s)))) = 60 := (nI_eq (a := (ckd (kd b n (qi (F s))))) (b := 60) (by omega) (by omega)).mp c6
          have c6 : kd b n (qi (F s)) = 35 := (ckd_inj _ (by omega) 35 (by decide)).mp (show _ = 60 from by omega)
          refine exf_go 3 (show Go (d + 7) true 69 44 [.ref 16, .int (nI dp), .int (nI (ckd (kd b n (qi (F s)))))] [.int (rI h1 16 2), .ref 16] h1 Q from ?_)
          rw [show (rI h1 16 2 : Int32) = nI (qi (F s)) from cp1.2.2.1.2.1]
          refine exf_go 2 (show Go (d + 7) true 69 46 [.ref 16, .int (nI dp), .int (nI (ckd (kd b n (qi (F s)))))] [.int ((nI (qi (F s))) + 1), .ref 16] h1 Q from ?_)
          rw [show ((nI (qi (F s))) + 1 : Int32) = nI ((qi (F s)) + 1) from nI_add (qi (F s)) 1]
          refine exf_go 4 (show wpC (d + 7) true 70 [.ref 16, .int (nI dp)] (uI h1 16 2 (nI ((qi (F s)) + 1))) (fun r h' => Go (d + 7) true 69 54 [.ref 16, .int (nI dp), .int (nI (ckd (kd b n (qi (F s)))))] [r] h' Q) from ?_)
          have cp7 := cp_nx cp1 (by omega) (by omega)
          have q7 : Fq sRc h1 (uI h1 16 2 (nI ((qi (F s)) + 1))) := Fq.rfl'.uI' _ _ _ rfl
          have iv7 := iv_nx iv1 (by omega); have hz7 := qe_nx (F s); have hi7 := qi_nx (F s)
          generalize hg7 : uI h1 16 2 (nI ((qi (F s)) + 1)) = h7 at cp7 q7 ⊢
          have hb7 := cp_b cp7
          have gg8 := gF _ _ iv7; have iv8 := gg8.1
          refine hF _ _ _ cp7 (iv7.le (Nat.zero_le _)) (by omega) ((((Fq.tr q1 q7)).1 23 0 rfl).1.trans hW) (fun h8 q8 cp8 hz8 => ?_) (fun h9 q9 cp9 hz9 => ?_)
          · skip
            have hb8 := cp_b cp8
            show Go (d + 7) true 69 54 [.ref 16, .int (nI dp), .int (nI (ckd (kd b n (qi (F s)))))] [.int 1] h8 Q
            refine exf_go 1 (show (¬ (1 : Int32) = 0 → Go (d + 7) true 69 59 [.ref 16, .int (nI dp), .int (nI (ckd (kd b n (qi (F s)))))] [] h8 Q) ∧ (¬ (¬ (1 : Int32) = 0) → Go (d + 7) true 69 57 [.ref 16, .int (nI dp), .int (nI (ckd (kd b n (qi (F s)))))] [] h8 Q) from ⟨fun c7 => ?_, fun c7 => ?_⟩)
            · skip
              refine exf_go 5 (show rN h8 16 6 = true ∧ ((¬ (nI (ckd (kd b n (qi (F s))))) = 61 → Go (d + 7) true 69 74 [.ref 16, .int (nI dp), .int (nI (ckd (kd b n (qi (F s)))))] [.ref 17] h8 Q) ∧ (¬ (¬ (nI (ckd (kd b n (qi (F s))))) = 61) → Go (d + 7) true 69 69 [.ref 16, .int (nI dp), .int (nI (ckd (kd b n (qi (F s)))))] [.ref 17] h8 Q)) from ⟨(cp8.2.1.2.2), fun c8 => ?_, fun c8 => ?_⟩)
              · skip
                have c8 : ¬ (ckd (kd b n (qi (F s)))) = 61 := fun q => c8 ((nI_eq (a := (ckd (kd b n (qi (F s))))) (b := 61) (by omega) (by omega)).mpr q)
                have c8 : ¬ kd b n (qi (F s)) = 34 := fun z => absurd (show ckd (kd b n (qi (F s))) = 61 from by rw [z]; rfl) (by omega)
                refine exf_go 3 (show (¬ (nI (ckd (kd b n (qi (F s))))) = 60 → Go (d + 7) true 69 85 [.ref 16, .int (nI dp), .int (nI (ckd (kd b n (qi (F s)))))] [.ref 17] h8 Q) ∧ (¬ (¬ (nI (ckd (kd b n (qi (F s))))) = 60) → Go (d + 7) true 69 80 [.ref 16, .int (nI dp), .int (nI (ckd (kd b n (qi (F s)))))] [.ref 17] h8 Q) from ⟨fun c9 => ?_, fun c9 => ?_⟩)
                · skip
                  have c9 : ¬ (ckd (kd b n (qi (F s)))) = 60 := fun q => c9 ((nI_eq (a := (ckd (kd b n (qi (F s))))) (b := 60) (by omega) (by omega)).mpr q)
                  have c9 : ¬ kd b n (qi (F s)) = 35 := fun z => absurd (show ckd (kd b n (qi (F s))) = 60 from by rw [z]; rfl) (by omega)
                  exfalso; omega
                · skip
                  have c9 : (ckd (kd b n (qi (F s)))) = 60 := (nI_eq (a := (ckd (kd b n (qi (F s))))) (b := 60) (by omega) (by omega)).mp (Classical.not_not.mp c9)
                  have c9 : kd b n (qi (F s)) = 35 := (ckd_inj _ (by omega) 35 (by decide)).mp (show _ = 60 from by omega)
                  refine exf_go 4 (show wpC (d + 7) true 3 [.ref 17, .int 11, .int 0] h8 (fun _ h' => Go (d + 7) true 69 91 [.ref 16, .int (nI dp), .int (nI (ckd (kd b n (qi (F s)))))] [] h' Q) from ?_)
                  have hq10 := iv8.2 (by omega)
                  refine c_emit (c := 3004) cp8 (by omega) (by omega) (by decide) (by decide) (fun h10 q10 cp10 => ?_)
                  have hb10 := cp_b cp10
                  have hz10 := qe_em 3004 (F (nx (F s))); have hi10 := qi_em 3004 (F (nx (F s)))
                  show Go (d + 7) true 69 91 [.ref 16, .int (nI dp), .int (nI (ckd (kd b n (qi (F s)))))] [] h10 Q
                  refine exf_go 2 (show ((1 : Int32) = 0 ∨ (1 : Int32) = 1) ∧ Q (.int 1) h10 from ⟨(by first | exact Or.inl rfl | exact Or.inr rfl | assumption), ?_⟩)
                  have e8 : cmpN b n (F s) = nx (F s) := by unfold cmpN; rw [if_pos (cmpK_y (by omega) (by omega))]
                  have e7 : cmpC b n (F s) = 3004 := by unfold cmpC; rw [if_neg (by omega), if_pos (by omega)]
                  have e9 : cmpF b n F s = (em 3004 (F (nx (F s)))) := by unfold cmpF; rw [e8, e7]
                  rw [e9] at k1; exact k1 _ (Fq.tr (Fq.tr (Fq.tr q1 q7) q8) q10) cp10 (by omega)
              · skip
                have c8 : (ckd (kd b n (qi (F s)))) = 61 := (nI_eq (a := (ckd (kd b n (qi (F s))))) (b := 61) (by omega) (by omega)).mp (Classical.not_not.mp c8)
                have c8 : kd b n (qi (F s)) = 34 := (ckd_inj _ (by omega) 34 (by decide)).mp (show _ = 61 from by omega)
                exfalso; omega
            · skip
              exact absurd (by decide) c7
          · skip
            show Go (d + 7) true 69 54 [.ref 16, .int (nI dp), .int (nI (ckd (kd b n (qi (F s)))))] [.int 0] h9 Q
            refine exf_go 1 (show (¬ (0 : Int32) = 0 → Go (d + 7) true 69 59 [.ref 16, .int (nI dp), .int (nI (ckd (kd b n (qi (F s)))))] [] h9 Q) ∧ (¬ (¬ (0 : Int32) = 0) → Go (d + 7) true 69 57 [.ref 16, .int (nI dp), .int (nI (ckd (kd b n (qi (F s)))))] [] h9 Q) from ⟨fun c10 => ?_, fun c10 => ?_⟩)
            · skip
              exact absurd c10 (by decide)
            · skip
              refine exf_go 2 (show ((0 : Int32) = 0 ∨ (0 : Int32) = 1) ∧ Q (.int 0) h9 from ⟨(by first | exact Or.inl rfl | exact Or.inr rfl | assumption), ?_⟩)
              have e8 : cmpN b n (F s) = nx (F s) := by unfold cmpN; rw [if_pos (cmpK_y (by omega) (by omega))]
              have e9 : cmpF b n F s = F (nx (F s)) := by unfold cmpF; rw [e8, em_id hz9]
              rw [e9] at k0; exact k0 _ (Fq.tr (Fq.tr q1 q7) q9) cp9 hz9
        · skip
          have c6 : ¬ (ckd (kd b n (qi (F s)))) = 60 := fun q => c6 ((nI_eq (a := (ckd (kd b n (qi (F s))))) (b := 60) (by omega) (by omega)).mpr q)
          have c6 : ¬ kd b n (qi (F s)) = 35 := fun z => absurd (show ckd (kd b n (qi (F s))) = 60 from by rw [z]; rfl) (by omega)
          refine exf_go 3 (show ((nI (ckd (kd b n (qi (F s))))) = 62 → Go (d + 7) true 69 39 [.ref 16, .int (nI dp), .int (nI (ckd (kd b n (qi (F s)))))] [] h1 Q) ∧ (¬ ((nI (ckd (kd b n (qi (F s))))) = 62) → Go (d + 7) true 69 33 [.ref 16, .int (nI dp), .int (nI (ckd (kd b n (qi (F s)))))] [] h1 Q) from ⟨fun c11 => ?_, fun c11 => ?_⟩)
          · skip
            have c11 : (ckd (kd b n (qi (F s)))) = 62 := (nI_eq (a := (ckd (kd b n (qi (F s))))) (b := 62) (by omega) (by omega)).mp c11
            have c11 : kd b n (qi (F s)) = 36 := (ckd_inj _ (by omega) 36 (by decide)).mp (show _ = 62 from by omega)
            refine exf_go 3 (show Go (d + 7) true 69 44 [.ref 16, .int (nI dp), .int (nI (ckd (kd b n (qi (F s)))))] [.int (rI h1 16 2), .ref 16] h1 Q from ?_)
            rw [show (rI h1 16 2 : Int32) = nI (qi (F s)) from cp1.2.2.1.2.1]
            refine exf_go 2 (show Go (d + 7) true 69 46 [.ref 16, .int (nI dp), .int (nI (ckd (kd b n (qi (F s)))))] [.int ((nI (qi (F s))) + 1), .ref 16] h1 Q from ?_)
            rw [show ((nI (qi (F s))) + 1 : Int32) = nI ((qi (F s)) + 1) from nI_add (qi (F s)) 1]
            refine exf_go 4 (show wpC (d + 7) true 70 [.ref 16, .int (nI dp)] (uI h1 16 2 (nI ((qi (F s)) + 1))) (fun r h' => Go (d + 7) true 69 54 [.ref 16, .int (nI dp), .int (nI (ckd (kd b n (qi (F s)))))] [r] h' Q) from ?_)
            have cp11 := cp_nx cp1 (by omega) (by omega)
            have q11 : Fq sRc h1 (uI h1 16 2 (nI ((qi (F s)) + 1))) := Fq.rfl'.uI' _ _ _ rfl
            have iv11 := iv_nx iv1 (by omega); have hz11 := qe_nx (F s); have hi11 := qi_nx (F s)
            generalize hg11 : uI h1 16 2 (nI ((qi (F s)) + 1)) = h11 at cp11 q11 ⊢
            have hb11 := cp_b cp11
            have gg12 := gF _ _ iv11; have iv12 := gg12.1
            refine hF _ _ _ cp11 (iv11.le (Nat.zero_le _)) (by omega) ((((Fq.tr q1 q11)).1 23 0 rfl).1.trans hW) (fun h12 q12 cp12 hz12 => ?_) (fun h13 q13 cp13 hz13 => ?_)
            · skip
              have hb12 := cp_b cp12
              show Go (d + 7) true 69 54 [.ref 16, .int (nI dp), .int (nI (ckd (kd b n (qi (F s)))))] [.int 1] h12 Q
              refine exf_go 1 (show (¬ (1 : Int32) = 0 → Go (d + 7) true 69 59 [.ref 16, .int (nI dp), .int (nI (ckd (kd b n (qi (F s)))))] [] h12 Q) ∧ (¬ (¬ (1 : Int32) = 0) → Go (d + 7) true 69 57 [.ref 16, .int (nI dp), .int (nI (ckd (kd b n (qi (F s)))))] [] h12 Q) from ⟨fun c12 => ?_, fun c12 => ?_⟩)
              · skip
                refine exf_go 5 (show rN h12 16 6 = true ∧ ((¬ (nI (ckd (kd b n (qi (F s))))) = 61 → Go (d + 7) true 69 74 [.ref 16, .int (nI dp), .int (nI (ckd (kd b n (qi (F s)))))] [.ref 17] h12 Q) ∧ (¬ (¬ (nI (ckd (kd b n (qi (F s))))) = 61) → Go (d + 7) true 69 69 [.ref 16, .int (nI dp), .int (nI (ckd (kd b n (qi (F s)))))] [.ref 17] h12 Q)) from ⟨(cp12.2.1.2.2), fun c13 => ?_, fun c13 => ?_⟩)
                · skip
                  have c13 : ¬ (ckd (kd b n (qi (F s)))) = 61 := fun q => c13 ((nI_eq (a := (ckd (kd b n (qi (F s))))) (b := 61) (by omega) (by omega)).mpr q)
                  have c13 : ¬ kd b n (qi (F s)) = 34 := fun z => absurd (show ckd (kd b n (qi (F s))) = 61 from by rw [z]; rfl) (by omega)
                  refine exf_go 3 (show (¬ (nI (ckd (kd b n (qi (F s))))) = 60 → Go (d + 7) true 69 85 [.ref 16, .int (nI dp), .int (nI (ckd (kd b n (qi (F s)))))] [.ref 17] h12 Q) ∧ (¬ (¬ (nI (ckd (kd b n (qi (F s))))) = 60) → Go (d + 7) true 69 80 [.ref 16, .int (nI dp), .int (nI (ckd (kd b n (qi (F s)))))] [.ref 17] h12 Q) from ⟨fun c14 => ?_, fun c14 => ?_⟩)
                  · skip
                    have c14 : ¬ (ckd (kd b n (qi (F s)))) = 60 := fun q => c14 ((nI_eq (a := (ckd (kd b n (qi (F s))))) (b := 60) (by omega) (by omega)).mpr q)
                    have c14 : ¬ kd b n (qi (F s)) = 35 := fun z => absurd (show ckd (kd b n (qi (F s))) = 60 from by rw [z]; rfl) (by omega)
                    refine exf_go 3 (show wpC (d + 7) true 3 [.ref 17, .int 12, .int 0] h12 (fun _ h' => Go (d + 7) true 69 91 [.ref 16, .int (nI dp), .int (nI (ckd (kd b n (qi (F s)))))] [] h' Q) from ?_)
                    have hq14 := iv12.2 (by omega)
                    refine c_emit (c := 3005) cp12 (by omega) (by omega) (by decide) (by decide) (fun h14 q14 cp14 => ?_)
                    have hb14 := cp_b cp14
                    have hz14 := qe_em 3005 (F (nx (F s))); have hi14 := qi_em 3005 (F (nx (F s)))
                    show Go (d + 7) true 69 91 [.ref 16, .int (nI dp), .int (nI (ckd (kd b n (qi (F s)))))] [] h14 Q
                    refine exf_go 2 (show ((1 : Int32) = 0 ∨ (1 : Int32) = 1) ∧ Q (.int 1) h14 from ⟨(by first | exact Or.inl rfl | exact Or.inr rfl | assumption), ?_⟩)
                    have e8 : cmpN b n (F s) = nx (F s) := by unfold cmpN; rw [if_pos (cmpK_y (by omega) (by omega))]
                    have e7 : cmpC b n (F s) = 3005 := by unfold cmpC; rw [if_neg (by omega), if_neg (by omega)]
                    have e9 : cmpF b n F s = (em 3005 (F (nx (F s)))) := by unfold cmpF; rw [e8, e7]
                    rw [e9] at k1; exact k1 _ (Fq.tr (Fq.tr (Fq.tr q1 q11) q12) q14) cp14 (by omega)
                  · skip
                    have c14 : (ckd (kd b n (qi (F s)))) = 60 := (nI_eq (a := (ckd (kd b n (qi (F s))))) (b := 60) (by omega) (by omega)).mp (Classical.not_not.mp c14)
                    have c14 : kd b n (qi (F s)) = 35 := (ckd_inj _ (by omega) 35 (by decide)).mp (show _ = 60 from by omega)
                    exfalso; omega
                · skip
                  have c13 : (ckd (kd b n (qi (F s)))) = 61 := (nI_eq (a := (ckd (kd b n (qi (F s))))) (b := 61) (by omega) (by omega)).mp (Classical.not_not.mp c13)
                  have c13 : kd b n (qi (F s)) = 34 := (ckd_inj _ (by omega) 34 (by decide)).mp (show _ = 61 from by omega)
                  exfalso; omega
              · skip
                exact absurd (by decide) c12
            · skip
              show Go (d + 7) true 69 54 [.ref 16, .int (nI dp), .int (nI (ckd (kd b n (qi (F s)))))] [.int 0] h13 Q
              refine exf_go 1 (show (¬ (0 : Int32) = 0 → Go (d + 7) true 69 59 [.ref 16, .int (nI dp), .int (nI (ckd (kd b n (qi (F s)))))] [] h13 Q) ∧ (¬ (¬ (0 : Int32) = 0) → Go (d + 7) true 69 57 [.ref 16, .int (nI dp), .int (nI (ckd (kd b n (qi (F s)))))] [] h13 Q) from ⟨fun c15 => ?_, fun c15 => ?_⟩)
              · skip
                exact absurd c15 (by decide)
              · skip
                refine exf_go 2 (show ((0 : Int32) = 0 ∨ (0 : Int32) = 1) ∧ Q (.int 0) h13 from ⟨(by first | exact Or.inl rfl | exact Or.inr rfl | assumption), ?_⟩)
                have e8 : cmpN b n (F s) = nx (F s) := by unfold cmpN; rw [if_pos (cmpK_y (by omega) (by omega))]
                have e9 : cmpF b n F s = F (nx (F s)) := by unfold cmpF; rw [e8, em_id hz13]
                rw [e9] at k0; exact k0 _ (Fq.tr (Fq.tr q1 q11) q13) cp13 hz13
          · skip
            have c11 : ¬ (ckd (kd b n (qi (F s)))) = 62 := fun q => c11 ((nI_eq (a := (ckd (kd b n (qi (F s))))) (b := 62) (by omega) (by omega)).mpr q)
            have c11 : ¬ kd b n (qi (F s)) = 36 := fun z => absurd (show ckd (kd b n (qi (F s))) = 62 from by rw [z]; rfl) (by omega)
            refine exf_go 3 (show wpC (d + 7) true 56 [.ref 16, .int 2] h1 (fun r h' => Go (d + 7) true 69 38 [.ref 16, .int (nI dp), .int (nI (ckd (kd b n (qi (F s)))))] [r] h' Q) from ?_)
            refine c_refuse (w := 2) cp1 (by omega) (by omega) (by omega) (fun h15 q15 cp15 => ?_)
            have hb15 := cp_b cp15
            have hz15 : ¬ qe (fl b n 2 (F s)) = 0 := fl_ne (by omega)
            show Go (d + 7) true 69 38 [.ref 16, .int (nI dp), .int (nI (ckd (kd b n (qi (F s)))))] [.int 0] h15 Q
            refine exf_go 1 (show ((0 : Int32) = 0 ∨ (0 : Int32) = 1) ∧ Q (.int 0) h15 from ⟨(by first | exact Or.inl rfl | exact Or.inr rfl | assumption), ?_⟩)
            have e9 : cmpF b n F s = fl b n 2 (F s) := by unfold cmpF cmpN; rw [if_neg (by rw [cmpK_n (Or.inr ⟨by omega, by omega, by omega⟩)]; decide), (gF _ _ (iv_fl2 (d := 0) gg1.1 (w := 2) (by decide))).2.2 hz15, em_id hz15]
            rw [e9] at k0; exact k0 _ (Fq.tr q1 q15) cp15 hz15
    · skip
      exact absurd (by decide) c1
  · skip
    show Go (d + 7) true 69 5 [.ref 16, .int (nI dp), mk_] [.int 0] h2 Q
    refine exf_go 1 (show (¬ (0 : Int32) = 0 → Go (d + 7) true 69 10 [.ref 16, .int (nI dp), mk_] [] h2 Q) ∧ (¬ (¬ (0 : Int32) = 0) → Go (d + 7) true 69 8 [.ref 16, .int (nI dp), mk_] [] h2 Q) from ⟨fun c16 => ?_, fun c16 => ?_⟩)
    · skip
      exact absurd c16 (by decide)
    · skip
      refine exf_go 2 (show ((0 : Int32) = 0 ∨ (0 : Int32) = 1) ∧ Q (.int 0) h2 from ⟨(by first | exact Or.inl rfl | exact Or.inr rfl | assumption), ?_⟩)
      have e9 : cmpF b n F s = F s := by unfold cmpF cmpN; rw [if_neg (by rw [cmpK_n (Or.inl hz2)]; decide), fl_id hz2, (gF _ _ gg1.1).2.2 hz2, em_id hz2]
      rw [e9] at k0; exact k0 _ q2 cp2 hz2
theorem c_cmp {d : Nat} {b : Nat → Nat} {n N W dp : Nat} {F : PsG → PsG} (gF : Gd b n F) (hF : CC b n N W (d + 7) 70 dp F) : CC b n N W (d + 8) 69 dp (cmpF b n F) := fun _ _ _ cp iv he hW k1 k0 => c_cmp0 gF hF cp iv he hW k1 k0
theorem c_unit0 {d : Nat} {h : Hp} {b : Nat → Nat} {n N : Nat} {s : PsG} {Q : Po} {W m : Nat} {un tr : PsG → PsG} (hm : m ≤ 6) (gu : Gd b n un) (gt : Gd b n tr) (hS : CC b n N W (d + 11) 69 (6 - m) (cmpF b n (smL b n W m))) (ihu : ∀ q, m = q + 1 → CC b n N W (d + 11) 68 (6 - q) un) (iht : ∀ q, m = q + 1 → CC b n N W (d + 11) 66 (6 - q) tr) (cp : CP b n N s h) (iv : IV b n 0 s) (he : qe s = 0) (hW : rI h 23 0 = nI W) (k1 : ∀ h1, Fq sRc h h1 → CP b n N (unitF b n W m un tr s) h1 → qe (unitF b n W m un tr s) = 0 → Q (.int 1) h1) (k0 : ∀ h1, Fq sRc h h1 → CP b n N (unitF b n W m un tr s) h1 → ¬ qe (unitF b n W m un tr s) = 0 → Q (.int 0) h1) : wpC (d + 12) true 68 [.ref 16, .int (nI (6 - m))] h Q := by
  have hb := cp_b cp
  refine go_in rfl ?_
  refine exf_go 2 (show wpC (d + 11) true 55 [.ref 16] h (fun r h' => Go (d + 11) true 68 4 [.ref 16, .int (nI (6 - m)), mk_] [r] h' Q) from ?_)
  refine c_kind cp ?_
  show Go (d + 11) true 68 4 [.ref 16, .int (nI (6 - m)), mk_] [.int (nI (ckd (kd b n (qi s))))] h Q
  refine exf_go 4 (show ((nI (ckd (kd b n (qi s)))) = 140 → Go (d + 11) true 68 24 [.ref 16, .int (nI (6 - m)), .int (nI (ckd (kd b n (qi s))))] [] h Q) ∧ (¬ ((nI (ckd (kd b n (qi s)))) = 140) → Go (d + 11) true 68 12 [.ref 16, .int (nI (6 - m)), .int (nI (ckd (kd b n (qi s))))] [] h Q) from ⟨fun c1 => ?_, fun c1 => ?_⟩)
  · skip
    have c1 : (ckd (kd b n (qi s))) = 140 := (nI_eq (a := (ckd (kd b n (qi s)))) (b := 140) (by omega) (by omega)).mp c1
    have c1 : kd b n (qi s) = 12 := (ckd_inj _ (by omega) 12 (by decide)).mp (show _ = 140 from by omega)
    refine exf_go 3 (show ((nI (6 - m)) < 6 → Go (d + 11) true 68 36 [.ref 16, .int (nI (6 - m)), .int (nI (ckd (kd b n (qi s))))] [] h Q) ∧ (¬ ((nI (6 - m)) < 6) → Go (d + 11) true 68 30 [.ref 16, .int (nI (6 - m)), .int (nI (ckd (kd b n (qi s))))] [] h Q) from ⟨fun c2 => ?_, fun c2 => ?_⟩)
    · skip
      have c2 : (6 - m) < 6 := (nI_ltI (a := (6 - m)) (b := 6) (by omega) (by omega)).mp c2
      refine exf_go 3 (show Go (d + 11) true 68 41 [.ref 16, .int (nI (6 - m)), .int (nI (ckd (kd b n (qi s))))] [.int (rI h 16 2), .ref 16] h Q from ?_)
      rw [show (rI h 16 2 : Int32) = nI (qi s) from cp.2.2.1.2.1]
      refine exf_go 2 (show Go (d + 11) true 68 43 [.ref 16, .int (nI (6 - m)), .int (nI (ckd (kd b n (qi s))))] [.int ((nI (qi s)) + 1), .ref 16] h Q from ?_)
      rw [show ((nI (qi s)) + 1 : Int32) = nI ((qi s) + 1) from nI_add (qi s) 1]
      refine exf_go 4 (show (¬ (nI (ckd (kd b n (qi s)))) = 91 → Go (d + 11) true 68 77 [.ref 16, .int (nI (6 - m)), .int (nI (ckd (kd b n (qi s))))] [] (uI h 16 2 (nI ((qi s) + 1))) Q) ∧ (¬ (¬ (nI (ckd (kd b n (qi s)))) = 91) → Go (d + 11) true 68 52 [.ref 16, .int (nI (6 - m)), .int (nI (ckd (kd b n (qi s))))] [] (uI h 16 2 (nI ((qi s) + 1))) Q) from ⟨fun c3 => ?_, fun c3 => ?_⟩)
      · skip
        have c3 : ¬ (ckd (kd b n (qi s))) = 91 := fun q => c3 ((nI_eq (a := (ckd (kd b n (qi s)))) (b := 91) (by omega) (by omega)).mpr q)
        have c3 : ¬ kd b n (qi s) = 32 := fun z => absurd (show ckd (kd b n (qi s)) = 91 from by rw [z]; rfl) (by omega)
        refine exf_go 4 (show Go (d + 11) true 68 81 [.ref 16, .int (nI (6 - m)), .int (nI (ckd (kd b n (qi s))))] [.int ((nI (6 - m)) + 1), .ref 16] (uI h 16 2 (nI ((qi s) + 1))) Q from ?_)
        rw [show ((nI (6 - m)) + 1 : Int32) = nI ((6 - m) + 1) from nI_add (6 - m) 1]
        refine exf_go 1 (show wpC (d + 11) true 68 [.ref 16, .int (nI ((6 - m) + 1))] (uI h 16 2 (nI ((qi s) + 1))) (fun r h' => Go (d + 11) true 68 84 [.ref 16, .int (nI (6 - m)), .int (nI (ckd (kd b n (qi s))))] [r] h' Q) from ?_)
        have cp1 := cp_nx cp (by omega) (by omega)
        have q1 : Fq sRc h (uI h 16 2 (nI ((qi s) + 1))) := Fq.rfl'.uI' _ _ _ rfl
        have iv1 := iv_nx iv (by omega); have hz1 := qe_nx s; have hi1 := qi_nx s
        generalize hg1 : uI h 16 2 (nI ((qi s) + 1)) = h1 at cp1 q1 ⊢
        have hb1 := cp_b cp1
        rw [show 6 - m + 1 = 6 - (m - 1) from by omega]
        have gg2 := gu _ _ iv1; have iv2 := gg2.1
        refine ihu (m - 1) (by omega) _ _ _ cp1 (iv1.le (Nat.zero_le _)) (by omega) (((q1).1 23 0 rfl).1.trans hW) (fun h2 q2 cp2 hz2 => ?_) (fun h3 q3 cp3 hz3 => ?_)
        · skip
          have hb2 := cp_b cp2
          show Go (d + 11) true 68 84 [.ref 16, .int (nI (6 - m)), .int (nI (ckd (kd b n (qi s))))] [.int 1] h2 Q
          refine exf_go 1 (show (¬ (1 : Int32) = 0 → Go (d + 11) true 68 89 [.ref 16, .int (nI (6 - m)), .int (nI (ckd (kd b n (qi s))))] [] h2 Q) ∧ (¬ (¬ (1 : Int32) = 0) → Go (d + 11) true 68 87 [.ref 16, .int (nI (6 - m)), .int (nI (ckd (kd b n (qi s))))] [] h2 Q) from ⟨fun c4 => ?_, fun c4 => ?_⟩)
          · skip
            refine exf_go 5 (show rN h2 16 6 = true ∧ (wpC (d + 11) true 3 [.ref 17, .int 6, .int 0] h2 (fun _ h' => Go (d + 11) true 68 99 [.ref 16, .int (nI (6 - m)), .int (nI (ckd (kd b n (qi s))))] [] h' Q)) from ⟨(cp2.2.1.2.2), ?_⟩)
            have hq4 := iv2.2 (by omega)
            refine c_emit (c := 3008) cp2 (by omega) (by omega) (by decide) (by decide) (fun h4 q4 cp4 => ?_)
            have hb4 := cp_b cp4
            have hz4 := qe_em 3008 (un (nx s)); have hi4 := qi_em 3008 (un (nx s))
            show Go (d + 11) true 68 99 [.ref 16, .int (nI (6 - m)), .int (nI (ckd (kd b n (qi s))))] [] h4 Q
            refine exf_go 2 (show ((1 : Int32) = 0 ∨ (1 : Int32) = 1) ∧ Q (.int 1) h4 from ⟨(by first | exact Or.inl rfl | exact Or.inr rfl | assumption), ?_⟩)
            have ea : unitF b n W m un tr s = (em 3008 (un (nx s))) := by unfold unitF; rw [if_pos (isK_y he (by omega)), if_neg (by omega)]
            rw [ea] at k1; exact k1 _ (Fq.tr (Fq.tr q1 q2) q4) cp4 (by omega)
          · skip
            exact absurd (by decide) c4
        · skip
          show Go (d + 11) true 68 84 [.ref 16, .int (nI (6 - m)), .int (nI (ckd (kd b n (qi s))))] [.int 0] h3 Q
          refine exf_go 1 (show (¬ (0 : Int32) = 0 → Go (d + 11) true 68 89 [.ref 16, .int (nI (6 - m)), .int (nI (ckd (kd b n (qi s))))] [] h3 Q) ∧ (¬ (¬ (0 : Int32) = 0) → Go (d + 11) true 68 87 [.ref 16, .int (nI (6 - m)), .int (nI (ckd (kd b n (qi s))))] [] h3 Q) from ⟨fun c5 => ?_, fun c5 => ?_⟩)
          · skip
            exact absurd c5 (by decide)
          · skip
            refine exf_go 2 (show ((0 : Int32) = 0 ∨ (0 : Int32) = 1) ∧ Q (.int 0) h3 from ⟨(by first | exact Or.inl rfl | exact Or.inr rfl | assumption), ?_⟩)
            have ea : unitF b n W m un tr s = (un (nx s)) := by unfold unitF; rw [if_pos (isK_y he (by omega)), if_neg (by omega)]; exact em_id hz3
            rw [ea] at k0; exact k0 _ (Fq.tr q1 q3) cp3 (by omega)
      · skip
        have c3 : (ckd (kd b n (qi s))) = 91 := (nI_eq (a := (ckd (kd b n (qi s)))) (b := 91) (by omega) (by omega)).mp (Classical.not_not.mp c3)
        have c3 : kd b n (qi s) = 32 := (ckd_inj _ (by omega) 32 (by decide)).mp (show _ = 91 from by omega)
        exfalso; omega
    · skip
      have c2 : ¬ (6 - m) < 6 := fun q => c2 ((nI_ltI (a := (6 - m)) (b := 6) (by omega) (by omega)).mpr q)
      refine exf_go 3 (show wpC (d + 11) true 56 [.ref 16, .int 4] h (fun r h' => Go (d + 11) true 68 35 [.ref 16, .int (nI (6 - m)), .int (nI (ckd (kd b n (qi s))))] [r] h' Q) from ?_)
      refine c_refuse (w := 4) cp (by omega) (by omega) (by omega) (fun h5 q5 cp5 => ?_)
      have hb5 := cp_b cp5
      have hz5 : ¬ qe (fl b n 4 s) = 0 := fl_ne (by omega)
      show Go (d + 11) true 68 35 [.ref 16, .int (nI (6 - m)), .int (nI (ckd (kd b n (qi s))))] [.int 0] h5 Q
      refine exf_go 1 (show ((0 : Int32) = 0 ∨ (0 : Int32) = 1) ∧ Q (.int 0) h5 from ⟨(by first | exact Or.inl rfl | exact Or.inr rfl | assumption), ?_⟩)
      have ea : unitF b n W m un tr s = (fl b n 4 s) := by unfold unitF; rw [if_pos (isK_y he (by omega)), if_pos (by omega)]
      rw [ea] at k0; exact k0 _ q5 cp5 (by omega)
  · skip
    have c1 : ¬ (ckd (kd b n (qi s))) = 140 := fun q => c1 ((nI_eq (a := (ckd (kd b n (qi s)))) (b := 140) (by omega) (by omega)).mpr q)
    have c1 : ¬ kd b n (qi s) = 12 := fun z => absurd (show ckd (kd b n (qi s)) = 140 from by rw [z]; rfl) (by omega)
    refine exf_go 3 (show ((nI (ckd (kd b n (qi s)))) = 91 → Go (d + 11) true 68 24 [.ref 16, .int (nI (6 - m)), .int (nI (ckd (kd b n (qi s))))] [] h Q) ∧ (¬ ((nI (ckd (kd b n (qi s)))) = 91) → Go (d + 11) true 68 18 [.ref 16, .int (nI (6 - m)), .int (nI (ckd (kd b n (qi s))))] [] h Q) from ⟨fun c6 => ?_, fun c6 => ?_⟩)
    · skip
      have c6 : (ckd (kd b n (qi s))) = 91 := (nI_eq (a := (ckd (kd b n (qi s)))) (b := 91) (by omega) (by omega)).mp c6
      have c6 : kd b n (qi s) = 32 := (ckd_inj _ (by omega) 32 (by decide)).mp (show _ = 91 from by omega)
      refine exf_go 3 (show ((nI (6 - m)) < 6 → Go (d + 11) true 68 36 [.ref 16, .int (nI (6 - m)), .int (nI (ckd (kd b n (qi s))))] [] h Q) ∧ (¬ ((nI (6 - m)) < 6) → Go (d + 11) true 68 30 [.ref 16, .int (nI (6 - m)), .int (nI (ckd (kd b n (qi s))))] [] h Q) from ⟨fun c7 => ?_, fun c7 => ?_⟩)
      · skip
        have c7 : (6 - m) < 6 := (nI_ltI (a := (6 - m)) (b := 6) (by omega) (by omega)).mp c7
        refine exf_go 3 (show Go (d + 11) true 68 41 [.ref 16, .int (nI (6 - m)), .int (nI (ckd (kd b n (qi s))))] [.int (rI h 16 2), .ref 16] h Q from ?_)
        rw [show (rI h 16 2 : Int32) = nI (qi s) from cp.2.2.1.2.1]
        refine exf_go 2 (show Go (d + 11) true 68 43 [.ref 16, .int (nI (6 - m)), .int (nI (ckd (kd b n (qi s))))] [.int ((nI (qi s)) + 1), .ref 16] h Q from ?_)
        rw [show ((nI (qi s)) + 1 : Int32) = nI ((qi s) + 1) from nI_add (qi s) 1]
        refine exf_go 4 (show (¬ (nI (ckd (kd b n (qi s)))) = 91 → Go (d + 11) true 68 77 [.ref 16, .int (nI (6 - m)), .int (nI (ckd (kd b n (qi s))))] [] (uI h 16 2 (nI ((qi s) + 1))) Q) ∧ (¬ (¬ (nI (ckd (kd b n (qi s)))) = 91) → Go (d + 11) true 68 52 [.ref 16, .int (nI (6 - m)), .int (nI (ckd (kd b n (qi s))))] [] (uI h 16 2 (nI ((qi s) + 1))) Q) from ⟨fun c8 => ?_, fun c8 => ?_⟩)
        · skip
          have c8 : ¬ (ckd (kd b n (qi s))) = 91 := fun q => c8 ((nI_eq (a := (ckd (kd b n (qi s)))) (b := 91) (by omega) (by omega)).mpr q)
          have c8 : ¬ kd b n (qi s) = 32 := fun z => absurd (show ckd (kd b n (qi s)) = 91 from by rw [z]; rfl) (by omega)
          exfalso; omega
        · skip
          have c8 : (ckd (kd b n (qi s))) = 91 := (nI_eq (a := (ckd (kd b n (qi s)))) (b := 91) (by omega) (by omega)).mp (Classical.not_not.mp c8)
          have c8 : kd b n (qi s) = 32 := (ckd_inj _ (by omega) 32 (by decide)).mp (show _ = 91 from by omega)
          refine exf_go 4 (show Go (d + 11) true 68 56 [.ref 16, .int (nI (6 - m)), .int (nI (ckd (kd b n (qi s))))] [.int ((nI (6 - m)) + 1), .ref 16] (uI h 16 2 (nI ((qi s) + 1))) Q from ?_)
          rw [show ((nI (6 - m)) + 1 : Int32) = nI ((6 - m) + 1) from nI_add (6 - m) 1]
          refine exf_go 1 (show wpC (d + 11) true 66 [.ref 16, .int (nI ((6 - m) + 1))] (uI h 16 2 (nI ((qi s) + 1))) (fun r h' => Go (d + 11) true 68 59 [.ref 16, .int (nI (6 - m)), .int (nI (ckd (kd b n (qi s))))] [r] h' Q) from ?_)
          have cp6 := cp_nx cp (by omega) (by omega)
          have q6 : Fq sRc h (uI h 16 2 (nI ((qi s) + 1))) := Fq.rfl'.uI' _ _ _ rfl
          have iv6 := iv_nx iv (by omega); have hz6 := qe_nx s; have hi6 := qi_nx s
          generalize hg6 : uI h 16 2 (nI ((qi s) + 1)) = h6 at cp6 q6 ⊢
          have hb6 := cp_b cp6
          rw [show 6 - m + 1 = 6 - (m - 1) from by omega]
          have gg7 := gt _ _ iv6; have iv7 := gg7.1
          refine iht (m - 1) (by omega) _ _ _ cp6 (iv6.le (Nat.zero_le _)) (by omega) (((q6).1 23 0 rfl).1.trans hW) (fun h7 q7 cp7 hz7 => ?_) (fun h8 q8 cp8 hz8 => ?_)
          · skip
            have hb7 := cp_b cp7
            show Go (d + 11) true 68 59 [.ref 16, .int (nI (6 - m)), .int (nI (ckd (kd b n (qi s))))] [.int 1] h7 Q
            refine exf_go 1 (show ((1 : Int32) = 0 → Go (d + 11) true 68 75 [.ref 16, .int (nI (6 - m)), .int (nI (ckd (kd b n (qi s))))] [] h7 Q) ∧ (¬ ((1 : Int32) = 0) → Go (d + 11) true 68 62 [.ref 16, .int (nI (6 - m)), .int (nI (ckd (kd b n (qi s))))] [] h7 Q) from ⟨fun c9 => ?_, fun c9 => ?_⟩)
            · skip
              exact absurd c9 (by decide)
            · skip
              refine exf_go 3 (show wpC (d + 11) true 57 [.ref 16, .int 93] h7 (fun r h' => Go (d + 11) true 68 68 [.ref 16, .int (nI (6 - m)), .int (nI (ckd (kd b n (qi s))))] [r] h' Q) from ?_)
              rw [ck33]
              refine c_take (kk := 33) cp7 (by omega) (by decide) (by decide) (by decide) (fun K68 h9 q9 cp9 => ?_) (fun K68 h10 q10 cp10 => ?_)
              · skip
                have K68e := isK_e K68
                have hb9 := cp_b cp9
                have hz9 := qe_nx (tr (nx s)); have hi9 := qi_nx (tr (nx s))
                have iv9 := iv_nx iv7 (by omega)
                show Go (d + 11) true 68 68 [.ref 16, .int (nI (6 - m)), .int (nI (ckd (kd b n (qi s))))] [.int 1] h9 Q
                refine exf_go 1 (show ((1 : Int32) = 0 → Go (d + 11) true 68 75 [.ref 16, .int (nI (6 - m)), .int (nI (ckd (kd b n (qi s))))] [] h9 Q) ∧ (¬ ((1 : Int32) = 0) → Go (d + 11) true 68 71 [.ref 16, .int (nI (6 - m)), .int (nI (ckd (kd b n (qi s))))] [] h9 Q) from ⟨fun c10 => ?_, fun c10 => ?_⟩)
                · skip
                  exact absurd c10 (by decide)
                · skip
                  refine exf_go 3 (show ((1 : Int32) = 0 ∨ (1 : Int32) = 1) ∧ Q (.int 1) h9 from ⟨(by first | exact Or.inl rfl | exact Or.inr rfl | assumption), ?_⟩)
                  have ea : unitF b n W m un tr s = (nx (tr (nx s))) := by unfold unitF; rw [if_neg (by rw [isK_n (by omega)]; decide), if_pos (isK_y he (by omega)), if_neg (by omega)]; unfold eat; rw [if_pos K68]
                  rw [ea] at k1; exact k1 _ (Fq.tr (Fq.tr q6 q7) q9) cp9 (by omega)
              · skip
                have hz10 : ¬ qe (fl b n 2 (tr (nx s))) = 0 := fl_ne (by decide)
                show Go (d + 11) true 68 68 [.ref 16, .int (nI (6 - m)), .int (nI (ckd (kd b n (qi s))))] [.int 0] h10 Q
                refine exf_go 1 (show ((0 : Int32) = 0 → Go (d + 11) true 68 75 [.ref 16, .int (nI (6 - m)), .int (nI (ckd (kd b n (qi s))))] [] h10 Q) ∧ (¬ ((0 : Int32) = 0) → Go (d + 11) true 68 71 [.ref 16, .int (nI (6 - m)), .int (nI (ckd (kd b n (qi s))))] [] h10 Q) from ⟨fun c11 => ?_, fun c11 => ?_⟩)
                · skip
                  refine exf_go 2 (show ((0 : Int32) = 0 ∨ (0 : Int32) = 1) ∧ Q (.int 0) h10 from ⟨(by first | exact Or.inl rfl | exact Or.inr rfl | assumption), ?_⟩)
                  have ea : unitF b n W m un tr s = (fl b n 2 (tr (nx s))) := by unfold unitF; rw [if_neg (by rw [isK_n (by omega)]; decide), if_pos (isK_y he (by omega)), if_neg (by omega)]; unfold eat; rw [if_neg (by rw [K68]; decide)]
                  rw [ea] at k0; exact k0 _ (Fq.tr (Fq.tr q6 q7) q10) cp10 (by omega)
                · skip
                  exact absurd (by decide) c11
          · skip
            show Go (d + 11) true 68 59 [.ref 16, .int (nI (6 - m)), .int (nI (ckd (kd b n (qi s))))] [.int 0] h8 Q
            refine exf_go 1 (show ((0 : Int32) = 0 → Go (d + 11) true 68 75 [.ref 16, .int (nI (6 - m)), .int (nI (ckd (kd b n (qi s))))] [] h8 Q) ∧ (¬ ((0 : Int32) = 0) → Go (d + 11) true 68 62 [.ref 16, .int (nI (6 - m)), .int (nI (ckd (kd b n (qi s))))] [] h8 Q) from ⟨fun c12 => ?_, fun c12 => ?_⟩)
            · skip
              refine exf_go 2 (show ((0 : Int32) = 0 ∨ (0 : Int32) = 1) ∧ Q (.int 0) h8 from ⟨(by first | exact Or.inl rfl | exact Or.inr rfl | assumption), ?_⟩)
              have ea : unitF b n W m un tr s = (tr (nx s)) := by unfold unitF; rw [if_neg (by rw [isK_n (by omega)]; decide), if_pos (isK_y he (by omega)), if_neg (by omega)]; exact eat_id hz8
              rw [ea] at k0; exact k0 _ (Fq.tr q6 q8) cp8 (by omega)
            · skip
              exact absurd (by decide) c12
      · skip
        have c7 : ¬ (6 - m) < 6 := fun q => c7 ((nI_ltI (a := (6 - m)) (b := 6) (by omega) (by omega)).mpr q)
        refine exf_go 3 (show wpC (d + 11) true 56 [.ref 16, .int 4] h (fun r h' => Go (d + 11) true 68 35 [.ref 16, .int (nI (6 - m)), .int (nI (ckd (kd b n (qi s))))] [r] h' Q) from ?_)
        refine c_refuse (w := 4) cp (by omega) (by omega) (by omega) (fun h11 q11 cp11 => ?_)
        have hb11 := cp_b cp11
        have hz11 : ¬ qe (fl b n 4 s) = 0 := fl_ne (by omega)
        show Go (d + 11) true 68 35 [.ref 16, .int (nI (6 - m)), .int (nI (ckd (kd b n (qi s))))] [.int 0] h11 Q
        refine exf_go 1 (show ((0 : Int32) = 0 ∨ (0 : Int32) = 1) ∧ Q (.int 0) h11 from ⟨(by first | exact Or.inl rfl | exact Or.inr rfl | assumption), ?_⟩)
        have ea : unitF b n W m un tr s = (fl b n 4 s) := by unfold unitF; rw [if_neg (by rw [isK_n (by omega)]; decide), if_pos (isK_y he (by omega)), if_pos (by omega)]
        rw [ea] at k0; exact k0 _ q11 cp11 (by omega)
    · skip
      have c6 : ¬ (ckd (kd b n (qi s))) = 91 := fun q => c6 ((nI_eq (a := (ckd (kd b n (qi s)))) (b := 91) (by omega) (by omega)).mpr q)
      have c6 : ¬ kd b n (qi s) = 32 := fun z => absurd (show ckd (kd b n (qi s)) = 91 from by rw [z]; rfl) (by omega)
      refine exf_go 3 (show wpC (d + 11) true 69 [.ref 16, .int (nI (6 - m))] h (fun r h' => Go (d + 11) true 68 23 [.ref 16, .int (nI (6 - m)), .int (nI (ckd (kd b n (qi s))))] [r] h' Q) from ?_)
      have gg12 := (gd_cmp (gd_sum b n W m)) _ _ iv; have iv12 := gg12.1
      refine hS _ _ _ cp (iv.le (Nat.zero_le _)) (by omega) (hW) (fun h12 q12 cp12 hz12 => ?_) (fun h13 q13 cp13 hz13 => ?_)
      · skip
        have hb12 := cp_b cp12
        show Go (d + 11) true 68 23 [.ref 16, .int (nI (6 - m)), .int (nI (ckd (kd b n (qi s))))] [.int 1] h12 Q
        refine exf_go 1 (show ((1 : Int32) = 0 ∨ (1 : Int32) = 1) ∧ Q (.int 1) h12 from ⟨(by first | exact Or.inl rfl | exact Or.inr rfl | assumption), ?_⟩)
        have ea : unitF b n W m un tr s = (cmpF b n (smL b n W m) s) := by unfold unitF; rw [if_neg (by rw [isK_n (by omega)]; decide), if_neg (by rw [isK_n (by omega)]; decide)]
        rw [ea] at k1; exact k1 _ q12 cp12 (by omega)
      · skip
        show Go (d + 11) true 68 23 [.ref 16, .int (nI (6 - m)), .int (nI (ckd (kd b n (qi s))))] [.int 0] h13 Q
        refine exf_go 1 (show ((0 : Int32) = 0 ∨ (0 : Int32) = 1) ∧ Q (.int 0) h13 from ⟨(by first | exact Or.inl rfl | exact Or.inr rfl | assumption), ?_⟩)
        have ea : unitF b n W m un tr s = (cmpF b n (smL b n W m) s) := by unfold unitF; rw [if_neg (by rw [isK_n (by omega)]; decide), if_neg (by rw [isK_n (by omega)]; decide)]
        rw [ea] at k0; exact k0 _ q13 cp13 (by omega)
theorem c_unitS {d : Nat} {b : Nat → Nat} {n N W m : Nat} (hm : m ≤ 6) (hS : CC b n N W (d + 10) 70 (6 - m) (smL b n W m)) (ihu : ∀ q, m = q + 1 → CC b n N W (d + 11) 68 (6 - q) (innU b n W m)) (iht : ∀ q, m = q + 1 → CC b n N W (d + 11) 66 (6 - q) (innT b n W m)) : CC b n N W (d + 12) 68 (6 - m) (unitL b n W m) := by
  rw [unitL_e]
  exact fun _ _ _ cp iv he hW k1 k0 => c_unit0 hm (gd_innU b n W m) (gd_innT b n W m) (c_cmp (d := d + 3) (gd_sum b n W m) hS) ihu iht cp iv he hW k1 k0
theorem c_trOf {d : Nat} {b : Nat → Nat} {n N W dp : Nat} {u : PsG → PsG} (gu : Gd b n u) (hu : CC b n N W (d + 7) 68 dp u) : CC b n N W (d + 9) 66 dp (trOf b n u) := c_truthW (d := d + 1) (gd_bin (by decide) gu) (c_allW gu hu)
theorem c_unitLv {b : Nat → Nat} {n N W : Nat} (hW4 : W ≤ 4) (d : Nat) : ∀ m, m ≤ 6 → CC b n N W (3 * m + d + 12) 68 (6 - m) (unitL b n W m)
  | 0, h => c_unitS h (c_sumLv hW4 d 0 h) (fun q e => absurd e (by omega)) (fun q e => absurd e (by omega))
  | m + 1, h => by
    have ih := c_unitLv (b := b) (n := n) (N := N) hW4 d m (by omega)
    refine c_unitS h (c_sumLv hW4 d (m + 1) h) (fun q e => ?_) (fun q e => ?_)
    · have e : q = m := by omega
      subst e
      exact ih.up (by omega)
    · have e : q = m := by omega
      subst e
      exact (c_trOf (d := 3 * q + d + 5) (gd_unitL b n W q) ih).up (by omega)
theorem c_trL {b : Nat → Nat} {n N W : Nat} (hW4 : W ≤ 4) (d : Nat) : CC b n N W (d + 32) 66 0 (trL b n W 6) := by
  have h := c_unitLv (b := b) (n := n) (N := N) hW4 d 6 (by decide)
  unfold trL
  have g := gd_unitL b n W 6
  generalize unitL b n W 6 = u at h g
  have h2 : CC b n N W (d + 23 + 7) 68 0 u := h.up (by omega)
  exact c_trOf g h2
