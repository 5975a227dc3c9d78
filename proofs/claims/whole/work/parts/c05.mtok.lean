/-! The model: words. -/
theorem m_keyAt {d : Nat} {h : Hp} {b : Nat → Nat} {n : Nat} {a e : Nat} {Q : Po} (mx : MX b n h) (ha : rI h 130 6 = nI a) (he : rI h 130 7 = nI e) (hae0 : a ≤ e) (hen : e ≤ n) (k : Q (.int (nI (wkF b a e 18))) h) : wpC (d + 5) true 190 [.ref 130] h Q := by
  have hn9 := mx.1.1
  refine go_in rfl ?_
  refine exf_go 4 (show Go (d + 4) true 190 4 [.ref 130, .int 0, .int 1, mk_] [] h Q from ?_)
  have L4 : ∀ (k4 : Nat) (z3 : Value) (w : Nat), (19 - w) < k4 → (w ≤ 18) → (wkF b a e 18 = wkF b a e (18 - w)) → Go (d + 4) true 190 4 [.ref 130, .int (nI w), .int (nI (kps w)), z3] [] h Q := by
    intro k4
    induction k4 with
    | zero => intro z3 w hk; exact absurd hk (Nat.not_lt_zero _)
    | succ k4 ih4 =>
      intro z3 w hk hw hwk
      have hk18 : w = 18 → kps w = 83 := fun e => by rw [e]; rfl
      have hkA := kp_all w
      refine exf_go 3 (show wpC (d + 4) true 306 [.ref 3] h (fun r h' => Go (d + 4) true 190 10 [.ref 130, .int (nI w), .int (nI (kps w)), z3] [r, .int (nI (kps w))] h' Q) from ?_)
      refine j_len3 ?_
      show Go (d + 4) true 190 10 [.ref 130, .int (nI w), .int (nI (kps w)), z3] [.int (nI 83), .int (nI (kps w))] h Q
      refine exf_go 1 (show ((nI 83) ≤ (nI (kps w)) → Go (d + 4) true 190 123 [.ref 130, .int (nI w), .int (nI (kps w)), z3] [] h Q) ∧ (¬ ((nI 83) ≤ (nI (kps w))) → Go (d + 4) true 190 13 [.ref 130, .int (nI w), .int (nI (kps w)), z3] [] h Q) from ⟨fun c1 => ?_, fun c1 => ?_⟩)
      · skip
        have c1 : 83 ≤ (kps w) := (nI_leI (a := 83) (b := (kps w)) (by omega) (by omega)).mp c1
        refine exf_go 2 (show Q (.int 20) h from ?_)
        rw [hwk, show w = 18 from by omega] at k; exact k
      · skip
        have c1 : ¬ 83 ≤ (kps w) := fun q => c1 ((nI_leI (a := 83) (b := (kps w)) (by omega) (by omega)).mpr q)
        have hw18 : w < 18 := by omega
        obtain ⟨hk1, hk2, hk3, hk4⟩ := kp_all w hw18
        refine exf_go 2 (show Go (d + 4) true 190 15 [.ref 130, .int (nI w), .int (nI (kps w)), .int 0] [] h Q from ?_)
        have L15 : ∀ (k15 : Nat) (i : Nat), (7 - i) < k15 → (i ≤ kln w) → (a + i ≤ e) → (eqW b a w i = true) → Go (d + 4) true 190 15 [.ref 130, .int (nI w), .int (nI (kps w)), .int (nI i)] [] h Q := by
          intro k15
          induction k15 with
          | zero => intro i hk; exact absurd hk (Nat.not_lt_zero _)
          | succ k15 ih15 =>
            intro i hk hi hae heq
            refine exf_go 4 (show Go (d + 4) true 190 20 [.ref 130, .int (nI w), .int (nI (kps w)), .int (nI i)] [.int ((nI (kps w)) + (nI i)), .ref 3] h Q from ?_)
            rw [show ((nI (kps w)) + (nI i) : Int32) = nI ((kps w) + i) from nI_add (kps w) i]
            refine exf_go 1 (show wpC (d + 4) true 307 [.ref 3, .int (nI ((kps w) + i))] h (fun r h' => Go (d + 4) true 190 23 [.ref 130, .int (nI w), .int (nI (kps w)), .int (nI i)] [r] h' Q) from ?_)
            refine j_char3 (i := ((kps w) + i)) (by omega) ?_
            rw [kw_at w hw18 i (by omega) (by omega)]
            have hkni := kw_no w hw18 i (by omega)
            show Go (d + 4) true 190 23 [.ref 130, .int (nI w), .int (nI (kps w)), .int (nI i)] [.int (nI (kwd w i))] h Q
            refine exf_go 2 (show ((nI (kwd w i)) = 32 → Go (d + 4) true 190 69 [.ref 130, .int (nI w), .int (nI (kps w)), .int (nI i)] [] h Q) ∧ (¬ ((nI (kwd w i)) = 32) → Go (d + 4) true 190 28 [.ref 130, .int (nI w), .int (nI (kps w)), .int (nI i)] [] h Q) from ⟨fun c2 => ?_, fun c2 => ?_⟩)
            · skip
              have c2 : (kwd w i) = 32 := (nI_eq (a := (kwd w i)) (b := 32) (by omega) (by omega)).mp c2
              refine exf_go 4 (show Go (d + 4) true 190 74 [.ref 130, .int (nI w), .int (nI (kps w)), .int (nI i)] [.int ((nI (kps w)) + (nI i)), .ref 3] h Q from ?_)
              rw [show ((nI (kps w)) + (nI i) : Int32) = nI ((kps w) + i) from nI_add (kps w) i]
              refine exf_go 1 (show wpC (d + 4) true 307 [.ref 3, .int (nI ((kps w) + i))] h (fun r h' => Go (d + 4) true 190 77 [.ref 130, .int (nI w), .int (nI (kps w)), .int (nI i)] [r] h' Q) from ?_)
              refine j_char3 (i := ((kps w) + i)) (by omega) ?_
              rw [kw_at w hw18 i (by omega) (by omega)]
              have hkni := kw_no w hw18 i (by omega)
              show Go (d + 4) true 190 77 [.ref 130, .int (nI w), .int (nI (kps w)), .int (nI i)] [.int (nI (kwd w i))] h Q
              refine exf_go 2 (show (¬ (nI (kwd w i)) = 32 → Go (d + 4) true 190 97 [.ref 130, .int (nI w), .int (nI (kps w)), .int (nI i)] [] h Q) ∧ (¬ (¬ (nI (kwd w i)) = 32) → Go (d + 4) true 190 82 [.ref 130, .int (nI w), .int (nI (kps w)), .int (nI i)] [] h Q) from ⟨fun c3 => ?_, fun c3 => ?_⟩)
              · skip
                have c3 : ¬ (kwd w i) = 32 := fun q => c3 ((nI_eq (a := (kwd w i)) (b := 32) (by omega) (by omega)).mpr q)
                have L97 : ∀ (k97 : Nat) (z3 : Value) (j : Nat), (7 - j) < k97 → (j ≤ kln w) → (isW b a e w = false) → Go (d + 4) true 190 97 [.ref 130, .int (nI w), .int (nI (kps w + j)), z3] [] h Q := by
                  intro k97
                  induction k97 with
                  | zero => intro z3 j hk; exact absurd hk (Nat.not_lt_zero _)
                  | succ k97 ih97 =>
                    intro z3 j hk hj hno
                    refine exf_go 3 (show wpC (d + 4) true 307 [.ref 3, .int (nI (kps w + j))] h (fun r h' => Go (d + 4) true 190 103 [.ref 130, .int (nI w), .int (nI (kps w + j)), z3] [r] h' Q) from ?_)
                    refine j_char3 (i := (kps w + j)) (by omega) ?_
                    rw [kw_at w hw18 j (by omega) (by omega)]
                    have hknj := kw_no w hw18 j (by omega)
                    show Go (d + 4) true 190 103 [.ref 130, .int (nI w), .int (nI (kps w + j)), z3] [.int (nI (kwd w j))] h Q
                    refine exf_go 2 (show ((nI (kwd w j)) = 32 → Go (d + 4) true 190 114 [.ref 130, .int (nI w), .int (nI (kps w + j)), z3] [] h Q) ∧ (¬ ((nI (kwd w j)) = 32) → Go (d + 4) true 190 108 [.ref 130, .int (nI w), .int (nI (kps w + j)), z3] [] h Q) from ⟨fun c4 => ?_, fun c4 => ?_⟩)
                    · skip
                      have c4 : (kwd w j) = 32 := (nI_eq (a := (kwd w j)) (b := 32) (by omega) (by omega)).mp c4
                      refine exf_go 1 (show Go (d + 4) true 190 117 [.ref 130, .int (nI w), .int ((nI (kps w + j)) + 1), z3] [] h Q from ?_)
                      rw [show ((nI (kps w + j)) + 1 : Int32) = nI ((kps w + j) + 1) from nI_add (kps w + j) 1]
                      refine exf_go 1 (show Go (d + 4) true 190 120 [.ref 130, .int ((nI w) + 1), .int (nI ((kps w + j) + 1)), z3] [] h Q from ?_)
                      rw [show ((nI w) + 1 : Int32) = nI (w + 1) from nI_add w 1]
                      refine exf_go 1 (show Go (d + 4) true 190 4 [.ref 130, .int (nI (w + 1)), .int (nI ((kps w + j) + 1)), z3] [] h Q from ?_)
                      rw [show kps w + j + 1 = kps (w + 1) from by omega]
                      exact ih4 z3 (w + 1) (by omega) (by omega) (by rw [hwk]; exact wk_n hw18 hno)
                    · skip
                      have c4 : ¬ (kwd w j) = 32 := fun q => c4 ((nI_eq (a := (kwd w j)) (b := 32) (by omega) (by omega)).mpr q)
                      refine exf_go 1 (show Go (d + 4) true 190 111 [.ref 130, .int (nI w), .int ((nI (kps w + j)) + 1), z3] [] h Q from ?_)
                      rw [show ((nI (kps w + j)) + 1 : Int32) = nI ((kps w + j) + 1) from nI_add (kps w + j) 1]
                      refine exf_go 1 (show Go (d + 4) true 190 97 [.ref 130, .int (nI w), .int (nI ((kps w + j) + 1)), z3] [] h Q from ?_)
                      exact ih97 z3 (j + 1) (by omega) (by omega) hno
                exact L97 (7 + 1) (.int (nI i)) 0 (by omega) (by omega) (by first | exact isW_n (by omega) | exact isW_d (i := i) (by assumption) (by omega) | (exfalso; omega))
              · skip
                have c3 : (kwd w i) = 32 := (nI_eq (a := (kwd w i)) (b := 32) (by omega) (by omega)).mp (Classical.not_not.mp c3)
                refine exf_go 2 (show Go (d + 4) true 190 86 [.ref 130, .int (nI w), .int (nI (kps w)), .int (nI i)] [.int (rI h 130 6)] h Q from ?_)
                rw [show (rI h 130 6 : Int32) = nI a from ha]
                refine exf_go 2 (show Go (d + 4) true 190 88 [.ref 130, .int (nI w), .int (nI (kps w)), .int (nI i)] [.int ((nI a) + (nI i))] h Q from ?_)
                rw [show ((nI a) + (nI i) : Int32) = nI (a + i) from nI_add a i]
                refine exf_go 2 (show Go (d + 4) true 190 92 [.ref 130, .int (nI w), .int (nI (kps w)), .int (nI i)] [.int (rI h 130 7), .int (nI (a + i))] h Q from ?_)
                rw [show (rI h 130 7 : Int32) = nI e from he]
                refine exf_go 1 (show (¬ (nI (a + i)) = (nI e) → Go (d + 4) true 190 97 [.ref 130, .int (nI w), .int (nI (kps w)), .int (nI i)] [] h Q) ∧ (¬ (¬ (nI (a + i)) = (nI e)) → Go (d + 4) true 190 95 [.ref 130, .int (nI w), .int (nI (kps w)), .int (nI i)] [] h Q) from ⟨fun c5 => ?_, fun c5 => ?_⟩)
                · skip
                  have c5 : ¬ (a + i) = e := fun q => c5 ((nI_eq (a := (a + i)) (b := e) (by omega) (by omega)).mpr q)
                  have L97 : ∀ (k97 : Nat) (z3 : Value) (j : Nat), (7 - j) < k97 → (j ≤ kln w) → (isW b a e w = false) → Go (d + 4) true 190 97 [.ref 130, .int (nI w), .int (nI (kps w + j)), z3] [] h Q := by
                    intro k97
                    induction k97 with
                    | zero => intro z3 j hk; exact absurd hk (Nat.not_lt_zero _)
                    | succ k97 ih97 =>
                      intro z3 j hk hj hno
                      refine exf_go 3 (show wpC (d + 4) true 307 [.ref 3, .int (nI (kps w + j))] h (fun r h' => Go (d + 4) true 190 103 [.ref 130, .int (nI w), .int (nI (kps w + j)), z3] [r] h' Q) from ?_)
                      refine j_char3 (i := (kps w + j)) (by omega) ?_
                      rw [kw_at w hw18 j (by omega) (by omega)]
                      have hknj := kw_no w hw18 j (by omega)
                      show Go (d + 4) true 190 103 [.ref 130, .int (nI w), .int (nI (kps w + j)), z3] [.int (nI (kwd w j))] h Q
                      refine exf_go 2 (show ((nI (kwd w j)) = 32 → Go (d + 4) true 190 114 [.ref 130, .int (nI w), .int (nI (kps w + j)), z3] [] h Q) ∧ (¬ ((nI (kwd w j)) = 32) → Go (d + 4) true 190 108 [.ref 130, .int (nI w), .int (nI (kps w + j)), z3] [] h Q) from ⟨fun c6 => ?_, fun c6 => ?_⟩)
                      · skip
                        have c6 : (kwd w j) = 32 := (nI_eq (a := (kwd w j)) (b := 32) (by omega) (by omega)).mp c6
                        refine exf_go 1 (show Go (d + 4) true 190 117 [.ref 130, .int (nI w), .int ((nI (kps w + j)) + 1), z3] [] h Q from ?_)
                        rw [show ((nI (kps w + j)) + 1 : Int32) = nI ((kps w + j) + 1) from nI_add (kps w + j) 1]
                        refine exf_go 1 (show Go (d + 4) true 190 120 [.ref 130, .int ((nI w) + 1), .int (nI ((kps w + j) + 1)), z3] [] h Q from ?_)
                        rw [show ((nI w) + 1 : Int32) = nI (w + 1) from nI_add w 1]
                        refine exf_go 1 (show Go (d + 4) true 190 4 [.ref 130, .int (nI (w + 1)), .int (nI ((kps w + j) + 1)), z3] [] h Q from ?_)
                        rw [show kps w + j + 1 = kps (w + 1) from by omega]
                        exact ih4 z3 (w + 1) (by omega) (by omega) (by rw [hwk]; exact wk_n hw18 hno)
                      · skip
                        have c6 : ¬ (kwd w j) = 32 := fun q => c6 ((nI_eq (a := (kwd w j)) (b := 32) (by omega) (by omega)).mpr q)
                        refine exf_go 1 (show Go (d + 4) true 190 111 [.ref 130, .int (nI w), .int ((nI (kps w + j)) + 1), z3] [] h Q from ?_)
                        rw [show ((nI (kps w + j)) + 1 : Int32) = nI ((kps w + j) + 1) from nI_add (kps w + j) 1]
                        refine exf_go 1 (show Go (d + 4) true 190 97 [.ref 130, .int (nI w), .int (nI ((kps w + j) + 1)), z3] [] h Q from ?_)
                        exact ih97 z3 (j + 1) (by omega) (by omega) hno
                  exact L97 (7 + 1) (.int (nI i)) 0 (by omega) (by omega) (by first | exact isW_n (by omega) | exact isW_d (i := i) (by assumption) (by omega) | (exfalso; omega))
                · skip
                  have c5 : (a + i) = e := (nI_eq (a := (a + i)) (b := e) (by omega) (by omega)).mp (Classical.not_not.mp c5)
                  refine exf_go 2 (show Q (.int (nI w)) h from ?_)
                  rw [hwk, wk_y hw18 (isW_y (by omega) (by rw [← show i = kln w from by omega]; exact heq))] at k; exact k
            · skip
              have c2 : ¬ (kwd w i) = 32 := fun q => c2 ((nI_eq (a := (kwd w i)) (b := 32) (by omega) (by omega)).mpr q)
              refine exf_go 2 (show Go (d + 4) true 190 32 [.ref 130, .int (nI w), .int (nI (kps w)), .int (nI i)] [.int (rI h 130 6)] h Q from ?_)
              rw [show (rI h 130 6 : Int32) = nI a from ha]
              refine exf_go 2 (show Go (d + 4) true 190 34 [.ref 130, .int (nI w), .int (nI (kps w)), .int (nI i)] [.int ((nI a) + (nI i))] h Q from ?_)
              rw [show ((nI a) + (nI i) : Int32) = nI (a + i) from nI_add a i]
              refine exf_go 2 (show Go (d + 4) true 190 38 [.ref 130, .int (nI w), .int (nI (kps w)), .int (nI i)] [.int (rI h 130 7), .int (nI (a + i))] h Q from ?_)
              rw [show (rI h 130 7 : Int32) = nI e from he]
              refine exf_go 1 (show ((nI e) ≤ (nI (a + i)) → Go (d + 4) true 190 69 [.ref 130, .int (nI w), .int (nI (kps w)), .int (nI i)] [] h Q) ∧ (¬ ((nI e) ≤ (nI (a + i))) → Go (d + 4) true 190 41 [.ref 130, .int (nI w), .int (nI (kps w)), .int (nI i)] [] h Q) from ⟨fun c7 => ?_, fun c7 => ?_⟩)
              · skip
                have c7 : e ≤ (a + i) := (nI_leI (a := e) (b := (a + i)) (by omega) (by omega)).mp c7
                refine exf_go 4 (show Go (d + 4) true 190 74 [.ref 130, .int (nI w), .int (nI (kps w)), .int (nI i)] [.int ((nI (kps w)) + (nI i)), .ref 3] h Q from ?_)
                rw [show ((nI (kps w)) + (nI i) : Int32) = nI ((kps w) + i) from nI_add (kps w) i]
                refine exf_go 1 (show wpC (d + 4) true 307 [.ref 3, .int (nI ((kps w) + i))] h (fun r h' => Go (d + 4) true 190 77 [.ref 130, .int (nI w), .int (nI (kps w)), .int (nI i)] [r] h' Q) from ?_)
                refine j_char3 (i := ((kps w) + i)) (by omega) ?_
                rw [kw_at w hw18 i (by omega) (by omega)]
                have hkni := kw_no w hw18 i (by omega)
                show Go (d + 4) true 190 77 [.ref 130, .int (nI w), .int (nI (kps w)), .int (nI i)] [.int (nI (kwd w i))] h Q
                refine exf_go 2 (show (¬ (nI (kwd w i)) = 32 → Go (d + 4) true 190 97 [.ref 130, .int (nI w), .int (nI (kps w)), .int (nI i)] [] h Q) ∧ (¬ (¬ (nI (kwd w i)) = 32) → Go (d + 4) true 190 82 [.ref 130, .int (nI w), .int (nI (kps w)), .int (nI i)] [] h Q) from ⟨fun c8 => ?_, fun c8 => ?_⟩)
                · skip
                  have c8 : ¬ (kwd w i) = 32 := fun q => c8 ((nI_eq (a := (kwd w i)) (b := 32) (by omega) (by omega)).mpr q)
                  have L97 : ∀ (k97 : Nat) (z3 : Value) (j : Nat), (7 - j) < k97 → (j ≤ kln w) → (isW b a e w = false) → Go (d + 4) true 190 97 [.ref 130, .int (nI w), .int (nI (kps w + j)), z3] [] h Q := by
                    intro k97
                    induction k97 with
                    | zero => intro z3 j hk; exact absurd hk (Nat.not_lt_zero _)
                    | succ k97 ih97 =>
                      intro z3 j hk hj hno
                      refine exf_go 3 (show wpC (d + 4) true 307 [.ref 3, .int (nI (kps w + j))] h (fun r h' => Go (d + 4) true 190 103 [.ref 130, .int (nI w), .int (nI (kps w + j)), z3] [r] h' Q) from ?_)
                      refine j_char3 (i := (kps w + j)) (by omega) ?_
                      rw [kw_at w hw18 j (by omega) (by omega)]
                      have hknj := kw_no w hw18 j (by omega)
                      show Go (d + 4) true 190 103 [.ref 130, .int (nI w), .int (nI (kps w + j)), z3] [.int (nI (kwd w j))] h Q
                      refine exf_go 2 (show ((nI (kwd w j)) = 32 → Go (d + 4) true 190 114 [.ref 130, .int (nI w), .int (nI (kps w + j)), z3] [] h Q) ∧ (¬ ((nI (kwd w j)) = 32) → Go (d + 4) true 190 108 [.ref 130, .int (nI w), .int (nI (kps w + j)), z3] [] h Q) from ⟨fun c9 => ?_, fun c9 => ?_⟩)
                      · skip
                        have c9 : (kwd w j) = 32 := (nI_eq (a := (kwd w j)) (b := 32) (by omega) (by omega)).mp c9
                        refine exf_go 1 (show Go (d + 4) true 190 117 [.ref 130, .int (nI w), .int ((nI (kps w + j)) + 1), z3] [] h Q from ?_)
                        rw [show ((nI (kps w + j)) + 1 : Int32) = nI ((kps w + j) + 1) from nI_add (kps w + j) 1]
                        refine exf_go 1 (show Go (d + 4) true 190 120 [.ref 130, .int ((nI w) + 1), .int (nI ((kps w + j) + 1)), z3] [] h Q from ?_)
                        rw [show ((nI w) + 1 : Int32) = nI (w + 1) from nI_add w 1]
                        refine exf_go 1 (show Go (d + 4) true 190 4 [.ref 130, .int (nI (w + 1)), .int (nI ((kps w + j) + 1)), z3] [] h Q from ?_)
                        rw [show kps w + j + 1 = kps (w + 1) from by omega]
                        exact ih4 z3 (w + 1) (by omega) (by omega) (by rw [hwk]; exact wk_n hw18 hno)
                      · skip
                        have c9 : ¬ (kwd w j) = 32 := fun q => c9 ((nI_eq (a := (kwd w j)) (b := 32) (by omega) (by omega)).mpr q)
                        refine exf_go 1 (show Go (d + 4) true 190 111 [.ref 130, .int (nI w), .int ((nI (kps w + j)) + 1), z3] [] h Q from ?_)
                        rw [show ((nI (kps w + j)) + 1 : Int32) = nI ((kps w + j) + 1) from nI_add (kps w + j) 1]
                        refine exf_go 1 (show Go (d + 4) true 190 97 [.ref 130, .int (nI w), .int (nI ((kps w + j) + 1)), z3] [] h Q from ?_)
                        exact ih97 z3 (j + 1) (by omega) (by omega) hno
                  exact L97 (7 + 1) (.int (nI i)) 0 (by omega) (by omega) (by first | exact isW_n (by omega) | exact isW_d (i := i) (by assumption) (by omega) | (exfalso; omega))
                · skip
                  have c8 : (kwd w i) = 32 := (nI_eq (a := (kwd w i)) (b := 32) (by omega) (by omega)).mp (Classical.not_not.mp c8)
                  refine exf_go 2 (show Go (d + 4) true 190 86 [.ref 130, .int (nI w), .int (nI (kps w)), .int (nI i)] [.int (rI h 130 6)] h Q from ?_)
                  rw [show (rI h 130 6 : Int32) = nI a from ha]
                  refine exf_go 2 (show Go (d + 4) true 190 88 [.ref 130, .int (nI w), .int (nI (kps w)), .int (nI i)] [.int ((nI a) + (nI i))] h Q from ?_)
                  rw [show ((nI a) + (nI i) : Int32) = nI (a + i) from nI_add a i]
                  refine exf_go 2 (show Go (d + 4) true 190 92 [.ref 130, .int (nI w), .int (nI (kps w)), .int (nI i)] [.int (rI h 130 7), .int (nI (a + i))] h Q from ?_)
                  rw [show (rI h 130 7 : Int32) = nI e from he]
                  refine exf_go 1 (show (¬ (nI (a + i)) = (nI e) → Go (d + 4) true 190 97 [.ref 130, .int (nI w), .int (nI (kps w)), .int (nI i)] [] h Q) ∧ (¬ (¬ (nI (a + i)) = (nI e)) → Go (d + 4) true 190 95 [.ref 130, .int (nI w), .int (nI (kps w)), .int (nI i)] [] h Q) from ⟨fun c10 => ?_, fun c10 => ?_⟩)
                  · skip
                    have c10 : ¬ (a + i) = e := fun q => c10 ((nI_eq (a := (a + i)) (b := e) (by omega) (by omega)).mpr q)
                    have L97 : ∀ (k97 : Nat) (z3 : Value) (j : Nat), (7 - j) < k97 → (j ≤ kln w) → (isW b a e w = false) → Go (d + 4) true 190 97 [.ref 130, .int (nI w), .int (nI (kps w + j)), z3] [] h Q := by
                      intro k97
                      induction k97 with
                      | zero => intro z3 j hk; exact absurd hk (Nat.not_lt_zero _)
                      | succ k97 ih97 =>
                        intro z3 j hk hj hno
                        refine exf_go 3 (show wpC (d + 4) true 307 [.ref 3, .int (nI (kps w + j))] h (fun r h' => Go (d + 4) true 190 103 [.ref 130, .int (nI w), .int (nI (kps w + j)), z3] [r] h' Q) from ?_)
                        refine j_char3 (i := (kps w + j)) (by omega) ?_
                        rw [kw_at w hw18 j (by omega) (by omega)]
                        have hknj := kw_no w hw18 j (by omega)
                        show Go (d + 4) true 190 103 [.ref 130, .int (nI w), .int (nI (kps w + j)), z3] [.int (nI (kwd w j))] h Q
                        refine exf_go 2 (show ((nI (kwd w j)) = 32 → Go (d + 4) true 190 114 [.ref 130, .int (nI w), .int (nI (kps w + j)), z3] [] h Q) ∧ (¬ ((nI (kwd w j)) = 32) → Go (d + 4) true 190 108 [.ref 130, .int (nI w), .int (nI (kps w + j)), z3] [] h Q) from ⟨fun c11 => ?_, fun c11 => ?_⟩)
                        · skip
                          have c11 : (kwd w j) = 32 := (nI_eq (a := (kwd w j)) (b := 32) (by omega) (by omega)).mp c11
                          refine exf_go 1 (show Go (d + 4) true 190 117 [.ref 130, .int (nI w), .int ((nI (kps w + j)) + 1), z3] [] h Q from ?_)
                          rw [show ((nI (kps w + j)) + 1 : Int32) = nI ((kps w + j) + 1) from nI_add (kps w + j) 1]
                          refine exf_go 1 (show Go (d + 4) true 190 120 [.ref 130, .int ((nI w) + 1), .int (nI ((kps w + j) + 1)), z3] [] h Q from ?_)
                          rw [show ((nI w) + 1 : Int32) = nI (w + 1) from nI_add w 1]
                          refine exf_go 1 (show Go (d + 4) true 190 4 [.ref 130, .int (nI (w + 1)), .int (nI ((kps w + j) + 1)), z3] [] h Q from ?_)
                          rw [show kps w + j + 1 = kps (w + 1) from by omega]
                          exact ih4 z3 (w + 1) (by omega) (by omega) (by rw [hwk]; exact wk_n hw18 hno)
                        · skip
                          have c11 : ¬ (kwd w j) = 32 := fun q => c11 ((nI_eq (a := (kwd w j)) (b := 32) (by omega) (by omega)).mpr q)
                          refine exf_go 1 (show Go (d + 4) true 190 111 [.ref 130, .int (nI w), .int ((nI (kps w + j)) + 1), z3] [] h Q from ?_)
                          rw [show ((nI (kps w + j)) + 1 : Int32) = nI ((kps w + j) + 1) from nI_add (kps w + j) 1]
                          refine exf_go 1 (show Go (d + 4) true 190 97 [.ref 130, .int (nI w), .int (nI ((kps w + j) + 1)), z3] [] h Q from ?_)
                          exact ih97 z3 (j + 1) (by omega) (by omega) hno
                    exact L97 (7 + 1) (.int (nI i)) 0 (by omega) (by omega) (by first | exact isW_n (by omega) | exact isW_d (i := i) (by assumption) (by omega) | (exfalso; omega))
                  · skip
                    have c10 : (a + i) = e := (nI_eq (a := (a + i)) (b := e) (by omega) (by omega)).mp (Classical.not_not.mp c10)
                    refine exf_go 2 (show Q (.int (nI w)) h from ?_)
                    rw [hwk, wk_y hw18 (isW_y (by omega) (by rw [← show i = kln w from by omega]; exact heq))] at k; exact k
              · skip
                have c7 : ¬ e ≤ (a + i) := fun q => c7 ((nI_leI (a := e) (b := (a + i)) (by omega) (by omega)).mpr q)
                refine exf_go 4 (show Go (d + 4) true 190 49 [.ref 130, .int (nI w), .int (nI (kps w)), .int (nI i)] [.int (rI h 130 6), .ref 133] h Q from ?_)
                rw [show (rI h 130 6 : Int32) = nI a from ha]
                refine exf_go 2 (show Go (d + 4) true 190 51 [.ref 130, .int (nI w), .int (nI (kps w)), .int (nI i)] [.int ((nI a) + (nI i)), .ref 133] h Q from ?_)
                rw [show ((nI a) + (nI i) : Int32) = nI (a + i) from nI_add a i]
                refine exf_go 1 (show vp_in (nI (a + i)) 900 ∧ (Go (d + 4) true 190 52 [.ref 130, .int (nI w), .int (nI (kps w)), .int (nI i)] [.int (rI h 133 ((nI (a + i)).toNatClampNeg))] h Q) from ⟨(vp_in_nI (by omega) (by omega)), ?_⟩)
                rw [show (rI h 133 ((nI (a + i)).toNatClampNeg) : Int32) = nI (b (a + i)) from by rw [nI_clamp (by omega)]; exact mx.2.2 _ (by omega)]
                have := mx.1.2 (a + i)
                refine exf_go 4 (show Go (d + 4) true 190 57 [.ref 130, .int (nI w), .int (nI (kps w)), .int (nI i)] [.int ((nI (kps w)) + (nI i)), .ref 3, .int (nI (b (a + i)))] h Q from ?_)
                rw [show ((nI (kps w)) + (nI i) : Int32) = nI ((kps w) + i) from nI_add (kps w) i]
                refine exf_go 1 (show wpC (d + 4) true 307 [.ref 3, .int (nI ((kps w) + i))] h (fun r h' => Go (d + 4) true 190 60 [.ref 130, .int (nI w), .int (nI (kps w)), .int (nI i)] [r, .int (nI (b (a + i)))] h' Q) from ?_)
                refine j_char3 (i := ((kps w) + i)) (by omega) ?_
                rw [kw_at w hw18 i (by omega) (by omega)]
                have hkni := kw_no w hw18 i (by omega)
                show Go (d + 4) true 190 60 [.ref 130, .int (nI w), .int (nI (kps w)), .int (nI i)] [.int (nI (kwd w i)), .int (nI (b (a + i)))] h Q
                refine exf_go 1 (show (¬ (nI (b (a + i))) = (nI (kwd w i)) → Go (d + 4) true 190 69 [.ref 130, .int (nI w), .int (nI (kps w)), .int (nI i)] [] h Q) ∧ (¬ (¬ (nI (b (a + i))) = (nI (kwd w i))) → Go (d + 4) true 190 63 [.ref 130, .int (nI w), .int (nI (kps w)), .int (nI i)] [] h Q) from ⟨fun c12 => ?_, fun c12 => ?_⟩)
                · skip
                  have c12 : ¬ (b (a + i)) = (kwd w i) := fun q => c12 ((nI_eq (a := (b (a + i))) (b := (kwd w i)) (by omega) (by omega)).mpr q)
                  refine exf_go 4 (show Go (d + 4) true 190 74 [.ref 130, .int (nI w), .int (nI (kps w)), .int (nI i)] [.int ((nI (kps w)) + (nI i)), .ref 3] h Q from ?_)
                  rw [show ((nI (kps w)) + (nI i) : Int32) = nI ((kps w) + i) from nI_add (kps w) i]
                  refine exf_go 1 (show wpC (d + 4) true 307 [.ref 3, .int (nI ((kps w) + i))] h (fun r h' => Go (d + 4) true 190 77 [.ref 130, .int (nI w), .int (nI (kps w)), .int (nI i)] [r] h' Q) from ?_)
                  refine j_char3 (i := ((kps w) + i)) (by omega) ?_
                  rw [kw_at w hw18 i (by omega) (by omega)]
                  have hkni := kw_no w hw18 i (by omega)
                  show Go (d + 4) true 190 77 [.ref 130, .int (nI w), .int (nI (kps w)), .int (nI i)] [.int (nI (kwd w i))] h Q
                  refine exf_go 2 (show (¬ (nI (kwd w i)) = 32 → Go (d + 4) true 190 97 [.ref 130, .int (nI w), .int (nI (kps w)), .int (nI i)] [] h Q) ∧ (¬ (¬ (nI (kwd w i)) = 32) → Go (d + 4) true 190 82 [.ref 130, .int (nI w), .int (nI (kps w)), .int (nI i)] [] h Q) from ⟨fun c13 => ?_, fun c13 => ?_⟩)
                  · skip
                    have c13 : ¬ (kwd w i) = 32 := fun q => c13 ((nI_eq (a := (kwd w i)) (b := 32) (by omega) (by omega)).mpr q)
                    have L97 : ∀ (k97 : Nat) (z3 : Value) (j : Nat), (7 - j) < k97 → (j ≤ kln w) → (isW b a e w = false) → Go (d + 4) true 190 97 [.ref 130, .int (nI w), .int (nI (kps w + j)), z3] [] h Q := by
                      intro k97
                      induction k97 with
                      | zero => intro z3 j hk; exact absurd hk (Nat.not_lt_zero _)
                      | succ k97 ih97 =>
                        intro z3 j hk hj hno
                        refine exf_go 3 (show wpC (d + 4) true 307 [.ref 3, .int (nI (kps w + j))] h (fun r h' => Go (d + 4) true 190 103 [.ref 130, .int (nI w), .int (nI (kps w + j)), z3] [r] h' Q) from ?_)
                        refine j_char3 (i := (kps w + j)) (by omega) ?_
                        rw [kw_at w hw18 j (by omega) (by omega)]
                        have hknj := kw_no w hw18 j (by omega)
                        show Go (d + 4) true 190 103 [.ref 130, .int (nI w), .int (nI (kps w + j)), z3] [.int (nI (kwd w j))] h Q
                        refine exf_go 2 (show ((nI (kwd w j)) = 32 → Go (d + 4) true 190 114 [.ref 130, .int (nI w), .int (nI (kps w + j)), z3] [] h Q) ∧ (¬ ((nI (kwd w j)) = 32) → Go (d + 4) true 190 108 [.ref 130, .int (nI w), .int (nI (kps w + j)), z3] [] h Q) from ⟨fun c14 => ?_, fun c14 => ?_⟩)
                        · skip
                          have c14 : (kwd w j) = 32 := (nI_eq (a := (kwd w j)) (b := 32) (by omega) (by omega)).mp c14
                          refine exf_go 1 (show Go (d + 4) true 190 117 [.ref 130, .int (nI w), .int ((nI (kps w + j)) + 1), z3] [] h Q from ?_)
                          rw [show ((nI (kps w + j)) + 1 : Int32) = nI ((kps w + j) + 1) from nI_add (kps w + j) 1]
                          refine exf_go 1 (show Go (d + 4) true 190 120 [.ref 130, .int ((nI w) + 1), .int (nI ((kps w + j) + 1)), z3] [] h Q from ?_)
                          rw [show ((nI w) + 1 : Int32) = nI (w + 1) from nI_add w 1]
                          refine exf_go 1 (show Go (d + 4) true 190 4 [.ref 130, .int (nI (w + 1)), .int (nI ((kps w + j) + 1)), z3] [] h Q from ?_)
                          rw [show kps w + j + 1 = kps (w + 1) from by omega]
                          exact ih4 z3 (w + 1) (by omega) (by omega) (by rw [hwk]; exact wk_n hw18 hno)
                        · skip
                          have c14 : ¬ (kwd w j) = 32 := fun q => c14 ((nI_eq (a := (kwd w j)) (b := 32) (by omega) (by omega)).mpr q)
                          refine exf_go 1 (show Go (d + 4) true 190 111 [.ref 130, .int (nI w), .int ((nI (kps w + j)) + 1), z3] [] h Q from ?_)
                          rw [show ((nI (kps w + j)) + 1 : Int32) = nI ((kps w + j) + 1) from nI_add (kps w + j) 1]
                          refine exf_go 1 (show Go (d + 4) true 190 97 [.ref 130, .int (nI w), .int (nI ((kps w + j) + 1)), z3] [] h Q from ?_)
                          exact ih97 z3 (j + 1) (by omega) (by omega) hno
                    exact L97 (7 + 1) (.int (nI i)) 0 (by omega) (by omega) (by first | exact isW_n (by omega) | exact isW_d (i := i) (by assumption) (by omega) | (exfalso; omega))
                  · skip
                    have c13 : (kwd w i) = 32 := (nI_eq (a := (kwd w i)) (b := 32) (by omega) (by omega)).mp (Classical.not_not.mp c13)
                    refine exf_go 2 (show Go (d + 4) true 190 86 [.ref 130, .int (nI w), .int (nI (kps w)), .int (nI i)] [.int (rI h 130 6)] h Q from ?_)
                    rw [show (rI h 130 6 : Int32) = nI a from ha]
                    refine exf_go 2 (show Go (d + 4) true 190 88 [.ref 130, .int (nI w), .int (nI (kps w)), .int (nI i)] [.int ((nI a) + (nI i))] h Q from ?_)
                    rw [show ((nI a) + (nI i) : Int32) = nI (a + i) from nI_add a i]
                    refine exf_go 2 (show Go (d + 4) true 190 92 [.ref 130, .int (nI w), .int (nI (kps w)), .int (nI i)] [.int (rI h 130 7), .int (nI (a + i))] h Q from ?_)
                    rw [show (rI h 130 7 : Int32) = nI e from he]
                    refine exf_go 1 (show (¬ (nI (a + i)) = (nI e) → Go (d + 4) true 190 97 [.ref 130, .int (nI w), .int (nI (kps w)), .int (nI i)] [] h Q) ∧ (¬ (¬ (nI (a + i)) = (nI e)) → Go (d + 4) true 190 95 [.ref 130, .int (nI w), .int (nI (kps w)), .int (nI i)] [] h Q) from ⟨fun c15 => ?_, fun c15 => ?_⟩)
                    · skip
                      have c15 : ¬ (a + i) = e := fun q => c15 ((nI_eq (a := (a + i)) (b := e) (by omega) (by omega)).mpr q)
                      have L97 : ∀ (k97 : Nat) (z3 : Value) (j : Nat), (7 - j) < k97 → (j ≤ kln w) → (isW b a e w = false) → Go (d + 4) true 190 97 [.ref 130, .int (nI w), .int (nI (kps w + j)), z3] [] h Q := by
                        intro k97
                        induction k97 with
                        | zero => intro z3 j hk; exact absurd hk (Nat.not_lt_zero _)
                        | succ k97 ih97 =>
                          intro z3 j hk hj hno
                          refine exf_go 3 (show wpC (d + 4) true 307 [.ref 3, .int (nI (kps w + j))] h (fun r h' => Go (d + 4) true 190 103 [.ref 130, .int (nI w), .int (nI (kps w + j)), z3] [r] h' Q) from ?_)
                          refine j_char3 (i := (kps w + j)) (by omega) ?_
                          rw [kw_at w hw18 j (by omega) (by omega)]
                          have hknj := kw_no w hw18 j (by omega)
                          show Go (d + 4) true 190 103 [.ref 130, .int (nI w), .int (nI (kps w + j)), z3] [.int (nI (kwd w j))] h Q
                          refine exf_go 2 (show ((nI (kwd w j)) = 32 → Go (d + 4) true 190 114 [.ref 130, .int (nI w), .int (nI (kps w + j)), z3] [] h Q) ∧ (¬ ((nI (kwd w j)) = 32) → Go (d + 4) true 190 108 [.ref 130, .int (nI w), .int (nI (kps w + j)), z3] [] h Q) from ⟨fun c16 => ?_, fun c16 => ?_⟩)
                          · skip
                            have c16 : (kwd w j) = 32 := (nI_eq (a := (kwd w j)) (b := 32) (by omega) (by omega)).mp c16
                            refine exf_go 1 (show Go (d + 4) true 190 117 [.ref 130, .int (nI w), .int ((nI (kps w + j)) + 1), z3] [] h Q from ?_)
                            rw [show ((nI (kps w + j)) + 1 : Int32) = nI ((kps w + j) + 1) from nI_add (kps w + j) 1]
                            refine exf_go 1 (show Go (d + 4) true 190 120 [.ref 130, .int ((nI w) + 1), .int (nI ((kps w + j) + 1)), z3] [] h Q from ?_)
                            rw [show ((nI w) + 1 : Int32) = nI (w + 1) from nI_add w 1]
                            refine exf_go 1 (show Go (d + 4) true 190 4 [.ref 130, .int (nI (w + 1)), .int (nI ((kps w + j) + 1)), z3] [] h Q from ?_)
                            rw [show kps w + j + 1 = kps (w + 1) from by omega]
                            exact ih4 z3 (w + 1) (by omega) (by omega) (by rw [hwk]; exact wk_n hw18 hno)
                          · skip
                            have c16 : ¬ (kwd w j) = 32 := fun q => c16 ((nI_eq (a := (kwd w j)) (b := 32) (by omega) (by omega)).mpr q)
                            refine exf_go 1 (show Go (d + 4) true 190 111 [.ref 130, .int (nI w), .int ((nI (kps w + j)) + 1), z3] [] h Q from ?_)
                            rw [show ((nI (kps w + j)) + 1 : Int32) = nI ((kps w + j) + 1) from nI_add (kps w + j) 1]
                            refine exf_go 1 (show Go (d + 4) true 190 97 [.ref 130, .int (nI w), .int (nI ((kps w + j) + 1)), z3] [] h Q from ?_)
                            exact ih97 z3 (j + 1) (by omega) (by omega) hno
                      exact L97 (7 + 1) (.int (nI i)) 0 (by omega) (by omega) (by first | exact isW_n (by omega) | exact isW_d (i := i) (by assumption) (by omega) | (exfalso; omega))
                    · skip
                      have c15 : (a + i) = e := (nI_eq (a := (a + i)) (b := e) (by omega) (by omega)).mp (Classical.not_not.mp c15)
                      refine exf_go 2 (show Q (.int (nI w)) h from ?_)
                      rw [hwk, wk_y hw18 (isW_y (by omega) (by rw [← show i = kln w from by omega]; exact heq))] at k; exact k
                · skip
                  have c12 : (b (a + i)) = (kwd w i) := (nI_eq (a := (b (a + i))) (b := (kwd w i)) (by omega) (by omega)).mp (Classical.not_not.mp c12)
                  refine exf_go 1 (show Go (d + 4) true 190 66 [.ref 130, .int (nI w), .int (nI (kps w)), .int ((nI i) + 1)] [] h Q from ?_)
                  rw [show ((nI i) + 1 : Int32) = nI (i + 1) from nI_add i 1]
                  refine exf_go 1 (show Go (d + 4) true 190 15 [.ref 130, .int (nI w), .int (nI (kps w)), .int (nI (i + 1))] [] h Q from ?_)
                  exact ih15 (i + 1) (by omega) (by omega) (by omega) (by rw [eqW, heq, decide_eq_true (by omega)]; rfl)
        exact L15 (7 + 1) 0 (by omega) (by omega) (by omega) rfl
  exact L4 (19 + 1) mk_ 0 (by omega) (by omega) rfl
