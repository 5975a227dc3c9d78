/-! The class: a text is read. -/
def sTx (a i : Nat) : Bool := sLn a i || (Nat.beq a 17 && Nat.beq i 2)
theorem sLn_T (a i : Nat) (e : sTx a i = false) : sLn a i = false := (Bool.or_eq_false_iff.mp e).1
theorem sCl_T (a i : Nat) (e : sTx a i = false) : sCl a i = false := by
  have e1 := sLn_T a i e
  have hb : ∀ z, 23 ≤ z → z ≤ 30 → Nat.beq a z = false := fun z z1 z2 => beq_no (fun q => by
    subst q
    unfold sLn at e1
    simp only [Bool.or_eq_false_iff] at e1
    have e2 := e1.1.1.1.2
    rw [Nat.ble_eq.mpr z1, Nat.ble_eq.mpr z2] at e2
    exact absurd e2 (by decide))
  unfold sCl
  rw [hb 23 (by decide) (by decide), hb 24 (by decide) (by decide), hb 25 (by decide) (by decide), hb 26 (by decide) (by decide)]
  rfl
theorem sSe_T (a i : Nat) (e : sTx a i = false) : sSe a i = false := by
  have e1 := sLn_T a i e
  have hb : ∀ z, 23 ≤ z → z ≤ 30 → Nat.beq a z = false := fun z z1 z2 => beq_no (fun q => by
    subst q
    unfold sLn at e1
    simp only [Bool.or_eq_false_iff] at e1
    have e2 := e1.1.1.1.2
    rw [Nat.ble_eq.mpr z1, Nat.ble_eq.mpr z2] at e2
    exact absurd e2 (by decide))
  unfold sSe
  rw [hb 27 (by decide) (by decide), hb 29 (by decide) (by decide), hb 23 (by decide) (by decide)]
  rfl
def hN3 (h : Hp) : Hp := uN (uN (uN h 16 4 true) 16 5 true) 16 6 true
theorem rE_f {b : Nat → Nat} {n : Nat} {y : LnG} (z : ¬ qe (ys y) = 0) : rEn b n y = y := by
  unfold rEn
  rw [eat_id z, if_neg z]
  rfl
theorem rE_n {b : Nat → Nat} {n : Nat} {y : LnG} (k : isK b n 25 (ys y) = false) : rEn b n y = (fl b n 2 (ys y), y.2) := by
  have e2 : eat b n 25 (ys y) = fl b n 2 (ys y) := if_neg (by rw [k]; decide)
  unfold rEn
  rw [e2, if_neg (fl_ne (by decide))]
theorem rE_y {b : Nat → Nat} {n : Nat} {y : LnG} (he : qe (ys y) = 0) (k : isK b n 25 (ys y) = true) : rEn b n y = (nx (ys y), gLn (yg y), y.2.2) := by
  have e2 : eat b n 25 (ys y) = nx (ys y) := if_pos k
  unfold rEn
  rw [e2, if_pos (show qe (nx (ys y)) = 0 from he)]
def s2317 (a i : Nat) : Bool := Nat.beq a 23 && Nat.beq i 17
theorem cy_se {b : Nat → Nat} {n N : Nat} {y : LnG} {h h1 : Hp} (cy : CY b n N y h) (q : Fq sSe h h1) : CY b n N y h1 := ⟨cp_o cy.1 q (fun _ => ⟨rfl, rfl, rfl, rfl, rfl⟩) ⟨rfl, rfl, rfl, rfl, rfl⟩, ⟨⟨(q.1 23 0 rfl).1.trans cy.2.1.1.1, (q.1 23 6 rfl).1.trans cy.2.1.1.2.1, (q.1 23 13 rfl).1.trans cy.2.1.1.2.2.1, (q.1 17 4 rfl).1.trans cy.2.1.1.2.2.2⟩, fun w hw => ⟨(q.1 24 w rfl).1.trans (cy.2.1.2.1 w hw).1, (q.1 25 w rfl).1.trans (cy.2.1.2.1 w hw).2.1, (q.1 26 w rfl).1.trans (cy.2.1.2.1 w hw).2.2⟩, fun c hc => ⟨(q.1 28 c rfl).1.trans (cy.2.1.2.2.1 c hc).1, (q.1 20 c rfl).1.trans (cy.2.1.2.2.1 c hc).2⟩, fun m hm => (q.1 30 m rfl).1.trans (cy.2.1.2.2.2 m hm)⟩, fun e => cr_o (cy.2.2 e) q ⟨rfl, rfl, rfl, rfl, rfl, rfl, rfl, rfl⟩⟩
theorem tk_o {s1 : Nat → Nat → Bool} {b : Nat → Nat} {n N : Nat} {h h1 : Hp} (tk : TK b n N h) (q : Fq s1 h h1) (z : ∀ i, s1 13 i = false ∧ s1 14 i = false ∧ s1 15 i = false) (z2 : s1 12 3 = false) : TK b n N h1 := ⟨⟨tk.1.1, (q.1 12 3 z2).1.trans tk.1.2⟩, fun i hi => ⟨(q.1 13 i (z i).1).1.trans (tk.2.1 i hi).1, (q.1 15 i (z i).2.2).1.trans (tk.2.1 i hi).2.1, fun e => (q.1 14 i (z i).2.1).1.trans ((tk.2.1 i hi).2.2 e)⟩, tk.2.2⟩
theorem c_readText {d : Nat} {h : Hp} {b : Nat → Nat} {n N : Nat} {Q : Po} (tk : TK b n N h) (hn9 : n ≤ 900) (k : ∀ h1, Fq sTx (hN3 h) h1 → YW b n (rTx b n 900 y00) → CY b n N (rTx b n 900 y00) h1 → rI h1 23 5 = nI (tot (yg (rTx b n 900 y00))) → (∀ w, w < 4 → rI h1 27 w = nI (wor (yg (rTx b n 900 y00)) w)) → WT 29 (yg (rTx b n 900 y00)) (evr (yg (rTx b n 900 y00))) h1 → Q mk_ h1) : wpC (d + 35) true 54 [.ref 16, .ref 12, .ref 23, .ref 17] h Q := by
  refine go_in rfl ?_
  refine exf_go 24 (show ((0 : Int32) = 0 ∨ (0 : Int32) = 1) ∧ rN (uI (uI (uI (uI (uN (uN (uN h 16 4 true) 16 5 true) 16 6 true) 16 0 0) 16 1 (-1)) 16 2 0) 16 3 0) 16 5 = true ∧ (wpC (d + 34) true 76 [.ref 23] (uI (uI (uI (uI (uN (uN (uN h 16 4 true) 16 5 true) 16 6 true) 16 0 0) 16 1 (-1)) 16 2 0) 16 3 0) (fun _ h' => Go (d + 34) true 54 42 [.ref 16, .ref 12, .ref 23, .ref 17, mk_] [] h' Q)) from ⟨(by first | exact Or.inl rfl | exact Or.inr rfl | assumption), rfl, ?_⟩)
  have qA : Fq sTx (hN3 h) (uI (uI (uI (uI (uN (uN (uN h 16 4 true) 16 5 true) 16 6 true) 16 0 0) 16 1 (-1)) 16 2 0) 16 3 0) := (((Fq.rfl'.uI' _ _ _ rfl).uI' _ _ _ rfl).uI' _ _ _ rfl).uI' _ _ _ rfl
  have qA2 : Fq sLn (hN3 h) (uI (uI (uI (uI (uN (uN (uN h 16 4 true) 16 5 true) 16 6 true) 16 0 0) 16 1 (-1)) 16 2 0) 16 3 0) := (((Fq.rfl'.uI' _ _ _ rfl).uI' _ _ _ rfl).uI' _ _ _ rfl).uI' _ _ _ rfl
  have rA : rI (uI (uI (uI (uI (uN (uN (uN h 16 4 true) 16 5 true) 16 6 true) 16 0 0) 16 1 (-1)) 16 2 0) 16 3 0) 16 0 = nI 0 ∧ rI (uI (uI (uI (uI (uN (uN (uN h 16 4 true) 16 5 true) 16 6 true) 16 0 0) 16 1 (-1)) 16 2 0) 16 3 0) 16 1 = -1 ∧ rI (uI (uI (uI (uI (uN (uN (uN h 16 4 true) 16 5 true) 16 6 true) 16 0 0) 16 1 (-1)) 16 2 0) 16 3 0) 16 2 = nI 0 ∧ rI (uI (uI (uI (uI (uN (uN (uN h 16 4 true) 16 5 true) 16 6 true) 16 0 0) 16 1 (-1)) 16 2 0) 16 3 0) 16 3 = nI 0 := ⟨rfl, rfl, rfl, rfl⟩
  generalize hgA : uI (uI (uI (uI (uN (uN (uN h 16 4 true) 16 5 true) 16 6 true) 16 0 0) 16 1 (-1)) 16 2 0) 16 3 0 = hA at qA qA2 rA ⊢
  refine c_clear (fun h1 q1 c0 => ?_)
  show Go (d + 34) true 54 42 [.ref 16, .ref 12, .ref 23, .ref 17, mk_] [] h1 Q
  refine exf_go 3 (show rN h1 16 6 = true ∧ (wpC (d + 34) true 2 [.ref 17] h1 (fun _ h' => Go (d + 34) true 54 49 [.ref 16, .ref 12, .ref 23, .ref 17, mk_] [] h' Q)) from ⟨((q1.N 16 6).trans ((qA.N 16 6).trans rfl)), ?_⟩)
  refine c_clearC ?_
  show Go (d + 34) true 54 49 [.ref 16, .ref 12, .ref 23, .ref 17, mk_] [] (uI (uI h1 17 2 0) 17 4 0) Q
  refine exf_go 2 (show Go (d + 34) true 54 52 [.ref 16, .ref 12, .ref 23, .ref 17, .int 0] [] (uI (uI h1 17 2 0) 17 4 0) Q from ?_)
  have L52 : ∀ (k52 : Nat) (j : Nat) (y : LnG) (hL : Hp), (900 - j) < k52 → (j ≤ 900) → (Fq sTx (hN3 h) hL) → (CY b n N y hL) → (YW b n y) → (rTx b n 900 y00 = rTx b n (900 - j) y) → Go (d + 34) true 54 52 [.ref 16, .ref 12, .ref 23, .ref 17, .int (nI j)] [] hL Q := by
    intro k52
    induction k52 with
    | zero => intro j y hL hk; exact absurd hk (Nat.not_lt_zero _)
    | succ k52 ih52 =>
      intro j y hL hk hj qL cyL ywL hwh
      have hbL := cp_b cyL.1
      refine exf_go 3 (show (900 ≤ (nI j) → Go (d + 34) true 54 109 [.ref 16, .ref 12, .ref 23, .ref 17, .int (nI j)] [] hL Q) ∧ (¬ (900 ≤ (nI j)) → Go (d + 34) true 54 60 [.ref 16, .ref 12, .ref 23, .ref 17, .int (nI j)] [] hL Q) from ⟨fun c1 => ?_, fun c1 => ?_⟩)
      · skip
        have c1 : 900 ≤ j := (nI_leI (a := 900) (b := j) (by omega) (by omega)).mp c1
        refine exf_go 3 (show rN hL 16 5 = true ∧ (wpC (d + 34) true 78 [.ref 23] hL (fun _ h' => Go (d + 34) true 54 116 [.ref 16, .ref 12, .ref 23, .ref 17, .int (nI j)] [] h' Q)) from ⟨(cyL.1.2.1.2.1), ?_⟩)
        refine c_settle ywL.1 cyL.2.1 (fun hs qs t5 tw tt => ?_)
        show Go (d + 34) true 54 116 [.ref 16, .ref 12, .ref 23, .ref 17, .int (nI j)] [] hs Q
        refine exf_go 1 (show Q (mk_) hs from ?_)
        have hY : rTx b n 900 y00 = y := hwh.trans (by first | exact rTx_n (by omega) | (rw [show 900 - j = 0 from by omega]; rfl))
        rw [hY] at k; exact k _ (qL.tr (qs.mono sSe_T)) ywL (cy_se cyL qs) t5 tw tt
      · skip
        have c1 : ¬ 900 ≤ j := fun q => c1 ((nI_leI (a := 900) (b := j) (by omega) (by omega)).mpr q)
        refine exf_go 2 (show Go (d + 34) true 54 64 [.ref 16, .ref 12, .ref 23, .ref 17, .int (nI j)] [.int (rI hL 16 0)] hL Q from ?_)
        rw [show (rI hL 16 0 : Int32) = nI (qe (ys y)) from cyL.1.2.2.1.1]
        refine exf_go 1 (show (¬ (nI (qe (ys y))) = 0 → Go (d + 34) true 54 109 [.ref 16, .ref 12, .ref 23, .ref 17, .int (nI j)] [] hL Q) ∧ (¬ (¬ (nI (qe (ys y))) = 0) → Go (d + 34) true 54 67 [.ref 16, .ref 12, .ref 23, .ref 17, .int (nI j)] [] hL Q) from ⟨fun c2 => ?_, fun c2 => ?_⟩)
        · skip
          have c2 : ¬ (qe (ys y)) = 0 := fun q => c2 ((nI_eq (a := (qe (ys y))) (b := 0) (by omega) (by omega)).mpr q)
          refine exf_go 3 (show rN hL 16 5 = true ∧ (wpC (d + 34) true 78 [.ref 23] hL (fun _ h' => Go (d + 34) true 54 116 [.ref 16, .ref 12, .ref 23, .ref 17, .int (nI j)] [] h' Q)) from ⟨(cyL.1.2.1.2.1), ?_⟩)
          refine c_settle ywL.1 cyL.2.1 (fun hs qs t5 tw tt => ?_)
          show Go (d + 34) true 54 116 [.ref 16, .ref 12, .ref 23, .ref 17, .int (nI j)] [] hs Q
          refine exf_go 1 (show Q (mk_) hs from ?_)
          have hY : rTx b n 900 y00 = y := hwh.trans (by first | exact rTx_n (by omega) | (rw [show 900 - j = 0 from by omega]; rfl))
          rw [hY] at k; exact k _ (qL.tr (qs.mono sSe_T)) ywL (cy_se cyL qs) t5 tw tt
        · skip
          have c2 : (qe (ys y)) = 0 := (nI_eq (a := (qe (ys y))) (b := 0) (by omega) (by omega)).mp (Classical.not_not.mp c2)
          refine exf_go 2 (show wpC (d + 34) true 55 [.ref 16] hL (fun r h' => Go (d + 34) true 54 71 [.ref 16, .ref 12, .ref 23, .ref 17, .int (nI j)] [r] h' Q) from ?_)
          refine c_kind cyL.1 ?_
          show Go (d + 34) true 54 71 [.ref 16, .ref 12, .ref 23, .ref 17, .int (nI j)] [.int (nI (ckd (kd b n (qi (ys y)))))] hL Q
          refine exf_go 1 (show ((nI (ckd (kd b n (qi (ys y))))) = 0 → Go (d + 34) true 54 109 [.ref 16, .ref 12, .ref 23, .ref 17, .int (nI j)] [] hL Q) ∧ (¬ ((nI (ckd (kd b n (qi (ys y))))) = 0) → Go (d + 34) true 54 74 [.ref 16, .ref 12, .ref 23, .ref 17, .int (nI j)] [] hL Q) from ⟨fun c3 => ?_, fun c3 => ?_⟩)
          · skip
            have c3 : (ckd (kd b n (qi (ys y)))) = 0 := (nI_eq (a := (ckd (kd b n (qi (ys y))))) (b := 0) (by omega) (by omega)).mp c3
            have c3 : kd b n (qi (ys y)) = 22 := (ckd_inj _ (by omega) 22 (by decide)).mp (show _ = 0 from by omega)
            refine exf_go 3 (show rN hL 16 5 = true ∧ (wpC (d + 34) true 78 [.ref 23] hL (fun _ h' => Go (d + 34) true 54 116 [.ref 16, .ref 12, .ref 23, .ref 17, .int (nI j)] [] h' Q)) from ⟨(cyL.1.2.1.2.1), ?_⟩)
            refine c_settle ywL.1 cyL.2.1 (fun hs qs t5 tw tt => ?_)
            show Go (d + 34) true 54 116 [.ref 16, .ref 12, .ref 23, .ref 17, .int (nI j)] [] hs Q
            refine exf_go 1 (show Q (mk_) hs from ?_)
            have hY : rTx b n 900 y00 = y := hwh.trans (by first | exact rTx_n (by omega) | (rw [show 900 - j = 0 from by omega]; rfl))
            rw [hY] at k; exact k _ (qL.tr (qs.mono sSe_T)) ywL (cy_se cyL qs) t5 tw tt
          · skip
            have c3 : ¬ (ckd (kd b n (qi (ys y)))) = 0 := fun q => c3 ((nI_eq (a := (ckd (kd b n (qi (ys y))))) (b := 0) (by omega) (by omega)).mpr q)
            have c3 : ¬ kd b n (qi (ys y)) = 22 := fun z => absurd (show ckd (kd b n (qi (ys y))) = 0 from by rw [z]; rfl) (by omega)
            refine exf_go 2 (show wpC (d + 34) true 60 [.ref 16] hL (fun r h' => Go (d + 34) true 54 78 [.ref 16, .ref 12, .ref 23, .ref 17, .int (nI j)] [r] h' Q) from ?_)
            refine c_line ywL cyL (by omega) (fun hl ql cyl zl => ?_) (fun hl ql cyl zl => ?_)
            · skip
              show Go (d + 34) true 54 78 [.ref 16, .ref 12, .ref 23, .ref 17, .int (nI j)] [.int 1] hl Q
              refine exf_go 1 (show ((1 : Int32) = 0 → Go (d + 34) true 54 103 [.ref 16, .ref 12, .ref 23, .ref 17, .int (nI j)] [] hl Q) ∧ (¬ ((1 : Int32) = 0) → Go (d + 34) true 54 81 [.ref 16, .ref 12, .ref 23, .ref 17, .int (nI j)] [] hl Q) from ⟨fun c4 => ?_, fun c4 => ?_⟩)
              · skip
                exact absurd c4 (by decide)
              · skip
                refine exf_go 3 (show wpC (d + 34) true 57 [.ref 16, .int 59] hl (fun r h' => Go (d + 34) true 54 87 [.ref 16, .ref 12, .ref 23, .ref 17, .int (nI j)] [r] h' Q) from ?_)
                rw [ck25]
                refine c_take (kk := 25) cyl.1 zl (by decide) (by decide) (by decide) (fun K87 h1 q1 cp1 => ?_) (fun K87 h2 q2 cp2 => ?_)
                · skip
                  show Go (d + 34) true 54 87 [.ref 16, .ref 12, .ref 23, .ref 17, .int (nI j)] [.int 1] h1 Q
                  refine exf_go 1 (show ((1 : Int32) = 0 → Go (d + 34) true 54 103 [.ref 16, .ref 12, .ref 23, .ref 17, .int (nI j)] [] h1 Q) ∧ (¬ ((1 : Int32) = 0) → Go (d + 34) true 54 90 [.ref 16, .ref 12, .ref 23, .ref 17, .int (nI j)] [] h1 Q) from ⟨fun c5 => ?_, fun c5 => ?_⟩)
                  · skip
                    exact absurd c5 (by decide)
                  · skip
                    refine exf_go 4 (show rN h1 16 5 = true ∧ (Go (d + 34) true 54 98 [.ref 16, .ref 12, .ref 23, .ref 17, .int (nI j)] [.int (rI h1 23 17), .ref 23] h1 Q) from ⟨(cp1.2.1.2.1), ?_⟩)
                    rw [show (rI h1 23 17 : Int32) = nI (sL (yg (rLn b n y))) from ((cr_rc (cyl.2.2 zl) q1).2.2.2.1)]
                    refine exf_go 2 (show Go (d + 34) true 54 100 [.ref 16, .ref 12, .ref 23, .ref 17, .int (nI j)] [.int ((nI (sL (yg (rLn b n y)))) + 1), .ref 23] h1 Q from ?_)
                    rw [show ((nI (sL (yg (rLn b n y)))) + 1 : Int32) = nI ((sL (yg (rLn b n y))) + 1) from nI_add (sL (yg (rLn b n y))) 1]
                    refine exf_go 2 (show Go (d + 34) true 54 106 [.ref 16, .ref 12, .ref 23, .ref 17, .int ((nI j) + 1)] [] (uI h1 23 17 (nI ((sL (yg (rLn b n y))) + 1))) Q from ?_)
                    rw [show ((nI j) + 1 : Int32) = nI (j + 1) from nI_add j 1]
                    refine exf_go 1 (show Go (d + 34) true 54 52 [.ref 16, .ref 12, .ref 23, .ref 17, .int (nI (j + 1))] [] (uI h1 23 17 (nI ((sL (yg (rLn b n y))) + 1))) Q from ?_)
                    have hY := rE_y zl K87 (y := rLn b n y)
                    have qF : Fq s2317 h1 (uI h1 23 17 (nI ((sL (yg (rLn b n y))) + 1))) := Fq.rfl'.uI' _ _ _ rfl
                    have qG : Fq sTx h1 (uI h1 23 17 (nI ((sL (yg (rLn b n y))) + 1))) := Fq.rfl'.uI' _ _ _ rfl
                    have coX := co_q cyl.2.1 (q1.mono sRc_Q); have crX := cr_rc (cyl.2.2 zl) q1
                    have ywl := (yw_ln ywL (by omega)).1
                    exact ih52 (j + 1) (rEn b n (rLn b n y)) _ (by omega) (by omega) (((qL.tr (ql.mono sLn_T)).tr (q1.mono (fun a i e => sRc_L a i (sLn_T a i e)))).tr qG) (by rw [hY]; exact ⟨cp_o cp1 qF (fun _ => ⟨rfl, rfl, rfl, rfl, rfl⟩) ⟨rfl, rfl, rfl, rfl, rfl⟩, ⟨coX.1, coX.2⟩, fun _ => ⟨crX.1, crX.2.1, crX.2.2.1, rfl, crX.2.2.2.2⟩⟩) (yw_en hn9 ywl).1 (by rw [hwh]; exact rTx_y (by omega) (by omega) (by omega))
                · skip
                  show Go (d + 34) true 54 87 [.ref 16, .ref 12, .ref 23, .ref 17, .int (nI j)] [.int 0] h2 Q
                  refine exf_go 1 (show ((0 : Int32) = 0 → Go (d + 34) true 54 103 [.ref 16, .ref 12, .ref 23, .ref 17, .int (nI j)] [] h2 Q) ∧ (¬ ((0 : Int32) = 0) → Go (d + 34) true 54 90 [.ref 16, .ref 12, .ref 23, .ref 17, .int (nI j)] [] h2 Q) from ⟨fun c6 => ?_, fun c6 => ?_⟩)
                  · skip
                    refine exf_go 1 (show Go (d + 34) true 54 106 [.ref 16, .ref 12, .ref 23, .ref 17, .int ((nI j) + 1)] [] h2 Q from ?_)
                    rw [show ((nI j) + 1 : Int32) = nI (j + 1) from nI_add j 1]
                    refine exf_go 1 (show Go (d + 34) true 54 52 [.ref 16, .ref 12, .ref 23, .ref 17, .int (nI (j + 1))] [] h2 Q from ?_)
                    have hY := rE_n K87 (y := rLn b n y)
                    have ywl := (yw_ln ywL (by omega)).1
                    exact ih52 (j + 1) (rEn b n (rLn b n y)) _ (by omega) (by omega) ((qL.tr (ql.mono sLn_T)).tr (q2.mono (fun a i e => sRc_L a i (sLn_T a i e)))) (by rw [hY]; exact ⟨cp2, co_q cyl.2.1 (q2.mono sRc_Q), fun z => absurd z (fl_ne (by decide))⟩) (yw_en hn9 ywl).1 (by rw [hwh]; exact rTx_y (by omega) (by omega) (by omega))
                  · skip
                    exact absurd (by decide) c6
            · skip
              show Go (d + 34) true 54 78 [.ref 16, .ref 12, .ref 23, .ref 17, .int (nI j)] [.int 0] hl Q
              refine exf_go 1 (show ((0 : Int32) = 0 → Go (d + 34) true 54 103 [.ref 16, .ref 12, .ref 23, .ref 17, .int (nI j)] [] hl Q) ∧ (¬ ((0 : Int32) = 0) → Go (d + 34) true 54 81 [.ref 16, .ref 12, .ref 23, .ref 17, .int (nI j)] [] hl Q) from ⟨fun c7 => ?_, fun c7 => ?_⟩)
              · skip
                refine exf_go 1 (show Go (d + 34) true 54 106 [.ref 16, .ref 12, .ref 23, .ref 17, .int ((nI j) + 1)] [] hl Q from ?_)
                rw [show ((nI j) + 1 : Int32) = nI (j + 1) from nI_add j 1]
                refine exf_go 1 (show Go (d + 34) true 54 52 [.ref 16, .ref 12, .ref 23, .ref 17, .int (nI (j + 1))] [] hl Q from ?_)
                have hY : rEn b n (rLn b n y) = rLn b n y := rE_f zl
                have ywl := (yw_ln ywL (by omega)).1
                exact ih52 (j + 1) (rEn b n (rLn b n y)) _ (by omega) (by omega) (qL.tr (ql.mono sLn_T)) (by rw [hY]; exact cyl) (yw_en hn9 ywl).1 (by rw [hwh]; exact rTx_y (by omega) (by omega) (by omega))
              · skip
                exact absurd (by decide) c7
  have qB : Fq sTx h1 (uI (uI h1 17 2 0) 17 4 0) := (Fq.rfl'.uI' _ _ _ rfl).uI' _ _ _ rfl
  have q0 : Fq sTx (hN3 h) (uI (uI h1 17 2 0) 17 4 0) := (qA.tr (q1.mono sCl_T)).tr qB
  have tkN : TK b n N (hN3 h) := ⟨tk.1, tk.2⟩
  have tk0 := tk_o tkN q0 (fun _ => ⟨rfl, rfl, rfl⟩) rfl
  have u16 : ∀ i, rI h1 16 i = rI hA 16 i := fun i => (q1.1 16 i rfl).1
  have cy0 : CY b n N y00 (uI (uI h1 17 2 0) 17 4 0) := ⟨⟨⟨tk0, Nat.zero_le _, hn9, Nat.zero_le _⟩, ⟨(q0.N 16 4).trans rfl, (q0.N 16 5).trans rfl, (q0.N 16 6).trans rfl⟩, ⟨(u16 0).trans rA.1, (u16 2).trans rA.2.2.1, fun _ => (u16 1).trans rA.2.1, fun z => absurd rfl z⟩, rfl, fun j hj => absurd hj (Nat.not_lt_zero _)⟩, ⟨⟨c0.1.1, c0.1.2.1, c0.1.2.2, rfl⟩, fun w hw => c0.2.1 w hw, fun c hc => absurd (show c < 0 from hc) (Nat.not_lt_zero _), fun m hm => absurd (show m < 0 from hm) (Nat.not_lt_zero _)⟩, fun _ => ⟨c0.2.2.1, c0.2.2.2.1, c0.2.2.2.2.1, c0.2.2.2.2.2, (u16 3).trans rA.2.2.2⟩⟩
  exact L52 (900 + 1) 0 y00 _ (by omega) (by omega) q0 cy0 (yw_00 b n) rfl
