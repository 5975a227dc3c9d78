/-! The model is fed. -/
def sTm (a x : Nat) : Bool := Nat.beq a 133 || (Nat.beq a 130 && (Nat.beq x 5 || Nat.beq x 0))
theorem m_feed {d : Nat} {h : Hp} {t : TpG} {a b c dd ee : Int32} {Q : Po} (mt : MTP t h) (k : ∀ h1, Fq sTm h h1 → MTP (dFeed t a b c dd ee).1 h1 → Q (.int (dFeed t a b c dd ee).2) h1) : wpC (d + 1) true 186 [.ref 130, .int a, .int b, .int c, .int dd, .int ee] h Q := by
  have ht9 := mt.1.1
  refine go_in rfl ?_
  refine exf_go 5 (show Go d true 186 9 [.ref 130, .int a, .int b, .int c, .int dd, .int ee, mk_, mk_] [.int (rI h 130 5)] (uI h 130 0 0) Q from ?_)
  rw [show (rI h 130 5 : Int32) = nI t.1 from mt.2.1]
  refine exf_go 2 (show Go d true 186 12 [.ref 130, .int a, .int b, .int c, .int dd, .int ee, mk_, mk_] [.int ((nI t.1) + 20)] (uI h 130 0 0) Q from ?_)
  rw [show ((nI t.1) + 20 : Int32) = nI (t.1 + 20) from nI_add t.1 20]
  refine exf_go 2 (show ((nI (t.1 + 20)) ≤ 900 → Go d true 186 21 [.ref 130, .int a, .int b, .int c, .int dd, .int ee, mk_, mk_] [] (uI h 130 0 0) Q) ∧ (¬ ((nI (t.1 + 20)) ≤ 900) → Go d true 186 18 [.ref 130, .int a, .int b, .int c, .int dd, .int ee, mk_, mk_] [] (uI h 130 0 0) Q) from ⟨fun c1 => ?_, fun c1 => ?_⟩)
  · skip
    have c1 : (t.1 + 20) ≤ 900 := (nI_leI (a := (t.1 + 20)) (b := 900) (by omega) (by omega)).mp c1
    refine exf_go 2 (show Go d true 186 24 [.ref 130, .int a, .int b, .int c, .int dd, .int ee, .int 0, mk_] [] (uI h 130 0 0) Q from ?_)
    have L24 : ∀ (k24 : Nat) (z7 : Value) (j : Nat) (h1 : Hp), (20 - j) < k24 → (j ≤ 20) → (Fq sTm h h1) → (rI h1 130 5 = nI (t.1 + j)) → (∀ i, i < t.1 → rI h1 133 i = rI h 133 i) → (∀ q, q < j → rI h1 133 (t.1 + q) = nI (byt (five a b c dd ee q) (q % 4))) → Go d true 186 24 [.ref 130, .int a, .int b, .int c, .int dd, .int ee, .int (nI j), z7] [] h1 Q := by
      intro k24
      induction k24 with
      | zero => intro z7 j h1 hk; exact absurd hk (Nat.not_lt_zero _)
      | succ k24 ih24 =>
        intro z7 j h1 hk hj q1 hn hu hv
        refine exf_go 3 (show (20 ≤ (nI j) → Go d true 186 121 [.ref 130, .int a, .int b, .int c, .int dd, .int ee, .int (nI j), z7] [] h1 Q) ∧ (¬ (20 ≤ (nI j)) → Go d true 186 31 [.ref 130, .int a, .int b, .int c, .int dd, .int ee, .int (nI j), z7] [] h1 Q) from ⟨fun c2 => ?_, fun c2 => ?_⟩)
        · skip
          have c2 : 20 ≤ j := (nI_leI (a := 20) (b := j) (by omega) (by omega)).mp c2
          refine exf_go 2 (show Go d true 186 125 [.ref 130, .int a, .int b, .int c, .int dd, .int ee, .int (nI j), z7] [.int (rI h1 130 5)] h1 Q from ?_)
          rw [show (rI h1 130 5 : Int32) = nI (t.1 + j) from hn]
          refine exf_go 1 (show Q (.int (nI (t.1 + j))) h1 from ?_)
          have e : j = 20 := by omega
          subst e
          rw [dFeed, if_pos (by omega)] at k
          refine k _ q1 ⟨⟨by show t.1 + 20 ≤ 900; omega, fun i => ?_⟩, hn, fun i hi => ?_⟩
          · show (if i < t.1 then t.2 i else _) < 256
            split
            · exact mt.1.2 i
            · exact byt_b _ _
          · show rI h1 133 i = nI (if i < t.1 then t.2 i else byt (five a b c dd ee (i - t.1)) ((i - t.1) % 4))
            have hi2 : i < t.1 + 20 := hi
            by_cases z : i < t.1
            · rw [if_pos z, hu i z]; exact mt.2.2 i z
            · have h2 := hv (i - t.1) (by omega)
              rw [show t.1 + (i - t.1) = i from by omega] at h2
              rw [if_neg z, h2]
        · skip
          have c2 : ¬ 20 ≤ j := fun q => c2 ((nI_leI (a := 20) (b := j) (by omega) (by omega)).mpr q)
          refine exf_go 3 (show (4 ≤ (nI j) → Go d true 186 41 [.ref 130, .int a, .int b, .int c, .int dd, .int ee, .int (nI j), z7] [] h1 Q) ∧ (¬ (4 ≤ (nI j)) → Go d true 186 37 [.ref 130, .int a, .int b, .int c, .int dd, .int ee, .int (nI j), z7] [] h1 Q) from ⟨fun c3 => ?_, fun c3 => ?_⟩)
          · skip
            have c3 : 4 ≤ j := (nI_leI (a := 4) (b := j) (by omega) (by omega)).mp c3
            refine exf_go 3 (show (8 ≤ (nI j) → Go d true 186 52 [.ref 130, .int a, .int b, .int c, .int dd, .int ee, .int (nI j), z7] [] h1 Q) ∧ (¬ (8 ≤ (nI j)) → Go d true 186 48 [.ref 130, .int a, .int b, .int c, .int dd, .int ee, .int (nI j), z7] [] h1 Q) from ⟨fun c4 => ?_, fun c4 => ?_⟩)
            · skip
              have c4 : 8 ≤ j := (nI_leI (a := 8) (b := j) (by omega) (by omega)).mp c4
              refine exf_go 3 (show (12 ≤ (nI j) → Go d true 186 63 [.ref 130, .int a, .int b, .int c, .int dd, .int ee, .int (nI j), z7] [] h1 Q) ∧ (¬ (12 ≤ (nI j)) → Go d true 186 59 [.ref 130, .int a, .int b, .int c, .int dd, .int ee, .int (nI j), z7] [] h1 Q) from ⟨fun c5 => ?_, fun c5 => ?_⟩)
              · skip
                have c5 : 12 ≤ j := (nI_leI (a := 12) (b := j) (by omega) (by omega)).mp c5
                refine exf_go 3 (show (16 ≤ (nI j) → Go d true 186 75 [.ref 130, .int a, .int b, .int c, .int dd, .int ee, .int (nI j), z7] [] h1 Q) ∧ (¬ (16 ≤ (nI j)) → Go d true 186 70 [.ref 130, .int a, .int b, .int c, .int dd, .int ee, .int (nI j), z7] [] h1 Q) from ⟨fun c6 => ?_, fun c6 => ?_⟩)
                · skip
                  have c6 : 16 ≤ j := (nI_leI (a := 16) (b := j) (by omega) (by omega)).mp c6
                  refine exf_go 6 (show Go d true 186 87 [.ref 130, .int a, .int b, .int c, .int dd, .int ee, .int (nI j), .int ee] [.int (rI h1 130 5), .ref 133] h1 Q from ?_)
                  rw [show (rI h1 130 5 : Int32) = nI (t.1 + j) from hn]
                  refine exf_go 6 (show ¬ 4 = 0 ∧ (Go d true 186 97 [.ref 130, .int a, .int b, .int c, .int dd, .int ee, .int (nI j), .int ee] [.int ((nI j) - (nI j) / 4 * 4), .int 8, .int 24, .int ee, .int (nI (t.1 + j)), .ref 133] h1 Q) from ⟨(by decide), ?_⟩)
                  rw [show ((nI j) - (nI j) / 4 * 4 : Int32) = nI (j % 4) from pk_rem (a := j) (d := 4) (by omega) (by omega) (by omega)]
                  refine exf_go 1 (show Go d true 186 98 [.ref 130, .int a, .int b, .int c, .int dd, .int ee, .int (nI j), .int ee] [.int (8 * (nI (j % 4))), .int 24, .int ee, .int (nI (t.1 + j)), .ref 133] h1 Q from ?_)
                  rw [show (8 * (nI (j % 4)) : Int32) = nI (8 * (j % 4)) from pk_mul 8 (j % 4)]
                  refine exf_go 1 (show Go d true 186 99 [.ref 130, .int a, .int b, .int c, .int dd, .int ee, .int (nI j), .int ee] [.int (24 - (nI (8 * (j % 4)))), .int ee, .int (nI (t.1 + j)), .ref 133] h1 Q from ?_)
                  rw [show (24 - (nI (8 * (j % 4))) : Int32) = nI (24 - (8 * (j % 4))) from pk_sub (a := 24) (b := (8 * (j % 4))) (by omega)]
                  refine exf_go 3 (show Go d true 186 104 [.ref 130, .int a, .int b, .int c, .int dd, .int ee, .int (nI j), .int ee] [.int ((ee >>> ((nI (24 - (8 * (j % 4)))) &&& 31)) &&& 255), .int (nI (t.1 + j)), .ref 133] h1 Q from ?_)
                  rw [show ((ee >>> ((nI (24 - (8 * (j % 4)))) &&& 31)) &&& 255 : Int32) = nI (byt ee (j % 4)) from byt_m ee (j % 4)]
                  refine exf_go 4 (show vp_in (nI (t.1 + j)) 900 ∧ (Go d true 186 110 [.ref 130, .int a, .int b, .int c, .int dd, .int ee, .int (nI j), .int ee] [.int (rI h1 130 5), .ref 130] (uI h1 133 ((nI (t.1 + j)).toNatClampNeg) (nI (byt ee (j % 4)))) Q) from ⟨(vp_in_nI (by omega) (by omega)), ?_⟩)
                  rw [show (rI h1 130 5 : Int32) = nI (t.1 + j) from hn]
                  refine exf_go 2 (show Go d true 186 112 [.ref 130, .int a, .int b, .int c, .int dd, .int ee, .int (nI j), .int ee] [.int ((nI (t.1 + j)) + 1), .ref 130] (uI h1 133 ((nI (t.1 + j)).toNatClampNeg) (nI (byt ee (j % 4)))) Q from ?_)
                  rw [show ((nI (t.1 + j)) + 1 : Int32) = nI ((t.1 + j) + 1) from nI_add (t.1 + j) 1]
                  refine exf_go 2 (show Go d true 186 118 [.ref 130, .int a, .int b, .int c, .int dd, .int ee, .int ((nI j) + 1), .int ee] [] (uI (uI h1 133 ((nI (t.1 + j)).toNatClampNeg) (nI (byt ee (j % 4)))) 130 5 (nI ((t.1 + j) + 1))) Q from ?_)
                  rw [show ((nI j) + 1 : Int32) = nI (j + 1) from nI_add j 1]
                  refine exf_go 1 (show Go d true 186 24 [.ref 130, .int a, .int b, .int c, .int dd, .int ee, .int (nI (j + 1)), .int ee] [] (uI (uI h1 133 ((nI (t.1 + j)).toNatClampNeg) (nI (byt ee (j % 4)))) 130 5 (nI ((t.1 + j) + 1))) Q from ?_)
                  exact ih24 (.int ee) (j + 1) _ (by omega) (by omega) ((q1.uI' _ _ _ rfl).uI' _ _ _ rfl) (rI_uI_eq.trans (congrArg nI (by omega))) (fun i hi => by rw [rI_uI_ne (by decide), nI_clamp (by omega), rI_uI_at (by omega)]; exact hu i hi) (fun q hq => by rw [rI_uI_ne (by decide), nI_clamp (by omega)]; exact (Decidable.em (q = j)).elim (fun z => by rw [z, rI_uI_eq, show five a b c dd ee j = ee from by unfold five; repeat' (first | rw [if_pos (by omega)] | rw [if_neg (by omega)])]) (fun z => by rw [rI_uI_at (by omega)]; exact hv q (by omega)))
                · skip
                  have c6 : ¬ 16 ≤ j := fun q => c6 ((nI_leI (a := 16) (b := j) (by omega) (by omega)).mpr q)
                  refine exf_go 7 (show Go d true 186 87 [.ref 130, .int a, .int b, .int c, .int dd, .int ee, .int (nI j), .int dd] [.int (rI h1 130 5), .ref 133] h1 Q from ?_)
                  rw [show (rI h1 130 5 : Int32) = nI (t.1 + j) from hn]
                  refine exf_go 6 (show ¬ 4 = 0 ∧ (Go d true 186 97 [.ref 130, .int a, .int b, .int c, .int dd, .int ee, .int (nI j), .int dd] [.int ((nI j) - (nI j) / 4 * 4), .int 8, .int 24, .int dd, .int (nI (t.1 + j)), .ref 133] h1 Q) from ⟨(by decide), ?_⟩)
                  rw [show ((nI j) - (nI j) / 4 * 4 : Int32) = nI (j % 4) from pk_rem (a := j) (d := 4) (by omega) (by omega) (by omega)]
                  refine exf_go 1 (show Go d true 186 98 [.ref 130, .int a, .int b, .int c, .int dd, .int ee, .int (nI j), .int dd] [.int (8 * (nI (j % 4))), .int 24, .int dd, .int (nI (t.1 + j)), .ref 133] h1 Q from ?_)
                  rw [show (8 * (nI (j % 4)) : Int32) = nI (8 * (j % 4)) from pk_mul 8 (j % 4)]
                  refine exf_go 1 (show Go d true 186 99 [.ref 130, .int a, .int b, .int c, .int dd, .int ee, .int (nI j), .int dd] [.int (24 - (nI (8 * (j % 4)))), .int dd, .int (nI (t.1 + j)), .ref 133] h1 Q from ?_)
                  rw [show (24 - (nI (8 * (j % 4))) : Int32) = nI (24 - (8 * (j % 4))) from pk_sub (a := 24) (b := (8 * (j % 4))) (by omega)]
                  refine exf_go 3 (show Go d true 186 104 [.ref 130, .int a, .int b, .int c, .int dd, .int ee, .int (nI j), .int dd] [.int ((dd >>> ((nI (24 - (8 * (j % 4)))) &&& 31)) &&& 255), .int (nI (t.1 + j)), .ref 133] h1 Q from ?_)
                  rw [show ((dd >>> ((nI (24 - (8 * (j % 4)))) &&& 31)) &&& 255 : Int32) = nI (byt dd (j % 4)) from byt_m dd (j % 4)]
                  refine exf_go 4 (show vp_in (nI (t.1 + j)) 900 ∧ (Go d true 186 110 [.ref 130, .int a, .int b, .int c, .int dd, .int ee, .int (nI j), .int dd] [.int (rI h1 130 5), .ref 130] (uI h1 133 ((nI (t.1 + j)).toNatClampNeg) (nI (byt dd (j % 4)))) Q) from ⟨(vp_in_nI (by omega) (by omega)), ?_⟩)
                  rw [show (rI h1 130 5 : Int32) = nI (t.1 + j) from hn]
                  refine exf_go 2 (show Go d true 186 112 [.ref 130, .int a, .int b, .int c, .int dd, .int ee, .int (nI j), .int dd] [.int ((nI (t.1 + j)) + 1), .ref 130] (uI h1 133 ((nI (t.1 + j)).toNatClampNeg) (nI (byt dd (j % 4)))) Q from ?_)
                  rw [show ((nI (t.1 + j)) + 1 : Int32) = nI ((t.1 + j) + 1) from nI_add (t.1 + j) 1]
                  refine exf_go 2 (show Go d true 186 118 [.ref 130, .int a, .int b, .int c, .int dd, .int ee, .int ((nI j) + 1), .int dd] [] (uI (uI h1 133 ((nI (t.1 + j)).toNatClampNeg) (nI (byt dd (j % 4)))) 130 5 (nI ((t.1 + j) + 1))) Q from ?_)
                  rw [show ((nI j) + 1 : Int32) = nI (j + 1) from nI_add j 1]
                  refine exf_go 1 (show Go d true 186 24 [.ref 130, .int a, .int b, .int c, .int dd, .int ee, .int (nI (j + 1)), .int dd] [] (uI (uI h1 133 ((nI (t.1 + j)).toNatClampNeg) (nI (byt dd (j % 4)))) 130 5 (nI ((t.1 + j) + 1))) Q from ?_)
                  exact ih24 (.int dd) (j + 1) _ (by omega) (by omega) ((q1.uI' _ _ _ rfl).uI' _ _ _ rfl) (rI_uI_eq.trans (congrArg nI (by omega))) (fun i hi => by rw [rI_uI_ne (by decide), nI_clamp (by omega), rI_uI_at (by omega)]; exact hu i hi) (fun q hq => by rw [rI_uI_ne (by decide), nI_clamp (by omega)]; exact (Decidable.em (q = j)).elim (fun z => by rw [z, rI_uI_eq, show five a b c dd ee j = dd from by unfold five; repeat' (first | rw [if_pos (by omega)] | rw [if_neg (by omega)])]) (fun z => by rw [rI_uI_at (by omega)]; exact hv q (by omega)))
              · skip
                have c5 : ¬ 12 ≤ j := fun q => c5 ((nI_leI (a := 12) (b := j) (by omega) (by omega)).mpr q)
                refine exf_go 7 (show Go d true 186 87 [.ref 130, .int a, .int b, .int c, .int dd, .int ee, .int (nI j), .int c] [.int (rI h1 130 5), .ref 133] h1 Q from ?_)
                rw [show (rI h1 130 5 : Int32) = nI (t.1 + j) from hn]
                refine exf_go 6 (show ¬ 4 = 0 ∧ (Go d true 186 97 [.ref 130, .int a, .int b, .int c, .int dd, .int ee, .int (nI j), .int c] [.int ((nI j) - (nI j) / 4 * 4), .int 8, .int 24, .int c, .int (nI (t.1 + j)), .ref 133] h1 Q) from ⟨(by decide), ?_⟩)
                rw [show ((nI j) - (nI j) / 4 * 4 : Int32) = nI (j % 4) from pk_rem (a := j) (d := 4) (by omega) (by omega) (by omega)]
                refine exf_go 1 (show Go d true 186 98 [.ref 130, .int a, .int b, .int c, .int dd, .int ee, .int (nI j), .int c] [.int (8 * (nI (j % 4))), .int 24, .int c, .int (nI (t.1 + j)), .ref 133] h1 Q from ?_)
                rw [show (8 * (nI (j % 4)) : Int32) = nI (8 * (j % 4)) from pk_mul 8 (j % 4)]
                refine exf_go 1 (show Go d true 186 99 [.ref 130, .int a, .int b, .int c, .int dd, .int ee, .int (nI j), .int c] [.int (24 - (nI (8 * (j % 4)))), .int c, .int (nI (t.1 + j)), .ref 133] h1 Q from ?_)
                rw [show (24 - (nI (8 * (j % 4))) : Int32) = nI (24 - (8 * (j % 4))) from pk_sub (a := 24) (b := (8 * (j % 4))) (by omega)]
                refine exf_go 3 (show Go d true 186 104 [.ref 130, .int a, .int b, .int c, .int dd, .int ee, .int (nI j), .int c] [.int ((c >>> ((nI (24 - (8 * (j % 4)))) &&& 31)) &&& 255), .int (nI (t.1 + j)), .ref 133] h1 Q from ?_)
                rw [show ((c >>> ((nI (24 - (8 * (j % 4)))) &&& 31)) &&& 255 : Int32) = nI (byt c (j % 4)) from byt_m c (j % 4)]
                refine exf_go 4 (show vp_in (nI (t.1 + j)) 900 ∧ (Go d true 186 110 [.ref 130, .int a, .int b, .int c, .int dd, .int ee, .int (nI j), .int c] [.int (rI h1 130 5), .ref 130] (uI h1 133 ((nI (t.1 + j)).toNatClampNeg) (nI (byt c (j % 4)))) Q) from ⟨(vp_in_nI (by omega) (by omega)), ?_⟩)
                rw [show (rI h1 130 5 : Int32) = nI (t.1 + j) from hn]
                refine exf_go 2 (show Go d true 186 112 [.ref 130, .int a, .int b, .int c, .int dd, .int ee, .int (nI j), .int c] [.int ((nI (t.1 + j)) + 1), .ref 130] (uI h1 133 ((nI (t.1 + j)).toNatClampNeg) (nI (byt c (j % 4)))) Q from ?_)
                rw [show ((nI (t.1 + j)) + 1 : Int32) = nI ((t.1 + j) + 1) from nI_add (t.1 + j) 1]
                refine exf_go 2 (show Go d true 186 118 [.ref 130, .int a, .int b, .int c, .int dd, .int ee, .int ((nI j) + 1), .int c] [] (uI (uI h1 133 ((nI (t.1 + j)).toNatClampNeg) (nI (byt c (j % 4)))) 130 5 (nI ((t.1 + j) + 1))) Q from ?_)
                rw [show ((nI j) + 1 : Int32) = nI (j + 1) from nI_add j 1]
                refine exf_go 1 (show Go d true 186 24 [.ref 130, .int a, .int b, .int c, .int dd, .int ee, .int (nI (j + 1)), .int c] [] (uI (uI h1 133 ((nI (t.1 + j)).toNatClampNeg) (nI (byt c (j % 4)))) 130 5 (nI ((t.1 + j) + 1))) Q from ?_)
                exact ih24 (.int c) (j + 1) _ (by omega) (by omega) ((q1.uI' _ _ _ rfl).uI' _ _ _ rfl) (rI_uI_eq.trans (congrArg nI (by omega))) (fun i hi => by rw [rI_uI_ne (by decide), nI_clamp (by omega), rI_uI_at (by omega)]; exact hu i hi) (fun q hq => by rw [rI_uI_ne (by decide), nI_clamp (by omega)]; exact (Decidable.em (q = j)).elim (fun z => by rw [z, rI_uI_eq, show five a b c dd ee j = c from by unfold five; repeat' (first | rw [if_pos (by omega)] | rw [if_neg (by omega)])]) (fun z => by rw [rI_uI_at (by omega)]; exact hv q (by omega)))
            · skip
              have c4 : ¬ 8 ≤ j := fun q => c4 ((nI_leI (a := 8) (b := j) (by omega) (by omega)).mpr q)
              refine exf_go 7 (show Go d true 186 87 [.ref 130, .int a, .int b, .int c, .int dd, .int ee, .int (nI j), .int b] [.int (rI h1 130 5), .ref 133] h1 Q from ?_)
              rw [show (rI h1 130 5 : Int32) = nI (t.1 + j) from hn]
              refine exf_go 6 (show ¬ 4 = 0 ∧ (Go d true 186 97 [.ref 130, .int a, .int b, .int c, .int dd, .int ee, .int (nI j), .int b] [.int ((nI j) - (nI j) / 4 * 4), .int 8, .int 24, .int b, .int (nI (t.1 + j)), .ref 133] h1 Q) from ⟨(by decide), ?_⟩)
              rw [show ((nI j) - (nI j) / 4 * 4 : Int32) = nI (j % 4) from pk_rem (a := j) (d := 4) (by omega) (by omega) (by omega)]
              refine exf_go 1 (show Go d true 186 98 [.ref 130, .int a, .int b, .int c, .int dd, .int ee, .int (nI j), .int b] [.int (8 * (nI (j % 4))), .int 24, .int b, .int (nI (t.1 + j)), .ref 133] h1 Q from ?_)
              rw [show (8 * (nI (j % 4)) : Int32) = nI (8 * (j % 4)) from pk_mul 8 (j % 4)]
              refine exf_go 1 (show Go d true 186 99 [.ref 130, .int a, .int b, .int c, .int dd, .int ee, .int (nI j), .int b] [.int (24 - (nI (8 * (j % 4)))), .int b, .int (nI (t.1 + j)), .ref 133] h1 Q from ?_)
              rw [show (24 - (nI (8 * (j % 4))) : Int32) = nI (24 - (8 * (j % 4))) from pk_sub (a := 24) (b := (8 * (j % 4))) (by omega)]
              refine exf_go 3 (show Go d true 186 104 [.ref 130, .int a, .int b, .int c, .int dd, .int ee, .int (nI j), .int b] [.int ((b >>> ((nI (24 - (8 * (j % 4)))) &&& 31)) &&& 255), .int (nI (t.1 + j)), .ref 133] h1 Q from ?_)
              rw [show ((b >>> ((nI (24 - (8 * (j % 4)))) &&& 31)) &&& 255 : Int32) = nI (byt b (j % 4)) from byt_m b (j % 4)]
              refine exf_go 4 (show vp_in (nI (t.1 + j)) 900 ∧ (Go d true 186 110 [.ref 130, .int a, .int b, .int c, .int dd, .int ee, .int (nI j), .int b] [.int (rI h1 130 5), .ref 130] (uI h1 133 ((nI (t.1 + j)).toNatClampNeg) (nI (byt b (j % 4)))) Q) from ⟨(vp_in_nI (by omega) (by omega)), ?_⟩)
              rw [show (rI h1 130 5 : Int32) = nI (t.1 + j) from hn]
              refine exf_go 2 (show Go d true 186 112 [.ref 130, .int a, .int b, .int c, .int dd, .int ee, .int (nI j), .int b] [.int ((nI (t.1 + j)) + 1), .ref 130] (uI h1 133 ((nI (t.1 + j)).toNatClampNeg) (nI (byt b (j % 4)))) Q from ?_)
              rw [show ((nI (t.1 + j)) + 1 : Int32) = nI ((t.1 + j) + 1) from nI_add (t.1 + j) 1]
              refine exf_go 2 (show Go d true 186 118 [.ref 130, .int a, .int b, .int c, .int dd, .int ee, .int ((nI j) + 1), .int b] [] (uI (uI h1 133 ((nI (t.1 + j)).toNatClampNeg) (nI (byt b (j % 4)))) 130 5 (nI ((t.1 + j) + 1))) Q from ?_)
              rw [show ((nI j) + 1 : Int32) = nI (j + 1) from nI_add j 1]
              refine exf_go 1 (show Go d true 186 24 [.ref 130, .int a, .int b, .int c, .int dd, .int ee, .int (nI (j + 1)), .int b] [] (uI (uI h1 133 ((nI (t.1 + j)).toNatClampNeg) (nI (byt b (j % 4)))) 130 5 (nI ((t.1 + j) + 1))) Q from ?_)
              exact ih24 (.int b) (j + 1) _ (by omega) (by omega) ((q1.uI' _ _ _ rfl).uI' _ _ _ rfl) (rI_uI_eq.trans (congrArg nI (by omega))) (fun i hi => by rw [rI_uI_ne (by decide), nI_clamp (by omega), rI_uI_at (by omega)]; exact hu i hi) (fun q hq => by rw [rI_uI_ne (by decide), nI_clamp (by omega)]; exact (Decidable.em (q = j)).elim (fun z => by rw [z, rI_uI_eq, show five a b c dd ee j = b from by unfold five; repeat' (first | rw [if_pos (by omega)] | rw [if_neg (by omega)])]) (fun z => by rw [rI_uI_at (by omega)]; exact hv q (by omega)))
          · skip
            have c3 : ¬ 4 ≤ j := fun q => c3 ((nI_leI (a := 4) (b := j) (by omega) (by omega)).mpr q)
            refine exf_go 7 (show Go d true 186 87 [.ref 130, .int a, .int b, .int c, .int dd, .int ee, .int (nI j), .int a] [.int (rI h1 130 5), .ref 133] h1 Q from ?_)
            rw [show (rI h1 130 5 : Int32) = nI (t.1 + j) from hn]
            refine exf_go 6 (show ¬ 4 = 0 ∧ (Go d true 186 97 [.ref 130, .int a, .int b, .int c, .int dd, .int ee, .int (nI j), .int a] [.int ((nI j) - (nI j) / 4 * 4), .int 8, .int 24, .int a, .int (nI (t.1 + j)), .ref 133] h1 Q) from ⟨(by decide), ?_⟩)
            rw [show ((nI j) - (nI j) / 4 * 4 : Int32) = nI (j % 4) from pk_rem (a := j) (d := 4) (by omega) (by omega) (by omega)]
            refine exf_go 1 (show Go d true 186 98 [.ref 130, .int a, .int b, .int c, .int dd, .int ee, .int (nI j), .int a] [.int (8 * (nI (j % 4))), .int 24, .int a, .int (nI (t.1 + j)), .ref 133] h1 Q from ?_)
            rw [show (8 * (nI (j % 4)) : Int32) = nI (8 * (j % 4)) from pk_mul 8 (j % 4)]
            refine exf_go 1 (show Go d true 186 99 [.ref 130, .int a, .int b, .int c, .int dd, .int ee, .int (nI j), .int a] [.int (24 - (nI (8 * (j % 4)))), .int a, .int (nI (t.1 + j)), .ref 133] h1 Q from ?_)
            rw [show (24 - (nI (8 * (j % 4))) : Int32) = nI (24 - (8 * (j % 4))) from pk_sub (a := 24) (b := (8 * (j % 4))) (by omega)]
            refine exf_go 3 (show Go d true 186 104 [.ref 130, .int a, .int b, .int c, .int dd, .int ee, .int (nI j), .int a] [.int ((a >>> ((nI (24 - (8 * (j % 4)))) &&& 31)) &&& 255), .int (nI (t.1 + j)), .ref 133] h1 Q from ?_)
            rw [show ((a >>> ((nI (24 - (8 * (j % 4)))) &&& 31)) &&& 255 : Int32) = nI (byt a (j % 4)) from byt_m a (j % 4)]
            refine exf_go 4 (show vp_in (nI (t.1 + j)) 900 ∧ (Go d true 186 110 [.ref 130, .int a, .int b, .int c, .int dd, .int ee, .int (nI j), .int a] [.int (rI h1 130 5), .ref 130] (uI h1 133 ((nI (t.1 + j)).toNatClampNeg) (nI (byt a (j % 4)))) Q) from ⟨(vp_in_nI (by omega) (by omega)), ?_⟩)
            rw [show (rI h1 130 5 : Int32) = nI (t.1 + j) from hn]
            refine exf_go 2 (show Go d true 186 112 [.ref 130, .int a, .int b, .int c, .int dd, .int ee, .int (nI j), .int a] [.int ((nI (t.1 + j)) + 1), .ref 130] (uI h1 133 ((nI (t.1 + j)).toNatClampNeg) (nI (byt a (j % 4)))) Q from ?_)
            rw [show ((nI (t.1 + j)) + 1 : Int32) = nI ((t.1 + j) + 1) from nI_add (t.1 + j) 1]
            refine exf_go 2 (show Go d true 186 118 [.ref 130, .int a, .int b, .int c, .int dd, .int ee, .int ((nI j) + 1), .int a] [] (uI (uI h1 133 ((nI (t.1 + j)).toNatClampNeg) (nI (byt a (j % 4)))) 130 5 (nI ((t.1 + j) + 1))) Q from ?_)
            rw [show ((nI j) + 1 : Int32) = nI (j + 1) from nI_add j 1]
            refine exf_go 1 (show Go d true 186 24 [.ref 130, .int a, .int b, .int c, .int dd, .int ee, .int (nI (j + 1)), .int a] [] (uI (uI h1 133 ((nI (t.1 + j)).toNatClampNeg) (nI (byt a (j % 4)))) 130 5 (nI ((t.1 + j) + 1))) Q from ?_)
            exact ih24 (.int a) (j + 1) _ (by omega) (by omega) ((q1.uI' _ _ _ rfl).uI' _ _ _ rfl) (rI_uI_eq.trans (congrArg nI (by omega))) (fun i hi => by rw [rI_uI_ne (by decide), nI_clamp (by omega), rI_uI_at (by omega)]; exact hu i hi) (fun q hq => by rw [rI_uI_ne (by decide), nI_clamp (by omega)]; exact (Decidable.em (q = j)).elim (fun z => by rw [z, rI_uI_eq, show five a b c dd ee j = a from by unfold five; repeat' (first | rw [if_pos (by omega)] | rw [if_neg (by omega)])]) (fun z => by rw [rI_uI_at (by omega)]; exact hv q (by omega)))
    exact L24 (20 + 1) mk_ 0 _ (by omega) (by omega) (Fq.uI' Fq.rfl' _ _ _ rfl) mt.2.1 (fun i hi => rfl) (fun q hq => absurd hq (Nat.not_lt_zero _))
  · skip
    have c1 : ¬ (t.1 + 20) ≤ 900 := fun q => c1 ((nI_leI (a := (t.1 + 20)) (b := 900) (by omega) (by omega)).mpr q)
    refine exf_go 2 (show Q (.int (-5)) (uI h 130 0 0) from ?_)
    rw [dFeed, if_neg (by omega)] at k; exact k _ (Fq.uI' Fq.rfl' _ _ _ rfl) ⟨mt.1, mt.2.1, mt.2.2⟩
