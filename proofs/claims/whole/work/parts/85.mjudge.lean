/-! The model: evenings. -/
theorem m_lays1 {d : Nat} {h : Hp} {g : ShG} {l : LkG} {kn : Nat} {Q : Po} (ms : MS g l h) (hk0 : kn < 256) (k : ∀ h1, Fq sOrd h h1 → MW g kn h1 → MO (elg g l kn true) g kn h1 → Q mk_ h1) : wpC (d + 4) true 227 [.ref 130, .int (nI kn), .int 1] h Q := by
  have h8 := ms.1.1.2.2.2.1
  have hN := tot_b ms.1.1
  refine go_in rfl ?_
  refine exf_go 3 (show wpC (d + 3) true 225 [.ref 130, .int (nI kn)] h (fun _ h' => Go (d + 3) true 227 5 [.ref 130, .int (nI kn), .int 1, mk_] [] h' Q) from ?_)
  refine m_ranks ms (by omega) (fun h1 q1' mw1 mr1 => ?_)
  have q1 : Fq sOrd h h1 := q1'.mono s78_O
  have ms1 := ms_fq ms (q1.mono sOrd_M)
  show Go (d + 3) true 227 5 [.ref 130, .int (nI kn), .int 1, mk_] [] h1 Q
  refine exf_go 2 (show Go (d + 3) true 227 7 [.ref 130, .int (nI kn), .int 1, .int 0] [] h1 Q from ?_)
  have L7 : ∀ (k7 : Nat) (m : Nat) (h2 : Hp), (257 - m) < k7 → (m ≤ 257) → (Fq sOrd h h2) → (MW g kn h2) → (MR g kn h2) → (∀ j, j < m → rI h2 139 j = nI 0) → Go (d + 3) true 227 7 [.ref 130, .int (nI kn), .int 1, .int (nI m)] [] h2 Q := by
    intro k7
    induction k7 with
    | zero => intro m h2 hk; exact absurd hk (Nat.not_lt_zero _)
    | succ k7 ih7 =>
      intro m h2 hk hm q2 mw2 mr2 hb
      refine exf_go 3 (show (257 ≤ (nI m) → Go (d + 3) true 227 27 [.ref 130, .int (nI kn), .int 1, .int (nI m)] [] h2 Q) ∧ (¬ (257 ≤ (nI m)) → Go (d + 3) true 227 14 [.ref 130, .int (nI kn), .int 1, .int (nI m)] [] h2 Q) from ⟨fun c2 => ?_, fun c2 => ?_⟩)
      · skip
        have c2 : 257 ≤ m := (nI_leI (a := 257) (b := m) (by omega) (by omega)).mp c2
        refine exf_go 5 (show Go (d + 3) true 227 34 [.ref 130, .int (nI kn), .int 1, .int 0] [] (uI h2 130 22 0) Q from ?_)
        have L34 : ∀ (k34 : Nat) (n : Nat) (h3 : Hp), (tot g - n) < k34 → (n ≤ tot g) → (Fq sOrd h h3) → (MW g kn h3) → (MR g kn h3) → (∀ j, j < 257 → rI h3 139 j = nI (bgA (elg g l kn true) (rkN g kn) n j)) → (rI h3 130 22 = nI (cntN (elg g l kn true) n)) → Go (d + 3) true 227 34 [.ref 130, .int (nI kn), .int 1, .int (nI n)] [] h3 Q := by
          intro k34
          induction k34 with
          | zero => intro n h3 hk; exact absurd hk (Nat.not_lt_zero _)
          | succ k34 ih34 =>
            intro n h3 hk hn q3 mw3 mr3 hb3 hm3
            have ms3 := ms_fq ms (q3.mono sOrd_M)
            have hr3 := rkN_b ms.1.1 kn n
            have hs3 := sH_b ms.1.1 n
            have hbb := bg_b (elg g l kn true) (rkN g kn) n (rkN g kn n + 1)
            have hcc := cntN_le (elg g l kn true) n
            refine exf_go 5 (show vp_in 4 41523 ∧ (Go (d + 3) true 227 41 [.ref 130, .int (nI kn), .int 1, .int (nI n)] [.int (rI h3 131 4), .int (nI n)] h3 Q) from ⟨(vp_in_nI (n := 4) (by decide) (by decide)), ?_⟩)
            rw [show (rI h3 131 4 : Int32) = nI (tot g) from ms_N ms3]
            refine exf_go 1 (show ((nI (tot g)) ≤ (nI n) → Go (d + 3) true 227 98 [.ref 130, .int (nI kn), .int 1, .int (nI n)] [] h3 Q) ∧ (¬ ((nI (tot g)) ≤ (nI n)) → Go (d + 3) true 227 44 [.ref 130, .int (nI kn), .int 1, .int (nI n)] [] h3 Q) from ⟨fun c3 => ?_, fun c3 => ?_⟩)
            · skip
              have c3 : (tot g) ≤ n := (nI_leI (a := (tot g)) (b := n) (by omega) (by omega)).mp c3
              refine exf_go 2 (show Go (d + 3) true 227 100 [.ref 130, .int (nI kn), .int 1, .int 0] [] h3 Q from ?_)
              have L100 : ∀ (k100 : Nat) (m : Nat) (h4 : Hp), (256 - m) < k100 → (m ≤ 256) → (Fq sOrd h h4) → (MW g kn h4) → (MR g kn h4) → (∀ j, j < 257 → rI h4 139 j = nI (pfx (elg g l kn true) (rkN g kn) (tot g) m j)) → (rI h4 130 22 = nI (cntN (elg g l kn true) (tot g))) → Go (d + 3) true 227 100 [.ref 130, .int (nI kn), .int 1, .int (nI m)] [] h4 Q := by
                intro k100
                induction k100 with
                | zero => intro m h4 hk; exact absurd hk (Nat.not_lt_zero _)
                | succ k100 ih100 =>
                  intro m h4 hk hm4 q4 mw4 mr4 hb4 hmy
                  have hp1 := pfx_b (elg g l kn true) (rkN g kn) (tot g) m m; have hp2 := pfx_b (elg g l kn true) (rkN g kn) (tot g) m (m + 1)
                  refine exf_go 3 (show (256 ≤ (nI m) → Go (d + 3) true 227 130 [.ref 130, .int (nI kn), .int 1, .int (nI m)] [] h4 Q) ∧ (¬ (256 ≤ (nI m)) → Go (d + 3) true 227 107 [.ref 130, .int (nI kn), .int 1, .int (nI m)] [] h4 Q) from ⟨fun c4 => ?_, fun c4 => ?_⟩)
                  · skip
                    have c4 : 256 ≤ m := (nI_leI (a := 256) (b := m) (by omega) (by omega)).mp c4
                    refine exf_go 2 (show Go (d + 3) true 227 132 [.ref 130, .int (nI kn), .int 1, .int 0] [] h4 Q from ?_)
                    have L132 : ∀ (k132 : Nat) (n : Nat) (h5 : Hp), (tot g - n) < k132 → (n ≤ tot g) → (Fq sOrd h h5) → (MW g kn h5) → (MR g kn h5) → (∀ j, j < 256 → rI h5 139 j = nI (fnB (elg g l kn true) (rkN g kn) (tot g) n j)) → (rI h5 130 22 = nI (cntN (elg g l kn true) (tot g))) → (∀ m, m < n → (elg g l kn true) m = true → rI h5 140 (pos (elg g l kn true) (rkN g kn) (tot g) m) = nI m) → Go (d + 3) true 227 132 [.ref 130, .int (nI kn), .int 1, .int (nI n)] [] h5 Q := by
                      intro k132
                      induction k132 with
                      | zero => intro n h5 hk; exact absurd hk (Nat.not_lt_zero _)
                      | succ k132 ih132 =>
                        intro n h5 hk hn5 q5 mw5 mr5 hb5 hmy5 ho5
                        have ms5 := ms_fq ms (q5.mono sOrd_M)
                        have hr5 := rkN_b ms.1.1 kn n
                        have hs5 := sH_b ms.1.1 n
                        refine exf_go 5 (show vp_in 4 41523 ∧ (Go (d + 3) true 227 139 [.ref 130, .int (nI kn), .int 1, .int (nI n)] [.int (rI h5 131 4), .int (nI n)] h5 Q) from ⟨(vp_in_nI (n := 4) (by decide) (by decide)), ?_⟩)
                        rw [show (rI h5 131 4 : Int32) = nI (tot g) from ms_N ms5]
                        refine exf_go 1 (show ((nI (tot g)) ≤ (nI n) → Go (d + 3) true 227 210 [.ref 130, .int (nI kn), .int 1, .int (nI n)] [] h5 Q) ∧ (¬ ((nI (tot g)) ≤ (nI n)) → Go (d + 3) true 227 142 [.ref 130, .int (nI kn), .int 1, .int (nI n)] [] h5 Q) from ⟨fun c5 => ?_, fun c5 => ?_⟩)
                        · skip
                          have c5 : (tot g) ≤ n := (nI_leI (a := (tot g)) (b := n) (by omega) (by omega)).mp c5
                          refine exf_go 1 (show Q (mk_) h5 from ?_)
                          exact k h5 q5 mw5 ⟨hmy5, fun m hm hE => ho5 m (by omega) hE⟩
                        · skip
                          have c5 : ¬ (tot g) ≤ n := fun q => c5 ((nI_leI (a := (tot g)) (b := n) (by omega) (by omega)).mpr q)
                          refine exf_go 4 (show wpC (d + 3) true 226 [.ref 130, .int (nI n), .int 1] h5 (fun r h' => Go (d + 3) true 227 148 [.ref 130, .int (nI kn), .int 1, .int (nI n)] [r] h' Q) from ?_)
                          refine m_isLeft1 ms5 mw5 (by omega) (fun b6 => ?_) (fun b6 => ?_)
                          · skip
                            have hpl := pos_lt (rk := rkN g kn) (N := tot g) (n := n) (by omega) b6; have hcc := cntN_le (elg g l kn true) (tot g)
                            show Go (d + 3) true 227 148 [.ref 130, .int (nI kn), .int 1, .int (nI n)] [.int 1] h5 Q
                            refine exf_go 1 (show (¬ (1 : Int32) = 0 → Go (d + 3) true 227 154 [.ref 130, .int (nI kn), .int 1, .int (nI n)] [] h5 Q) ∧ (¬ (¬ (1 : Int32) = 0) → Go (d + 3) true 227 151 [.ref 130, .int (nI kn), .int 1, .int (nI n)] [] h5 Q) from ⟨fun c7 => ?_, fun c7 => ?_⟩)
                            · skip
                              refine exf_go 11 (show Go (d + 3) true 227 175 [.ref 130, .int (nI kn), .int 1, .int (nI n)] [.int (3841 + (nI n)), .ref 131, .ref 138, .ref 139, .ref 140] h5 Q from ?_)
                              rw [show (3841 + (nI n) : Int32) = nI (3841 + n) from nI_add 3841 n]
                              refine exf_go 1 (show vp_in (nI (3841 + n)) 41523 ∧ (Go (d + 3) true 227 176 [.ref 130, .int (nI kn), .int 1, .int (nI n)] [.int (rI h5 131 ((nI (3841 + n)).toNatClampNeg)), .ref 138, .ref 139, .ref 140] h5 Q) from ⟨(vp_in_nI (by omega) (by omega)), ?_⟩)
                              rw [show (rI h5 131 ((nI (3841 + n)).toNatClampNeg) : Int32) = nI (sH g n) from ms_H ms5 (n := n) (by omega)]
                              have := sH_b ms5.1.1 n
                              refine exf_go 1 (show vp_in (nI (sH g n)) 256 ∧ (Go (d + 3) true 227 177 [.ref 130, .int (nI kn), .int 1, .int (nI n)] [.int (rI h5 138 ((nI (sH g n)).toNatClampNeg)), .ref 139, .ref 140] h5 Q) from ⟨(vp_in_nI (by omega) (by omega)), ?_⟩)
                              rw [show (rI h5 138 ((nI (sH g n)).toNatClampNeg) : Int32) = nI (rkN g kn n) from mr_at ms5 mr5 n]
                              refine exf_go 1 (show vp_in (nI (rkN g kn n)) 257 ∧ (Go (d + 3) true 227 178 [.ref 130, .int (nI kn), .int 1, .int (nI n)] [.int (rI h5 139 ((nI (rkN g kn n)).toNatClampNeg)), .ref 140] h5 Q) from ⟨(vp_in_nI (by omega) (by omega)), ?_⟩)
                              rw [show (rI h5 139 ((nI (rkN g kn n)).toNatClampNeg) : Int32) = nI (pos (elg g l kn true) (rkN g kn) (tot g) n) from by rw [nI_clamp (by omega)]; exact hb5 _ (by omega)]
                              refine exf_go 11 (show vp_in (nI (pos (elg g l kn true) (rkN g kn) (tot g) n)) 10000 ∧ (Go (d + 3) true 227 197 [.ref 130, .int (nI kn), .int 1, .int (nI n)] [.int (3841 + (nI n)), .ref 131, .ref 138, .ref 139] (uI h5 140 ((nI (pos (elg g l kn true) (rkN g kn) (tot g) n)).toNatClampNeg) (nI n)) Q) from ⟨(vp_in_nI (by omega) (by omega)), ?_⟩)
                              rw [show (3841 + (nI n) : Int32) = nI (3841 + n) from nI_add 3841 n]
                              refine exf_go 1 (show vp_in (nI (3841 + n)) 41523 ∧ (Go (d + 3) true 227 198 [.ref 130, .int (nI kn), .int 1, .int (nI n)] [.int (rI h5 131 ((nI (3841 + n)).toNatClampNeg)), .ref 138, .ref 139] (uI h5 140 ((nI (pos (elg g l kn true) (rkN g kn) (tot g) n)).toNatClampNeg) (nI n)) Q) from ⟨(vp_in_nI (by omega) (by omega)), ?_⟩)
                              rw [show (rI h5 131 ((nI (3841 + n)).toNatClampNeg) : Int32) = nI (sH g n) from ms_H ms5 (n := n) (by omega)]
                              have := sH_b ms5.1.1 n
                              refine exf_go 1 (show vp_in (nI (sH g n)) 256 ∧ (Go (d + 3) true 227 199 [.ref 130, .int (nI kn), .int 1, .int (nI n)] [.int (rI h5 138 ((nI (sH g n)).toNatClampNeg)), .ref 139] (uI h5 140 ((nI (pos (elg g l kn true) (rkN g kn) (tot g) n)).toNatClampNeg) (nI n)) Q) from ⟨(vp_in_nI (by omega) (by omega)), ?_⟩)
                              rw [show (rI h5 138 ((nI (sH g n)).toNatClampNeg) : Int32) = nI (rkN g kn n) from mr_at ms5 mr5 n]
                              refine exf_go 2 (show vp_in (nI (rkN g kn n)) 257 ∧ (Go (d + 3) true 227 201 [.ref 130, .int (nI kn), .int 1, .int (nI n)] [.int (rI h5 139 ((nI (rkN g kn n)).toNatClampNeg)), .int (nI (rkN g kn n)), .ref 139] (uI h5 140 ((nI (pos (elg g l kn true) (rkN g kn) (tot g) n)).toNatClampNeg) (nI n)) Q) from ⟨(vp_in_nI (by omega) (by omega)), ?_⟩)
                              rw [show (rI h5 139 ((nI (rkN g kn n)).toNatClampNeg) : Int32) = nI (pos (elg g l kn true) (rkN g kn) (tot g) n) from by rw [nI_clamp (by omega)]; exact hb5 _ (by omega)]
                              refine exf_go 2 (show Go (d + 3) true 227 203 [.ref 130, .int (nI kn), .int 1, .int (nI n)] [.int ((nI (pos (elg g l kn true) (rkN g kn) (tot g) n)) + 1), .int (nI (rkN g kn n)), .ref 139] (uI h5 140 ((nI (pos (elg g l kn true) (rkN g kn) (tot g) n)).toNatClampNeg) (nI n)) Q from ?_)
                              rw [show ((nI (pos (elg g l kn true) (rkN g kn) (tot g) n)) + 1 : Int32) = nI ((pos (elg g l kn true) (rkN g kn) (tot g) n) + 1) from nI_add (pos (elg g l kn true) (rkN g kn) (tot g) n) 1]
                              refine exf_go 2 (show vp_in (nI (rkN g kn n)) 257 ∧ (Go (d + 3) true 227 207 [.ref 130, .int (nI kn), .int 1, .int ((nI n) + 1)] [] (uI (uI h5 140 ((nI (pos (elg g l kn true) (rkN g kn) (tot g) n)).toNatClampNeg) (nI n)) 139 ((nI (rkN g kn n)).toNatClampNeg) (nI ((pos (elg g l kn true) (rkN g kn) (tot g) n) + 1))) Q) from ⟨(vp_in_nI (by omega) (by omega)), ?_⟩)
                              rw [show ((nI n) + 1 : Int32) = nI (n + 1) from nI_add n 1]
                              refine exf_go 1 (show Go (d + 3) true 227 132 [.ref 130, .int (nI kn), .int 1, .int (nI (n + 1))] [] (uI (uI h5 140 ((nI (pos (elg g l kn true) (rkN g kn) (tot g) n)).toNatClampNeg) (nI n)) 139 ((nI (rkN g kn n)).toNatClampNeg) (nI ((pos (elg g l kn true) (rkN g kn) (tot g) n) + 1))) Q from ?_)
                              exact ih132 (n + 1) _ (by omega) (by omega) ((q5.uI' _ _ _ rfl).uI' _ _ _ rfl) (mw_fq mw5 rfl) (mr_fq mr5 ((rI_uI_ne (by decide)).trans (rI_uI_ne (by decide)))) (fun j hj => by rw [nI_clamp (n := rkN g kn n) (by omega)]; exact (Decidable.em (j = rkN g kn n)).elim (fun e => by rw [e, rI_uI_eq]; exact congrArg nI (fn_hit (by assumption))) (fun e => by rw [rI_uI_at e, rI_uI_ne (by decide), fn_miss e]; exact hb5 j hj)) ((congrFun ((rI_uI_ne (by decide)).trans (rI_uI_ne (by decide))) 22).trans hmy5) (fun m hm hE => by rw [rI_uI_ne (by decide), nI_clamp (by omega)]; exact (Decidable.em (m = n)).elim (fun e => by subst e; exact rI_uI_eq) (fun e => by rw [rI_uI_at (fun q => pos_inj (rk := rkN g kn) (N := tot g) (m := m) (n := n) (by omega) (by omega) hE (by assumption) (by omega) q.symm)]; exact ho5 m (by omega) hE))
                            · skip
                              exact absurd (by decide) c7
                          · skip
                            show Go (d + 3) true 227 148 [.ref 130, .int (nI kn), .int 1, .int (nI n)] [.int 0] h5 Q
                            refine exf_go 1 (show (¬ (0 : Int32) = 0 → Go (d + 3) true 227 154 [.ref 130, .int (nI kn), .int 1, .int (nI n)] [] h5 Q) ∧ (¬ (¬ (0 : Int32) = 0) → Go (d + 3) true 227 151 [.ref 130, .int (nI kn), .int 1, .int (nI n)] [] h5 Q) from ⟨fun c8 => ?_, fun c8 => ?_⟩)
                            · skip
                              exact absurd c8 (by decide)
                            · skip
                              refine exf_go 2 (show Go (d + 3) true 227 207 [.ref 130, .int (nI kn), .int 1, .int ((nI n) + 1)] [] h5 Q from ?_)
                              rw [show ((nI n) + 1 : Int32) = nI (n + 1) from nI_add n 1]
                              refine exf_go 1 (show Go (d + 3) true 227 132 [.ref 130, .int (nI kn), .int 1, .int (nI (n + 1))] [] h5 Q from ?_)
                              exact ih132 (n + 1) _ (by omega) (by omega) q5 mw5 mr5 (fun j hj => by rw [fn_no (by assumption)]; exact hb5 j hj) hmy5 (fun m hm hE => ho5 m ((Nat.lt_or_eq_of_le (Nat.le_of_lt_succ hm)).elim id (fun e => by subst e; rw [hE] at *; contradiction)) hE)
                    exact L132 (tot g + 1) 0 h4 (by omega) (by omega) q4 mw4 mr4 (fun j hj => by rw [hb4 j (by omega), fn_0, pfx, if_pos (by omega)]) hmy (fun j hj => absurd hj (Nat.not_lt_zero _))
                  · skip
                    have c4 : ¬ 256 ≤ m := fun q => c4 ((nI_leI (a := 256) (b := m) (by omega) (by omega)).mpr q)
                    refine exf_go 5 (show Go (d + 3) true 227 114 [.ref 130, .int (nI kn), .int 1, .int (nI m)] [.int ((nI m) + 1), .ref 139] h4 Q from ?_)
                    rw [show ((nI m) + 1 : Int32) = nI (m + 1) from nI_add m 1]
                    refine exf_go 2 (show vp_in (nI (m + 1)) 257 ∧ (Go (d + 3) true 227 116 [.ref 130, .int (nI kn), .int 1, .int (nI m)] [.int (rI h4 139 ((nI (m + 1)).toNatClampNeg)), .int (nI (m + 1)), .ref 139] h4 Q) from ⟨(vp_in_nI (by omega) (by omega)), ?_⟩)
                    rw [show (rI h4 139 ((nI (m + 1)).toNatClampNeg) : Int32) = nI (pfx (elg g l kn true) (rkN g kn) (tot g) m (m + 1)) from by rw [nI_clamp (by omega)]; exact hb4 _ (by omega)]
                    refine exf_go 4 (show vp_in (nI m) 257 ∧ (Go (d + 3) true 227 122 [.ref 130, .int (nI kn), .int 1, .int (nI m)] [.int (rI h4 139 ((nI m).toNatClampNeg)), .int (nI (pfx (elg g l kn true) (rkN g kn) (tot g) m (m + 1))), .int (nI (m + 1)), .ref 139] h4 Q) from ⟨(vp_in_nI (by omega) (by omega)), ?_⟩)
                    rw [show (rI h4 139 ((nI m).toNatClampNeg) : Int32) = nI (pfx (elg g l kn true) (rkN g kn) (tot g) m m) from by rw [nI_clamp (by omega)]; exact hb4 _ (by omega)]
                    refine exf_go 1 (show Go (d + 3) true 227 123 [.ref 130, .int (nI kn), .int 1, .int (nI m)] [.int ((nI (pfx (elg g l kn true) (rkN g kn) (tot g) m (m + 1))) + (nI (pfx (elg g l kn true) (rkN g kn) (tot g) m m))), .int (nI (m + 1)), .ref 139] h4 Q from ?_)
                    rw [show ((nI (pfx (elg g l kn true) (rkN g kn) (tot g) m (m + 1))) + (nI (pfx (elg g l kn true) (rkN g kn) (tot g) m m)) : Int32) = nI ((pfx (elg g l kn true) (rkN g kn) (tot g) m (m + 1)) + (pfx (elg g l kn true) (rkN g kn) (tot g) m m)) from nI_add (pfx (elg g l kn true) (rkN g kn) (tot g) m (m + 1)) (pfx (elg g l kn true) (rkN g kn) (tot g) m m)]
                    refine exf_go 2 (show vp_in (nI (m + 1)) 257 ∧ (Go (d + 3) true 227 127 [.ref 130, .int (nI kn), .int 1, .int ((nI m) + 1)] [] (uI h4 139 ((nI (m + 1)).toNatClampNeg) (nI ((pfx (elg g l kn true) (rkN g kn) (tot g) m (m + 1)) + (pfx (elg g l kn true) (rkN g kn) (tot g) m m)))) Q) from ⟨(vp_in_nI (by omega) (by omega)), ?_⟩)
                    rw [show ((nI m) + 1 : Int32) = nI (m + 1) from nI_add m 1]
                    refine exf_go 1 (show Go (d + 3) true 227 100 [.ref 130, .int (nI kn), .int 1, .int (nI (m + 1))] [] (uI h4 139 ((nI (m + 1)).toNatClampNeg) (nI ((pfx (elg g l kn true) (rkN g kn) (tot g) m (m + 1)) + (pfx (elg g l kn true) (rkN g kn) (tot g) m m)))) Q from ?_)
                    exact ih100 (m + 1) _ (by omega) (by omega) (q4.uI' _ _ _ rfl) (mw_fq mw4 rfl) (mr_fq mr4 (rI_uI_ne (by decide))) (fun j hj => by rw [nI_clamp (by omega)]; exact (Decidable.em (j = m + 1)).elim (fun e => by rw [e, rI_uI_eq]; exact congrArg nI (pfx_s _ _ _ m)) (fun e => by rw [rI_uI_at e, pfx_o _ _ _ _ _ e]; exact hb4 j hj)) ((congrFun (rI_uI_ne (by decide)) 22).trans hmy)
              exact L100 (256 + 1) 0 h3 (by omega) (by omega) q3 mw3 mr3 (fun j hj => by rw [pfx_0, hb3 j hj, show n = tot g from by omega]) (by rw [hm3, show n = tot g from by omega])
            · skip
              have c3 : ¬ (tot g) ≤ n := fun q => c3 ((nI_leI (a := (tot g)) (b := n) (by omega) (by omega)).mpr q)
              refine exf_go 4 (show wpC (d + 3) true 226 [.ref 130, .int (nI n), .int 1] h3 (fun r h' => Go (d + 3) true 227 50 [.ref 130, .int (nI kn), .int 1, .int (nI n)] [r] h' Q) from ?_)
              refine m_isLeft1 ms3 mw3 (by omega) (fun b9 => ?_) (fun b9 => ?_)
              · skip
                show Go (d + 3) true 227 50 [.ref 130, .int (nI kn), .int 1, .int (nI n)] [.int 1] h3 Q
                refine exf_go 1 (show (¬ (1 : Int32) = 0 → Go (d + 3) true 227 56 [.ref 130, .int (nI kn), .int 1, .int (nI n)] [] h3 Q) ∧ (¬ (¬ (1 : Int32) = 0) → Go (d + 3) true 227 53 [.ref 130, .int (nI kn), .int 1, .int (nI n)] [] h3 Q) from ⟨fun c10 => ?_, fun c10 => ?_⟩)
                · skip
                  refine exf_go 9 (show Go (d + 3) true 227 73 [.ref 130, .int (nI kn), .int 1, .int (nI n)] [.int (3841 + (nI n)), .ref 131, .ref 138, .ref 139] h3 Q from ?_)
                  rw [show (3841 + (nI n) : Int32) = nI (3841 + n) from nI_add 3841 n]
                  refine exf_go 1 (show vp_in (nI (3841 + n)) 41523 ∧ (Go (d + 3) true 227 74 [.ref 130, .int (nI kn), .int 1, .int (nI n)] [.int (rI h3 131 ((nI (3841 + n)).toNatClampNeg)), .ref 138, .ref 139] h3 Q) from ⟨(vp_in_nI (by omega) (by omega)), ?_⟩)
                  rw [show (rI h3 131 ((nI (3841 + n)).toNatClampNeg) : Int32) = nI (sH g n) from ms_H ms3 (n := n) (by omega)]
                  have := sH_b ms3.1.1 n
                  refine exf_go 1 (show vp_in (nI (sH g n)) 256 ∧ (Go (d + 3) true 227 75 [.ref 130, .int (nI kn), .int 1, .int (nI n)] [.int (rI h3 138 ((nI (sH g n)).toNatClampNeg)), .ref 139] h3 Q) from ⟨(vp_in_nI (by omega) (by omega)), ?_⟩)
                  rw [show (rI h3 138 ((nI (sH g n)).toNatClampNeg) : Int32) = nI (rkN g kn n) from mr_at ms3 mr3 n]
                  refine exf_go 2 (show Go (d + 3) true 227 77 [.ref 130, .int (nI kn), .int 1, .int (nI n)] [.int ((nI (rkN g kn n)) + 1), .ref 139] h3 Q from ?_)
                  rw [show ((nI (rkN g kn n)) + 1 : Int32) = nI ((rkN g kn n) + 1) from nI_add (rkN g kn n) 1]
                  refine exf_go 2 (show vp_in (nI ((rkN g kn n) + 1)) 257 ∧ (Go (d + 3) true 227 79 [.ref 130, .int (nI kn), .int 1, .int (nI n)] [.int (rI h3 139 ((nI ((rkN g kn n) + 1)).toNatClampNeg)), .int (nI ((rkN g kn n) + 1)), .ref 139] h3 Q) from ⟨(vp_in_nI (by omega) (by omega)), ?_⟩)
                  rw [show (rI h3 139 ((nI ((rkN g kn n) + 1)).toNatClampNeg) : Int32) = nI (bgA (elg g l kn true) (rkN g kn) n ((rkN g kn n) + 1)) from by rw [nI_clamp (by omega)]; exact hb3 _ (by omega)]
                  refine exf_go 2 (show Go (d + 3) true 227 81 [.ref 130, .int (nI kn), .int 1, .int (nI n)] [.int ((nI (bgA (elg g l kn true) (rkN g kn) n ((rkN g kn n) + 1))) + 1), .int (nI ((rkN g kn n) + 1)), .ref 139] h3 Q from ?_)
                  rw [show ((nI (bgA (elg g l kn true) (rkN g kn) n ((rkN g kn n) + 1))) + 1 : Int32) = nI ((bgA (elg g l kn true) (rkN g kn) n ((rkN g kn n) + 1)) + 1) from nI_add (bgA (elg g l kn true) (rkN g kn) n ((rkN g kn n) + 1)) 1]
                  refine exf_go 4 (show vp_in (nI ((rkN g kn n) + 1)) 257 ∧ (Go (d + 3) true 227 87 [.ref 130, .int (nI kn), .int 1, .int (nI n)] [.int (rI h3 130 22), .ref 130] (uI h3 139 ((nI ((rkN g kn n) + 1)).toNatClampNeg) (nI ((bgA (elg g l kn true) (rkN g kn) n ((rkN g kn n) + 1)) + 1))) Q) from ⟨(vp_in_nI (by omega) (by omega)), ?_⟩)
                  rw [show (rI h3 130 22 : Int32) = nI (cntN (elg g l kn true) n) from hm3]
                  refine exf_go 2 (show Go (d + 3) true 227 89 [.ref 130, .int (nI kn), .int 1, .int (nI n)] [.int ((nI (cntN (elg g l kn true) n)) + 1), .ref 130] (uI h3 139 ((nI ((rkN g kn n) + 1)).toNatClampNeg) (nI ((bgA (elg g l kn true) (rkN g kn) n ((rkN g kn n) + 1)) + 1))) Q from ?_)
                  rw [show ((nI (cntN (elg g l kn true) n)) + 1 : Int32) = nI ((cntN (elg g l kn true) n) + 1) from nI_add (cntN (elg g l kn true) n) 1]
                  refine exf_go 2 (show Go (d + 3) true 227 95 [.ref 130, .int (nI kn), .int 1, .int ((nI n) + 1)] [] (uI (uI h3 139 ((nI ((rkN g kn n) + 1)).toNatClampNeg) (nI ((bgA (elg g l kn true) (rkN g kn) n ((rkN g kn n) + 1)) + 1))) 130 22 (nI ((cntN (elg g l kn true) n) + 1))) Q from ?_)
                  rw [show ((nI n) + 1 : Int32) = nI (n + 1) from nI_add n 1]
                  refine exf_go 1 (show Go (d + 3) true 227 34 [.ref 130, .int (nI kn), .int 1, .int (nI (n + 1))] [] (uI (uI h3 139 ((nI ((rkN g kn n) + 1)).toNatClampNeg) (nI ((bgA (elg g l kn true) (rkN g kn) n ((rkN g kn n) + 1)) + 1))) 130 22 (nI ((cntN (elg g l kn true) n) + 1))) Q from ?_)
                  exact ih34 (n + 1) _ (by omega) (by omega) ((q3.uI' _ _ _ rfl).uI' _ _ _ rfl) (mw_fq mw3 rfl) (mr_fq mr3 ((rI_uI_ne (by decide)).trans (rI_uI_ne (by decide)))) (fun j hj => by rw [rI_uI_ne (by decide), nI_clamp (by omega)]; exact (Decidable.em (j = rkN g kn n + 1)).elim (fun e => by rw [e, rI_uI_eq]; exact congrArg nI (bg_hit (by assumption))) (fun e => by rw [rI_uI_at e, bg_miss e]; exact hb3 j hj)) (by rw [rI_uI_eq]; exact congrArg nI (cn_y rfl (by assumption)))
                · skip
                  exact absurd (by decide) c10
              · skip
                show Go (d + 3) true 227 50 [.ref 130, .int (nI kn), .int 1, .int (nI n)] [.int 0] h3 Q
                refine exf_go 1 (show (¬ (0 : Int32) = 0 → Go (d + 3) true 227 56 [.ref 130, .int (nI kn), .int 1, .int (nI n)] [] h3 Q) ∧ (¬ (¬ (0 : Int32) = 0) → Go (d + 3) true 227 53 [.ref 130, .int (nI kn), .int 1, .int (nI n)] [] h3 Q) from ⟨fun c11 => ?_, fun c11 => ?_⟩)
                · skip
                  exact absurd c11 (by decide)
                · skip
                  refine exf_go 2 (show Go (d + 3) true 227 95 [.ref 130, .int (nI kn), .int 1, .int ((nI n) + 1)] [] h3 Q from ?_)
                  rw [show ((nI n) + 1 : Int32) = nI (n + 1) from nI_add n 1]
                  refine exf_go 1 (show Go (d + 3) true 227 34 [.ref 130, .int (nI kn), .int 1, .int (nI (n + 1))] [] h3 Q from ?_)
                  exact ih34 (n + 1) _ (by omega) (by omega) q3 mw3 mr3 (fun j hj => by rw [bg_no (by assumption)]; exact hb3 j hj) (by rw [hm3, cn_n rfl (by assumption)])
        exact L34 (tot g + 1) 0 _ (by omega) (by omega) (q2.uI' _ _ _ rfl) (mw_fq mw2 rfl) (mr_fq mr2 (rI_uI_ne (by decide))) (fun j hj => by rw [rI_uI_ne (by decide), hb j (by omega)]; cases j <;> rfl) rI_uI_eq
      · skip
        have c2 : ¬ 257 ≤ m := fun q => c2 ((nI_leI (a := 257) (b := m) (by omega) (by omega)).mpr q)
        refine exf_go 6 (show vp_in (nI m) 257 ∧ (Go (d + 3) true 227 24 [.ref 130, .int (nI kn), .int 1, .int ((nI m) + 1)] [] (uI h2 139 ((nI m).toNatClampNeg) 0) Q) from ⟨(vp_in_nI (by omega) (by omega)), ?_⟩)
        rw [show ((nI m) + 1 : Int32) = nI (m + 1) from nI_add m 1]
        refine exf_go 1 (show Go (d + 3) true 227 7 [.ref 130, .int (nI kn), .int 1, .int (nI (m + 1))] [] (uI h2 139 ((nI m).toNatClampNeg) 0) Q from ?_)
        exact ih7 (m + 1) _ (by omega) (by omega) (q2.uI' _ _ _ rfl) (mw_fq mw2 rfl) (mr_fq mr2 (rI_uI_ne (by decide))) (fun j hj => (Decidable.em (j = m)).elim (fun e => by rw [nI_clamp (by omega), e, rI_uI_eq]; rfl) (fun e => by rw [nI_clamp (by omega), rI_uI_at e]; exact hb j (by omega)))
  exact L7 (257 + 1) 0 h1 (by omega) (by omega) q1 mw1 mr1 (fun j hj => absurd hj (Nat.not_lt_zero _))
theorem m_left2 {d : Nat} {h : Hp} {g : ShG} {l : LkG} {Q : Po} (ms : MS g l h) (k : ∀ h1, Fq sOrd h h1 → MW g (evr g) h1 → MO (lft g l) g (evr g) h1 → Q mk_ h1) : wpC (d + 5) true 228 [.ref 130] h Q := by
  have he := evr_b ms.1.1
  have hev : evr g = 2 ^ sC g - 1 := rfl
  refine go_in rfl ?_
  refine exf_go 3 (show wpC (d + 4) true 223 [.ref 130] h (fun r h' => Go (d + 4) true 228 5 [.ref 130] [r, .ref 130] h' Q) from ?_)
  refine m_every ms ?_
  show Go (d + 4) true 228 5 [.ref 130] [.int (nI (evr g)), .ref 130] h Q
  refine exf_go 2 (show wpC (d + 4) true 227 [.ref 130, .int (nI (evr g)), .int 1] h (fun _ h' => Go (d + 4) true 228 9 [.ref 130] [] h' Q) from ?_)
  refine m_lays1 ms (by omega) (fun h1 q1 mw1 mo1 => ?_)
  show Go (d + 4) true 228 9 [.ref 130] [] h1 Q
  refine exf_go 1 (show Q (mk_) h1 from ?_)
  rw [show elg g l (evr g) true = lft g l from funext (elg_lft ms.1.1 ms.1.2)] at mo1; exact k h1 q1 mw1 mo1
theorem wl_in {x : Int64} {n : Nat} (hn : n < 2 ^ 31) (h1 : ¬ x < 0) (h2 : ¬ (pI n).toInt64 < x) : ∃ j, ixL x n = some j ∧ x = lN j ∧ j < n := by
  refine il_in (by omega) h1 (fun q => h2 ?_)
  rw [Int64.lt_iff_toInt_lt, ix64]
  rw [Int64.le_iff_toInt_le, pk_lT (by omega)] at q
  cases n with
  | zero => show (-1 : Int) < x.toInt; omega
  | succ n => show (nI n).toInt < x.toInt; rw [nI_toInt (by omega)]; omega
theorem wl_no {x : Int64} {n : Nat} (hn : n < 2 ^ 31) (h : x < 0 ∨ (pI n).toInt64 < x) : ixL x n = none := by
  rcases h with h | h
  · exact il_neg h
  · apply il_ge
    rw [Int64.lt_iff_toInt_lt, ix64] at h
    rw [Int64.le_iff_toInt_le, pk_lT (by omega)]
    cases n with
    | zero => have h3 : (-1 : Int) < x.toInt := h; show (0 : Int) ≤ x.toInt; omega
    | succ n => have h3 : (nI n).toInt < x.toInt := h; rw [nI_toInt (by omega)] at h3; omega
theorem sGo_ne {a x : Nat} (h : a ≠ 131) : sGo a x = false := by
  unfold sGo
  rw [show Nat.beq a 131 = false from by rw [Bool.eq_false_iff]; intro z; exact h (Nat.eq_of_beq_eq_true z)]
  rfl
theorem m_isNumL {d : Nat} {h : Hp} {g : ShG} {l : LkG} {x : Int64} {Q : Po} (ms : MS g l h) (k1 : ∀ j, ixL x (tot g) = some j → x = lN j → j < tot g → Q (.int 1) h) (k0 : ixL x (tot g) = none → Q (.int 0) h) : wpC (d + 2) true 218 [.ref 130, .long x] h Q := by
  have hN := tot_b ms.1.1
  refine go_in rfl ?_
  refine exf_go 6 (show vp_in 4 41523 ∧ (Go (d + 1) true 218 8 [.ref 130, .long x, mk_] [.int (rI h 131 4), .long 0, .long x] h Q) from ⟨(vp_in_nI (n := 4) (by decide) (by decide)), ?_⟩)
  rw [show (rI h 131 4 : Int32) = nI (tot g) from ms_N ms]
  refine exf_go 2 (show Go (d + 1) true 218 10 [.ref 130, .long x, mk_] [.int ((nI (tot g)) - 1), .long 0, .long x] h Q from ?_)
  rw [show ((nI (tot g)) - 1 : Int32) = pI (tot g) from pI_sub _]
  refine exf_go 2 (show wpC (d + 1) true 183 [.long x, .long 0, .long ((pI (tot g)).toInt64)] h (fun r h' => Go (d + 1) true 218 14 [.ref 130, .long x, mk_] [r] h' Q) from ?_)
  refine m_within (fun u1 v1 => ?_) (fun u1 => ?_)
  · skip
    show Go (d + 1) true 218 14 [.ref 130, .long x, mk_] [.int 1] h Q
    refine exf_go 1 (show ((1 : Int32) = 0 ∨ (1 : Int32) = 1) ∧ Q (.int 1) h from ⟨(by first | exact Or.inl rfl | exact Or.inr rfl | assumption), ?_⟩)
    obtain ⟨j, e1, e2, e3⟩ := wl_in (by omega) u1 v1
    exact k1 j e1 e2 e3
  · skip
    show Go (d + 1) true 218 14 [.ref 130, .long x, mk_] [.int 0] h Q
    refine exf_go 1 (show ((0 : Int32) = 0 ∨ (0 : Int32) = 1) ∧ Q (.int 0) h from ⟨(by first | exact Or.inl rfl | exact Or.inr rfl | assumption), ?_⟩)
    exact k0 (wl_no (by omega) u1)
theorem m_evenings {d : Nat} {h : Hp} {g : ShG} {l : LkG} {tt so n : Nat} {vs : Nat → Int64} {Q : Po} (ms : MS g l h) (etr : tt < 4) (mt : MT tt (some (so, n, vs)) h) (k : ∀ h1, Fq sGo h h1 → MS g (evL g vs l (evD g vs l n)) h1 → Q (.int (nI (evD g vs l n))) h1) : wpC (d + 4) true 256 [.ref 130, .int (nI tt)] h Q := by
  have hN := tot_b ms.1.1
  have hn4 := mt.2.1; have hs3 := mt.1
  refine go_in rfl ?_
  refine exf_go 2 (show Go (d + 3) true 256 2 [.ref 130, .int (nI tt), .int 0] [] h Q from ?_)
  have L2 : ∀ (k2 : Nat) (j : Nat) (h1 : Hp), (n - j) < k2 → (j ≤ n) → (evD g vs l j = j) → (Fq sGo h h1) → (MS g (evL g vs l j) h1) → Go (d + 3) true 256 2 [.ref 130, .int (nI tt), .int (nI j)] [] h1 Q := by
    intro k2
    induction k2 with
    | zero => intro j h1 hk; exact absurd hk (Nat.not_lt_zero _)
    | succ k2 ih2 =>
      intro j h1 hk hj hd q1 ms1
      have mt1 : MT tt (some (so, n, vs)) h1 := mt_same mt (q1.1 149 tt (sGo_ne (by decide))).1 (q1.1 150 tt (sGo_ne (by decide))).1 (fun i _ => (q1.1 151 _ (sGo_ne (by decide))).2)
      have hO1 := ms1.1.2.2.1
      refine exf_go 5 (show vp_in (nI tt) 4 ∧ (Go (d + 3) true 256 9 [.ref 130, .int (nI tt), .int (nI j)] [.int (rI h1 150 ((nI tt).toNatClampNeg)), .int (nI j)] h1 Q) from ⟨(vp_in_nI (by omega) (by omega)), ?_⟩)
      rw [show (rI h1 150 ((nI tt).toNatClampNeg) : Int32) = nI n from by rw [nI_clamp (by omega)]; exact mt1.2.2.2.1]
      refine exf_go 1 (show ((nI n) ≤ (nI j) → Go (d + 3) true 256 65 [.ref 130, .int (nI tt), .int (nI j)] [] h1 Q) ∧ (¬ ((nI n) ≤ (nI j)) → Go (d + 3) true 256 12 [.ref 130, .int (nI tt), .int (nI j)] [] h1 Q) from ⟨fun c1 => ?_, fun c1 => ?_⟩)
      · skip
        have c1 : n ≤ j := (nI_leI (a := n) (b := j) (by omega) (by omega)).mp c1
        refine exf_go 4 (show vp_in (nI tt) 4 ∧ (Go (d + 3) true 256 71 [.ref 130, .int (nI tt), .int (nI j)] [.int (rI h1 150 ((nI tt).toNatClampNeg))] h1 Q) from ⟨(vp_in_nI (by omega) (by omega)), ?_⟩)
        rw [show (rI h1 150 ((nI tt).toNatClampNeg) : Int32) = nI n from by rw [nI_clamp (by omega)]; exact mt1.2.2.2.1]
        refine exf_go 1 (show Q (.int (nI n)) h1 from ?_)
        have e : j = n := by omega
        rw [e] at hd ms1
        have kk := k h1 q1 (by rw [hd]; exact ms1)
        rw [hd] at kk; exact kk
      · skip
        have c1 : ¬ n ≤ j := fun q => c1 ((nI_leI (a := n) (b := j) (by omega) (by omega)).mpr q)
        refine exf_go 6 (show Go (d + 3) true 256 21 [.ref 130, .int (nI tt), .int (nI j)] [.int (40 * (nI tt)), .ref 151, .ref 130] h1 Q from ?_)
        rw [show (40 * (nI tt) : Int32) = nI (40 * tt) from pk_mul 40 tt]
        refine exf_go 2 (show Go (d + 3) true 256 23 [.ref 130, .int (nI tt), .int (nI j)] [.int ((nI (40 * tt)) + (nI j)), .ref 151, .ref 130] h1 Q from ?_)
        rw [show ((nI (40 * tt)) + (nI j) : Int32) = nI ((40 * tt) + j) from nI_add (40 * tt) j]
        refine exf_go 1 (show vp_in (nI ((40 * tt) + j)) 160 ∧ (Go (d + 3) true 256 24 [.ref 130, .int (nI tt), .int (nI j)] [.long (rJ h1 151 ((nI ((40 * tt) + j)).toNatClampNeg)), .ref 130] h1 Q) from ⟨(vp_in_nI (by omega) (by omega)), ?_⟩)
        rw [show (rJ h1 151 ((nI ((40 * tt) + j)).toNatClampNeg) : Int64) = vs j from by rw [nI_clamp (by omega)]; exact mt1.2.2.2.2 _ (by omega)]
        refine exf_go 1 (show wpC (d + 3) true 218 [.ref 130, .long (vs j)] h1 (fun r h' => Go (d + 3) true 256 27 [.ref 130, .int (nI tt), .int (nI j)] [r] h' Q) from ?_)
        refine m_isNumL ms1 (x := vs j) (fun nn eix eq1 eq2 => ?_) (fun eix => ?_)
        · skip
          show Go (d + 3) true 256 27 [.ref 130, .int (nI tt), .int (nI j)] [.int 1] h1 Q
          refine exf_go 1 (show ((1 : Int32) = 0 → Go (d + 3) true 256 41 [.ref 130, .int (nI tt), .int (nI j)] [] h1 Q) ∧ (¬ ((1 : Int32) = 0) → Go (d + 3) true 256 30 [.ref 130, .int (nI tt), .int (nI j)] [] h1 Q) from ⟨fun c2 => ?_, fun c2 => ?_⟩)
          · skip
            exact absurd c2 (by decide)
          · skip
            refine exf_go 4 (show vp_in 53 41523 ∧ (Go (d + 3) true 256 37 [.ref 130, .int (nI tt), .int (nI j)] [.int (rI h1 131 53)] h1 Q) from ⟨(vp_in_nI (n := 53) (by decide) (by decide)), ?_⟩)
            rw [show (rI h1 131 53 : Int32) = nI (lO (evL g vs l j)) from ms_Op ms1]
            refine exf_go 2 (show (¬ (nI (lO (evL g vs l j))) = 1 → Go (d + 3) true 256 43 [.ref 130, .int (nI tt), .int (nI j)] [] h1 Q) ∧ (¬ (¬ (nI (lO (evL g vs l j))) = 1) → Go (d + 3) true 256 41 [.ref 130, .int (nI tt), .int (nI j)] [] h1 Q) from ⟨fun c3 => ?_, fun c3 => ?_⟩)
            · skip
              have c3 : ¬ (lO (evL g vs l j)) = 1 := fun q => c3 ((nI_eq (a := (lO (evL g vs l j))) (b := 1) (by omega) (by omega)).mpr q)
              have hns : ¬ evS g vs l j = true := by unfold evS; rw [eix, decide_eq_false (by omega)]; exact fun q => absurd (show false = true from q) (by decide)
              refine exf_go 6 (show Go (d + 3) true 256 52 [.ref 130, .int (nI tt), .int (nI j)] [.int (40 * (nI tt)), .ref 151, .ref 130] h1 Q from ?_)
              rw [show (40 * (nI tt) : Int32) = nI (40 * tt) from pk_mul 40 tt]
              refine exf_go 2 (show Go (d + 3) true 256 54 [.ref 130, .int (nI tt), .int (nI j)] [.int ((nI (40 * tt)) + (nI j)), .ref 151, .ref 130] h1 Q from ?_)
              rw [show ((nI (40 * tt)) + (nI j) : Int32) = nI ((40 * tt) + j) from nI_add (40 * tt) j]
              refine exf_go 1 (show vp_in (nI ((40 * tt) + j)) 160 ∧ (Go (d + 3) true 256 55 [.ref 130, .int (nI tt), .int (nI j)] [.long (rJ h1 151 ((nI ((40 * tt) + j)).toNatClampNeg)), .ref 130] h1 Q) from ⟨(vp_in_nI (by omega) (by omega)), ?_⟩)
              rw [show (rJ h1 151 ((nI ((40 * tt) + j)).toNatClampNeg) : Int64) = lN nn from by rw [nI_clamp (by omega), mt1.2.2.2.2 _ (by omega)]; exact eq1]
              refine exf_go 1 (show Go (d + 3) true 256 56 [.ref 130, .int (nI tt), .int (nI j)] [.int ((lN nn).toInt32), .ref 130] h1 Q from ?_)
              rw [show ((lN nn).toInt32 : Int32) = nI nn from lN_i _]
              refine exf_go 1 (show wpC (d + 3) true 252 [.ref 130, .int (nI nn)] h1 (fun _ h' => Go (d + 3) true 256 59 [.ref 130, .int (nI tt), .int (nI j)] [] h' Q) from ?_)
              refine m_goesTo ms1 (n := nn) (by omega) (fun h2 q2 ms2 => ?_)
              show Go (d + 3) true 256 59 [.ref 130, .int (nI tt), .int (nI j)] [] h2 Q
              refine exf_go 1 (show Go (d + 3) true 256 62 [.ref 130, .int (nI tt), .int ((nI j) + 1)] [] h2 Q from ?_)
              rw [show ((nI j) + 1 : Int32) = nI (j + 1) from nI_add j 1]
              refine exf_go 1 (show Go (d + 3) true 256 2 [.ref 130, .int (nI tt), .int (nI (j + 1))] [] h2 Q from ?_)
              exact ih2 (j + 1) h2 (by omega) (by omega) (evD_go hd hns) (q1.tr q2) (by rw [evL_go eix]; exact ms2)
            · skip
              have c3 : (lO (evL g vs l j)) = 1 := (nI_eq (a := (lO (evL g vs l j))) (b := 1) (by omega) (by omega)).mp (Classical.not_not.mp c3)
              have hst : evS g vs l j = true := by unfold evS; rw [decide_eq_true (by omega)]; rfl
              refine exf_go 2 (show Q (.int (nI j)) h1 from ?_)
              have hdn := evD_stop hd hst (show j < n by omega)
              have kk := k h1 q1 (by rw [hdn]; exact ms1)
              rw [hdn] at kk; exact kk
        · skip
          have hst : evS g vs l j = true := by unfold evS; rw [eix, Option.isNone_none, Bool.or_true]
          show Go (d + 3) true 256 27 [.ref 130, .int (nI tt), .int (nI j)] [.int 0] h1 Q
          refine exf_go 1 (show ((0 : Int32) = 0 → Go (d + 3) true 256 41 [.ref 130, .int (nI tt), .int (nI j)] [] h1 Q) ∧ (¬ ((0 : Int32) = 0) → Go (d + 3) true 256 30 [.ref 130, .int (nI tt), .int (nI j)] [] h1 Q) from ⟨fun c4 => ?_, fun c4 => ?_⟩)
          · skip
            refine exf_go 2 (show Q (.int (nI j)) h1 from ?_)
            have hdn := evD_stop hd hst (show j < n by omega)
            have kk := k h1 q1 (by rw [hdn]; exact ms1)
            rw [hdn] at kk; exact kk
          · skip
            exact absurd (by decide) c4
  exact L2 (n + 1) 0 h (by omega) (by omega) rfl Fq.rfl' ms
theorem md_0 {g : ShG} {e : DeG} {l : LkG} {h h1 h2 : Hp} (md : MD g e h) (q0 : Fq (sAt 141) h h1) (q1 : Fq sGo h1 h2) (ms2 : MS g e.1 h2) : MD g e h2 := ⟨ms2, mh_D md.1.1.1 md.2 (fun i u v => (q1.1 131 i (sGo_f (by omega))).1.trans (q0.1 131 i rfl).1)⟩
theorem m_perform {d : Nat} {h : Hp} {g : ShG} {e : DeG} {tr : Nat → TrG} {x : Int32} {Q : Po} (md : MD g e h) (ma : MTA tr h) (k : ∀ h1, Fq sDe h h1 → MD g (dPerf g e tr x).1 h1 → Q (.int (dPerf g e tr x).2) h1) : wpC (d + 5) true 259 [.ref 130, .int x] h Q := by
  have hN := tot_b md.1.1.1
  have h4 := md.1.1.1.1
  have md0 := md
  obtain ⟨ms, mh⟩ := md
  have hm8 := mh.2.1; have hO1 := ms.1.2.2.1; have hA := ms.1.2.1
  refine go_in rfl ?_
  refine exf_go 6 (show wpC (d + 4) true 257 [.ref 130, .int x] (uI h 130 0 0) (fun r h' => Go (d + 4) true 259 10 [.ref 130, .int x, mk_, mk_] [r] h' Q) from ?_)
  refine m_noTray (x := x) (mta_fq (s := scM) ma (Fq.uI' Fq.rfl' _ _ _ rfl) (fun _ => rfl) (fun _ => rfl) (fun _ => rfl)) (fun et => ?_) (fun tt et etq etr hq => ?_) (fun tt so n vs et etq etr hq mt => ?_)
  · skip
    show Go (d + 4) true 259 10 [.ref 130, .int x, mk_, mk_] [.int (-2)] (uI h 130 0 0) Q
    refine exf_go 3 (show (((-2) : Int32) = 0 → Go (d + 4) true 259 17 [.ref 130, .int x, .int (-2), mk_] [] (uI h 130 0 0) Q) ∧ (¬ (((-2) : Int32) = 0) → Go (d + 4) true 259 15 [.ref 130, .int x, .int (-2), mk_] [] (uI h 130 0 0) Q) from ⟨fun c1 => ?_, fun c1 => ?_⟩)
    · skip
      exact absurd c1 (by decide)
    · skip
      refine exf_go 2 (show Q (.int (-2)) (uI h 130 0 0) from ?_)
      simp only [dPerf, et] at k
      exact k _ (M_D (Fq.uI' Fq.rfl' _ _ _ rfl)) (md_M (h1 := uI h 130 0 0) md0 (Fq.uI' Fq.rfl' _ _ _ rfl))
  · skip
    subst etq
    show Go (d + 4) true 259 10 [.ref 130, .int (nI tt), mk_, mk_] [.int (-6)] (uI h 130 0 0) Q
    refine exf_go 3 (show (((-6) : Int32) = 0 → Go (d + 4) true 259 17 [.ref 130, .int (nI tt), .int (-6), mk_] [] (uI h 130 0 0) Q) ∧ (¬ (((-6) : Int32) = 0) → Go (d + 4) true 259 15 [.ref 130, .int (nI tt), .int (-6), mk_] [] (uI h 130 0 0) Q) from ⟨fun c2 => ?_, fun c2 => ?_⟩)
    · skip
      exact absurd c2 (by decide)
    · skip
      refine exf_go 2 (show Q (.int (-6)) (uI h 130 0 0) from ?_)
      simp only [dPerf, et, hq] at k
      exact k _ (M_D (Fq.uI' Fq.rfl' _ _ _ rfl)) (md_M (h1 := uI h 130 0 0) md0 (Fq.uI' Fq.rfl' _ _ _ rfl))
  · skip
    subst etq
    have hn4 := mt.2.1; have hs3 := mt.1
    show Go (d + 4) true 259 10 [.ref 130, .int (nI tt), mk_, mk_] [.int 0] (uI h 130 0 0) Q
    refine exf_go 3 (show ((0 : Int32) = 0 → Go (d + 4) true 259 17 [.ref 130, .int (nI tt), .int 0, mk_] [] (uI h 130 0 0) Q) ∧ (¬ ((0 : Int32) = 0) → Go (d + 4) true 259 15 [.ref 130, .int (nI tt), .int 0, mk_] [] (uI h 130 0 0) Q) from ⟨fun c3 => ?_, fun c3 => ?_⟩)
    · skip
      refine exf_go 2 (show wpC (d + 4) true 248 [.ref 130] (uI h 130 0 0) (fun _ h' => Go (d + 4) true 259 21 [.ref 130, .int (nI tt), .int 0, mk_] [] h' Q) from ?_)
      have mdk := (md_M (h1 := uI h 130 0 0) md0 (Fq.uI' Fq.rfl' _ _ _ rfl))
      have qdk : Fq sDe h _ := M_D (h1 := uI h 130 0 0) (Fq.uI' Fq.rfl' _ _ _ rfl)
      refine m_keeps (fun h1 q1 hk1 => ?_)
      have ms1 := ms_fq mdk.1 (q1.mono (sAt_s (fun _ => rfl)))
      show Go (d + 4) true 259 21 [.ref 130, .int (nI tt), .int 0, mk_] [] h1 Q
      refine exf_go 3 (show wpC (d + 4) true 256 [.ref 130, .int (nI tt)] h1 (fun r h' => Go (d + 4) true 259 26 [.ref 130, .int (nI tt), .int 0, mk_] [r] h' Q) from ?_)
      have mt1 : MT tt (some (so, n, vs)) h1 := mt_same mt (q1.1 149 tt (sAt_f (by decide))).1 (q1.1 150 tt (sAt_f (by decide))).1 (fun i _ => (q1.1 151 _ (sAt_f (by decide))).2)
      refine m_evenings ms1 etr mt1 (fun h2 q2 ms2 => ?_)
      have mh2 : rI h2 131 371 = nI e.2.1 := (q2.1 131 371 rfl).1.trans ((q1.1 131 371 rfl).1.trans mdk.2.1)
      have hdl := evD_le g vs e.1 n; have hO2 := ms2.1.2.2.1; have qd2 : Fq sDe h h2 := (qdk.tr (q1.mono (sAt_s (fun _ => rfl)))).tr (go_D q2)
      show Go (d + 4) true 259 26 [.ref 130, .int (nI tt), .int 0, mk_] [.int (nI (evD g vs e.1 n))] h2 Q
      refine exf_go 3 (show ((nI (evD g vs e.1 n)) ≤ 0 → Go (d + 4) true 259 35 [.ref 130, .int (nI tt), .int 0, .int (nI (evD g vs e.1 n))] [] h2 Q) ∧ (¬ ((nI (evD g vs e.1 n)) ≤ 0) → Go (d + 4) true 259 31 [.ref 130, .int (nI tt), .int 0, .int (nI (evD g vs e.1 n))] [] h2 Q) from ⟨fun c4 => ?_, fun c4 => ?_⟩)
      · skip
        have c4 : (evD g vs e.1 n) ≤ 0 := (nI_leI (a := (evD g vs e.1 n)) (b := 0) (by omega) (by omega)).mp c4
        refine exf_go 2 (show Q (.int (nI (evD g vs e.1 n))) h2 from ?_)
        simp only [dPerf, et, hq] at k; rw [if_neg (by omega)] at k
        have e0 : evD g vs e.1 n = 0 := by omega
        rw [e0] at ms2
        exact k _ qd2 (md_0 (l := e.1) mdk q1 q2 ms2)
      · skip
        have c4 : ¬ (evD g vs e.1 n) ≤ 0 := fun q => c4 ((nI_leI (a := (evD g vs e.1 n)) (b := 0) (by omega) (by omega)).mpr q)
        refine exf_go 2 (show wpC (d + 4) true 250 [.ref 130] h2 (fun _ h' => Go (d + 4) true 259 35 [.ref 130, .int (nI tt), .int 0, .int (nI (evD g vs e.1 n))] [] h' Q) from ?_)
        refine m_notes mh2 hm8 (fun h3 q3 n0 n1 n2 => ?_)
        have md3 := md_note mdk q1 hk1 q2 ms2 q3 n0 n1 n2
        have qd3 : Fq sDe h h3 := qd2.tr (nt_D q3)
        show Go (d + 4) true 259 35 [.ref 130, .int (nI tt), .int 0, .int (nI (evD g vs e.1 n))] [] h3 Q
        refine exf_go 2 (show Q (.int (nI (evD g vs e.1 n))) h3 from ?_)
        simp only [dPerf, et, hq] at k; rw [if_pos (by omega)] at k; exact k _ qd3 md3
    · skip
      exact absurd (by decide) c3
theorem m_isAgain {d : Nat} {h : Hp} {Q : Po} (k : ∀ h1, Fq sGo h h1 → (∀ i, i < 321 → rI h1 131 (50 + i) = rI h 141 i) → Q mk_ h1) : wpC (d + 1) true 249 [.ref 130] h Q := by
  refine go_in rfl ?_
  refine exf_go 2 (show Go d true 249 2 [.ref 130, .int 0] [] h Q from ?_)
  have L2 : ∀ (k2 : Nat) (j : Nat) (h1 : Hp), (321 - j) < k2 → (j ≤ 321) → (Fq sGo h h1) → (∀ i, i < j → rI h1 131 (50 + i) = rI h 141 i) → Go d true 249 2 [.ref 130, .int (nI j)] [] h1 Q := by
    intro k2
    induction k2 with
    | zero => intro j h1 hk; exact absurd hk (Nat.not_lt_zero _)
    | succ k2 ih2 =>
      intro j h1 hk hj q1 hv
      refine exf_go 3 (show (321 ≤ (nI j) → Go d true 249 30 [.ref 130, .int (nI j)] [] h1 Q) ∧ (¬ (321 ≤ (nI j)) → Go d true 249 9 [.ref 130, .int (nI j)] [] h1 Q) from ⟨fun c1 => ?_, fun c1 => ?_⟩)
      · skip
        have c1 : 321 ≤ j := (nI_leI (a := 321) (b := j) (by omega) (by omega)).mp c1
        refine exf_go 1 (show Q (mk_) h1 from ?_)
        exact k h1 q1 (fun i hi => hv i (by omega))
      · skip
        have c1 : ¬ 321 ≤ j := fun q => c1 ((nI_leI (a := 321) (b := j) (by omega) (by omega)).mpr q)
        refine exf_go 5 (show Go d true 249 17 [.ref 130, .int (nI j)] [.int (50 + (nI j)), .ref 131] h1 Q from ?_)
        rw [show (50 + (nI j) : Int32) = nI (50 + j) from nI_add 50 j]
        refine exf_go 6 (show vp_in (nI j) 321 ∧ vp_in (nI (50 + j)) 41523 ∧ (Go d true 249 27 [.ref 130, .int ((nI j) + 1)] [] (uI h1 131 ((nI (50 + j)).toNatClampNeg) (rI h1 141 ((nI j).toNatClampNeg))) Q) from ⟨(vp_in_nI (by omega) (by omega)), (vp_in_nI (by omega) (by omega)), ?_⟩)
        rw [show ((nI j) + 1 : Int32) = nI (j + 1) from nI_add j 1]
        refine exf_go 1 (show Go d true 249 2 [.ref 130, .int (nI (j + 1))] [] (uI h1 131 ((nI (50 + j)).toNatClampNeg) (rI h1 141 ((nI j).toNatClampNeg))) Q from ?_)
        exact ih2 (j + 1) _ (by omega) (by omega) (q1.uI' _ _ _ (sGo_t (by rw [nI_clamp (by omega)]; omega) (by rw [nI_clamp (by omega)]; omega))) (fun i hi => by rw [nI_clamp (by omega)]; exact (Decidable.em (i = j)).elim (fun e => by rw [e, rI_uI_eq, nI_clamp (by omega), q1.I (a := 141) (fun _ => rfl)]) (fun e => by rw [rI_uI_at (by omega)]; exact hv i (by omega)))
  exact L2 (321 + 1) 0 h (by omega) (by omega) Fq.rfl' (fun i hi => absurd hi (Nat.not_lt_zero _))
/-- what was kept is back -/
theorem md_back {g : ShG} {e : DeG} {l : LkG} {h h1 h2 h3 h4 : Hp} (md : MD g e h) (q0 : Fq (sAt 141) h h1) (hk : ∀ i, i < 321 → rI h1 141 i = rI h 131 (50 + i)) (q1 : Fq sGo h1 h2) (q2 : Fq sOrd h2 h3) (q3 : Fq sGo h3 h4) (hv : ∀ i, i < 321 → rI h4 131 (50 + i) = rI h3 141 i) : MD g e h4 := by
  have e3 : rI h3 141 = rI h1 141 := (q2.I (fun _ => rfl)).trans (q1.I (fun _ => rfl))
  have hb : ∀ j, (j < 50 ∨ 370 < j) → rI h4 131 j = rI h 131 j := fun j u => (q3.1 131 j (sGo_f (by omega))).1.trans (((q2.1 131 j rfl).1).trans ((q1.1 131 j (sGo_f (by omega))).1.trans (q0.1 131 j rfl).1))
  refine ⟨ms_sn md.1 md.1.1.2 (sn_cg md.1.1.1 (sn_ms md.1) (fun j hj => ?_)) (fun j u v => hb j (by omega)), mh_D md.1.1.1 md.2 (fun i u v => hb i (by omega))⟩
  show rI h4 131 (50 + j) = rI h 131 (50 + j)
  rw [hv j hj, e3, hk j hj]
theorem ord_D {h h1 : Hp} (q : Fq sOrd h h1) : Fq sDe h h1 := M_D (q.mono sOrd_M)
theorem fj_y {g : ShG} {l : LkG} {tr : Nat → TrG} {x y : Int32} (h : ixN y 4 = none) : fJudge g l tr x y = -2 := by
  unfold fJudge
  rw [h]
  cases ixN x 4 <;> rfl
theorem m_judge {d : Nat} {h : Hp} {g : ShG} {e : DeG} {tr : Nat → TrG} {x y : Int32} {Q : Po} (md : MD g e h) (ma : MTA tr h) (k : ∀ h1, Fq sDe h h1 → MD g e h1 → Q (.int (fJudge g e.1 tr x y)) h1) : wpC (d + 6) true 258 [.ref 130, .int x, .int y] h Q := by
  have hN := tot_b md.1.1.1
  have h4 := md.1.1.1.1
  have md0 := md
  obtain ⟨ms, mh⟩ := md
  have hm8 := mh.2.1; have hO1 := ms.1.2.2.1; have hA := ms.1.2.1
  refine go_in rfl ?_
  refine exf_go 8 (show wpC (d + 5) true 183 [.long y.toInt64, .long 0, .long 3] (uI h 130 0 0) (fun r h' => Go (d + 5) true 258 14 [.ref 130, .int x, .int y, mk_, mk_, mk_, mk_] [r] h' Q) from ?_)
  refine m_within (fun u1 v1 => ?_) (fun u1 => ?_)
  · skip
    obtain ⟨jy, ey, eyq, eyr⟩ := wi_in (n := 4) (by decide) u1 v1
    subst eyq
    show Go (d + 5) true 258 14 [.ref 130, .int x, .int (nI jy), mk_, mk_, mk_, mk_] [.int 1] (uI h 130 0 0) Q
    refine exf_go 1 (show (¬ (1 : Int32) = 0 → Go (d + 5) true 258 20 [.ref 130, .int x, .int (nI jy), mk_, mk_, mk_, mk_] [] (uI h 130 0 0) Q) ∧ (¬ (¬ (1 : Int32) = 0) → Go (d + 5) true 258 17 [.ref 130, .int x, .int (nI jy), mk_, mk_, mk_, mk_] [] (uI h 130 0 0) Q) from ⟨fun c1 => ?_, fun c1 => ?_⟩)
    · skip
      refine exf_go 3 (show wpC (d + 5) true 257 [.ref 130, .int x] (uI h 130 0 0) (fun r h' => Go (d + 5) true 258 25 [.ref 130, .int x, .int (nI jy), mk_, mk_, mk_, mk_] [r] h' Q) from ?_)
      refine m_noTray (x := x) (mta_fq (s := scM) ma (Fq.uI' Fq.rfl' _ _ _ rfl) (fun _ => rfl) (fun _ => rfl) (fun _ => rfl)) (fun et => ?_) (fun tt et etq etr hq => ?_) (fun tt so n vs et etq etr hq mt => ?_)
      · skip
        show Go (d + 5) true 258 25 [.ref 130, .int x, .int (nI jy), mk_, mk_, mk_, mk_] [.int (-2)] (uI h 130 0 0) Q
        refine exf_go 3 (show (((-2) : Int32) = 0 → Go (d + 5) true 258 32 [.ref 130, .int x, .int (nI jy), .int (-2), mk_, mk_, mk_] [] (uI h 130 0 0) Q) ∧ (¬ (((-2) : Int32) = 0) → Go (d + 5) true 258 30 [.ref 130, .int x, .int (nI jy), .int (-2), mk_, mk_, mk_] [] (uI h 130 0 0) Q) from ⟨fun c2 => ?_, fun c2 => ?_⟩)
        · skip
          exact absurd c2 (by decide)
        · skip
          refine exf_go 2 (show Q (.int (-2)) (uI h 130 0 0) from ?_)
          simp only [fJudge, et] at k
          exact k _ (M_D (Fq.uI' Fq.rfl' _ _ _ rfl)) (md_M (h1 := uI h 130 0 0) md0 (Fq.uI' Fq.rfl' _ _ _ rfl))
      · skip
        subst etq
        show Go (d + 5) true 258 25 [.ref 130, .int (nI tt), .int (nI jy), mk_, mk_, mk_, mk_] [.int (-6)] (uI h 130 0 0) Q
        refine exf_go 3 (show (((-6) : Int32) = 0 → Go (d + 5) true 258 32 [.ref 130, .int (nI tt), .int (nI jy), .int (-6), mk_, mk_, mk_] [] (uI h 130 0 0) Q) ∧ (¬ (((-6) : Int32) = 0) → Go (d + 5) true 258 30 [.ref 130, .int (nI tt), .int (nI jy), .int (-6), mk_, mk_, mk_] [] (uI h 130 0 0) Q) from ⟨fun c3 => ?_, fun c3 => ?_⟩)
        · skip
          exact absurd c3 (by decide)
        · skip
          refine exf_go 2 (show Q (.int (-6)) (uI h 130 0 0) from ?_)
          simp only [fJudge, et, ey, hq] at k
          exact k _ (M_D (Fq.uI' Fq.rfl' _ _ _ rfl)) (md_M (h1 := uI h 130 0 0) md0 (Fq.uI' Fq.rfl' _ _ _ rfl))
      · skip
        subst etq
        have hn4 := mt.2.1; have hs3 := mt.1
        show Go (d + 5) true 258 25 [.ref 130, .int (nI tt), .int (nI jy), mk_, mk_, mk_, mk_] [.int 0] (uI h 130 0 0) Q
        refine exf_go 3 (show ((0 : Int32) = 0 → Go (d + 5) true 258 32 [.ref 130, .int (nI tt), .int (nI jy), .int 0, mk_, mk_, mk_] [] (uI h 130 0 0) Q) ∧ (¬ ((0 : Int32) = 0) → Go (d + 5) true 258 30 [.ref 130, .int (nI tt), .int (nI jy), .int 0, mk_, mk_, mk_] [] (uI h 130 0 0) Q) from ⟨fun c4 => ?_, fun c4 => ?_⟩)
        · skip
          refine exf_go 2 (show wpC (d + 5) true 248 [.ref 130] (uI h 130 0 0) (fun _ h' => Go (d + 5) true 258 36 [.ref 130, .int (nI tt), .int (nI jy), .int 0, mk_, mk_, mk_] [] h' Q) from ?_)
          have mdk := (md_M (h1 := uI h 130 0 0) md0 (Fq.uI' Fq.rfl' _ _ _ rfl))
          have qdk : Fq sDe h _ := M_D (h1 := uI h 130 0 0) (Fq.uI' Fq.rfl' _ _ _ rfl)
          refine m_keeps (fun h1 q1 hk1 => ?_)
          have ms1 := ms_fq mdk.1 (q1.mono (sAt_s (fun _ => rfl)))
          show Go (d + 5) true 258 36 [.ref 130, .int (nI tt), .int (nI jy), .int 0, mk_, mk_, mk_] [] h1 Q
          refine exf_go 3 (show wpC (d + 5) true 256 [.ref 130, .int (nI tt)] h1 (fun r h' => Go (d + 5) true 258 41 [.ref 130, .int (nI tt), .int (nI jy), .int 0, mk_, mk_, mk_] [r] h' Q) from ?_)
          have mt1 : MT tt (some (so, n, vs)) h1 := mt_same mt (q1.1 149 tt (sAt_f (by decide))).1 (q1.1 150 tt (sAt_f (by decide))).1 (fun i _ => (q1.1 151 _ (sAt_f (by decide))).2)
          refine m_evenings ms1 etr mt1 (fun h2 q2 ms2 => ?_)
          have mh2 : rI h2 131 371 = nI e.2.1 := (q2.1 131 371 rfl).1.trans ((q1.1 131 371 rfl).1.trans mdk.2.1)
          have hdl := evD_le g vs e.1 n; have hO2 := ms2.1.2.2.1; have qd2 : Fq sDe h h2 := (qdk.tr (q1.mono (sAt_s (fun _ => rfl)))).tr (go_D q2)
          show Go (d + 5) true 258 41 [.ref 130, .int (nI tt), .int (nI jy), .int 0, mk_, mk_, mk_] [.int (nI (evD g vs e.1 n))] h2 Q
          refine exf_go 5 (show vp_in 51 41523 ∧ (Go (d + 5) true 258 50 [.ref 130, .int (nI tt), .int (nI jy), .int 0, .int (nI (evD g vs e.1 n)), mk_, mk_] [.int (rI h2 131 51)] h2 Q) from ⟨(vp_in_nI (n := 51) (by decide) (by decide)), ?_⟩)
          rw [show (rI h2 131 51 : Int32) = lX (evL g vs e.1 (evD g vs e.1 n)) from ms_X ms2]
          refine exf_go 4 (show vp_in 1 321 ∧ (Go (d + 5) true 258 56 [.ref 130, .int (nI tt), .int (nI jy), .int 0, .int (nI (evD g vs e.1 n)), mk_, mk_] [.int (rI h2 141 1), .int (lX (evL g vs e.1 (evD g vs e.1 n)))] h2 Q) from ⟨(vp_in_nI (n := 1) (by decide) (by decide)), ?_⟩)
          rw [show (rI h2 141 1 : Int32) = lX e.1 from (congrFun (q2.I (a := 141) (fun _ => rfl)) 1).trans ((hk1 1 (by decide)).trans (ms_X mdk.1))]
          refine exf_go 6 (show vp_in 53 41523 ∧ (Go (d + 5) true 258 66 [.ref 130, .int (nI tt), .int (nI jy), .int 0, .int (nI (evD g vs e.1 n)), .int ((lX (evL g vs e.1 (evD g vs e.1 n))) - (lX e.1)), mk_] [.int (rI h2 131 53)] h2 Q) from ⟨(vp_in_nI (n := 53) (by decide) (by decide)), ?_⟩)
          rw [show (rI h2 131 53 : Int32) = nI (lO (evL g vs e.1 (evD g vs e.1 n))) from ms_Op ms2]
          refine exf_go 3 (show wpC (d + 5) true 228 [.ref 130] h2 (fun _ h' => Go (d + 5) true 258 72 [.ref 130, .int (nI tt), .int (nI jy), .int 0, .int (nI (evD g vs e.1 n)), .int ((lX (evL g vs e.1 (evD g vs e.1 n))) - (lX e.1)), .int (nI (lO (evL g vs e.1 (evD g vs e.1 n))))] [] h' Q) from ?_)
          refine m_left2 ms2 (fun h3 q3 mw3 mo3 => ?_)
          show Go (d + 5) true 258 72 [.ref 130, .int (nI tt), .int (nI jy), .int 0, .int (nI (evD g vs e.1 n)), .int ((lX (evL g vs e.1 (evD g vs e.1 n))) - (lX e.1)), .int (nI (lO (evL g vs e.1 (evD g vs e.1 n))))] [] h3 Q
          refine exf_go 2 (show wpC (d + 5) true 249 [.ref 130] h3 (fun _ h' => Go (d + 5) true 258 76 [.ref 130, .int (nI tt), .int (nI jy), .int 0, .int (nI (evD g vs e.1 n)), .int ((lX (evL g vs e.1 (evD g vs e.1 n))) - (lX e.1)), .int (nI (lO (evL g vs e.1 (evD g vs e.1 n))))] [] h' Q) from ?_)
          refine m_isAgain (fun h4 q4 hv4 => ?_)
          have md4 := md_back (l := e.1) mdk q1 hk1 q2 q3 q4 hv4
          have qd4 : Fq sDe h h4 := (qd2.tr (ord_D q3)).tr (go_D q4)
          have hmn : rI h4 130 22 = nI (cntN (lft g (evL g vs e.1 (evD g vs e.1 n))) (tot g)) := ((q4.1 130 22 (sGo_ne (by decide))).1).trans mo3.1
          have hrm : rI h4 150 tt = nI n := ((q4.1 150 tt (sGo_ne (by decide))).1).trans (((q3.1 150 tt rfl).1).trans (((q2.1 150 tt (sGo_ne (by decide))).1).trans mt1.2.2.2.1))
          show Go (d + 5) true 258 76 [.ref 130, .int (nI tt), .int (nI jy), .int 0, .int (nI (evD g vs e.1 n)), .int ((lX (evL g vs e.1 (evD g vs e.1 n))) - (lX e.1)), .int (nI (lO (evL g vs e.1 (evD g vs e.1 n))))] [] h4 Q
          refine exf_go 2 (show (¬ (nI jy) = 0 → Go (d + 5) true 258 100 [.ref 130, .int (nI tt), .int (nI jy), .int 0, .int (nI (evD g vs e.1 n)), .int ((lX (evL g vs e.1 (evD g vs e.1 n))) - (lX e.1)), .int (nI (lO (evL g vs e.1 (evD g vs e.1 n))))] [] h4 Q) ∧ (¬ (¬ (nI jy) = 0) → Go (d + 5) true 258 80 [.ref 130, .int (nI tt), .int (nI jy), .int 0, .int (nI (evD g vs e.1 n)), .int ((lX (evL g vs e.1 (evD g vs e.1 n))) - (lX e.1)), .int (nI (lO (evL g vs e.1 (evD g vs e.1 n))))] [] h4 Q) from ⟨fun c5 => ?_, fun c5 => ?_⟩)
          · skip
            have c5 : ¬ jy = 0 := fun q => c5 ((nI_eq (a := jy) (b := 0) (by omega) (by omega)).mpr q)
            refine exf_go 3 (show (¬ (nI jy) = 1 → Go (d + 5) true 258 110 [.ref 130, .int (nI tt), .int (nI jy), .int 0, .int (nI (evD g vs e.1 n)), .int ((lX (evL g vs e.1 (evD g vs e.1 n))) - (lX e.1)), .int (nI (lO (evL g vs e.1 (evD g vs e.1 n))))] [] h4 Q) ∧ (¬ (¬ (nI jy) = 1) → Go (d + 5) true 258 105 [.ref 130, .int (nI tt), .int (nI jy), .int 0, .int (nI (evD g vs e.1 n)), .int ((lX (evL g vs e.1 (evD g vs e.1 n))) - (lX e.1)), .int (nI (lO (evL g vs e.1 (evD g vs e.1 n))))] [] h4 Q) from ⟨fun c6 => ?_, fun c6 => ?_⟩)
            · skip
              have c6 : ¬ jy = 1 := fun q => c6 ((nI_eq (a := jy) (b := 1) (by omega) (by omega)).mpr q)
              refine exf_go 3 (show (¬ (nI jy) = 2 → Go (d + 5) true 258 120 [.ref 130, .int (nI tt), .int (nI jy), .int 0, .int (nI (evD g vs e.1 n)), .int ((lX (evL g vs e.1 (evD g vs e.1 n))) - (lX e.1)), .int (nI (lO (evL g vs e.1 (evD g vs e.1 n))))] [] h4 Q) ∧ (¬ (¬ (nI jy) = 2) → Go (d + 5) true 258 115 [.ref 130, .int (nI tt), .int (nI jy), .int 0, .int (nI (evD g vs e.1 n)), .int ((lX (evL g vs e.1 (evD g vs e.1 n))) - (lX e.1)), .int (nI (lO (evL g vs e.1 (evD g vs e.1 n))))] [] h4 Q) from ⟨fun c7 => ?_, fun c7 => ?_⟩)
              · skip
                have c7 : ¬ jy = 2 := fun q => c7 ((nI_eq (a := jy) (b := 2) (by omega) (by omega)).mpr q)
                refine exf_go 2 (show Go (d + 5) true 258 124 [.ref 130, .int (nI tt), .int (nI jy), .int 0, .int (nI (evD g vs e.1 n)), .int ((lX (evL g vs e.1 (evD g vs e.1 n))) - (lX e.1)), .int (nI (lO (evL g vs e.1 (evD g vs e.1 n))))] [.int (rI h4 130 22)] h4 Q from ?_)
                rw [show (rI h4 130 22 : Int32) = nI (cntN (lft g (evL g vs e.1 (evD g vs e.1 n))) (tot g)) from hmn]
                refine exf_go 1 (show Q (.int (nI (cntN (lft g (evL g vs e.1 (evD g vs e.1 n))) (tot g)))) h4 from ?_)
                simp only [fJudge, et, ey, hq] at k
                have kk := k h4 qd4 md4
                rw [if_neg (by omega), if_neg (by omega), if_neg (by omega)] at kk; exact kk
              · skip
                have c7 : jy = 2 := (nI_eq (a := jy) (b := 2) (by omega) (by omega)).mp (Classical.not_not.mp c7)
                refine exf_go 3 (show Q (.int (nI (lO (evL g vs e.1 (evD g vs e.1 n))))) h4 from ?_)
                simp only [fJudge, et, ey, hq] at k
                have kk := k h4 qd4 md4
                rw [if_neg (by omega), if_neg (by omega), if_pos (by omega)] at kk; exact kk
            · skip
              have c6 : jy = 1 := (nI_eq (a := jy) (b := 1) (by omega) (by omega)).mp (Classical.not_not.mp c6)
              refine exf_go 3 (show Q (.int ((lX (evL g vs e.1 (evD g vs e.1 n))) - (lX e.1))) h4 from ?_)
              simp only [fJudge, et, ey, hq] at k
              have kk := k h4 qd4 md4
              rw [if_neg (by omega), if_pos (by omega)] at kk; exact kk
          · skip
            have c5 : jy = 0 := (nI_eq (a := jy) (b := 0) (by omega) (by omega)).mp (Classical.not_not.mp c5)
            refine exf_go 5 (show vp_in (nI tt) 4 ∧ (Go (d + 5) true 258 88 [.ref 130, .int (nI tt), .int (nI jy), .int 0, .int (nI (evD g vs e.1 n)), .int ((lX (evL g vs e.1 (evD g vs e.1 n))) - (lX e.1)), .int (nI (lO (evL g vs e.1 (evD g vs e.1 n))))] [.int (rI h4 150 ((nI tt).toNatClampNeg)), .int (nI (evD g vs e.1 n))] h4 Q) from ⟨(vp_in_nI (by omega) (by omega)), ?_⟩)
            rw [show (rI h4 150 ((nI tt).toNatClampNeg) : Int32) = nI n from by rw [nI_clamp (by omega)]; exact hrm]
            refine exf_go 1 (show (¬ (nI (evD g vs e.1 n)) = (nI n) → Go (d + 5) true 258 95 [.ref 130, .int (nI tt), .int (nI jy), .int 0, .int (nI (evD g vs e.1 n)), .int ((lX (evL g vs e.1 (evD g vs e.1 n))) - (lX e.1)), .int (nI (lO (evL g vs e.1 (evD g vs e.1 n))))] [] h4 Q) ∧ (¬ (¬ (nI (evD g vs e.1 n)) = (nI n)) → Go (d + 5) true 258 91 [.ref 130, .int (nI tt), .int (nI jy), .int 0, .int (nI (evD g vs e.1 n)), .int ((lX (evL g vs e.1 (evD g vs e.1 n))) - (lX e.1)), .int (nI (lO (evL g vs e.1 (evD g vs e.1 n))))] [] h4 Q) from ⟨fun c8 => ?_, fun c8 => ?_⟩)
            · skip
              have c8 : ¬ (evD g vs e.1 n) = n := fun q => c8 ((nI_eq (a := (evD g vs e.1 n)) (b := n) (by omega) (by omega)).mpr q)
              refine exf_go 3 (show Q (.int (nI (evD g vs e.1 n))) h4 from ?_)
              simp only [fJudge, et, ey, hq] at k
              have kk := k h4 qd4 md4
              rw [if_pos (by omega), if_pos (by omega)] at kk; exact kk
            · skip
              have c8 : (evD g vs e.1 n) = n := (nI_eq (a := (evD g vs e.1 n)) (b := n) (by omega) (by omega)).mp (Classical.not_not.mp c8)
              refine exf_go 3 (show Q (.int (-1)) h4 from ?_)
              simp only [fJudge, et, ey, hq] at k
              have kk := k h4 qd4 md4
              rw [if_pos (by omega), if_neg (by omega)] at kk; exact kk
        · skip
          exact absurd (by decide) c4
    · skip
      exact absurd (by decide) c1
  · skip
    have ey : ixN y 4 = none := u1.elim wi_neg (wi_ge (n := 4) (by decide))
    show Go (d + 5) true 258 14 [.ref 130, .int x, .int y, mk_, mk_, mk_, mk_] [.int 0] (uI h 130 0 0) Q
    refine exf_go 1 (show (¬ (0 : Int32) = 0 → Go (d + 5) true 258 20 [.ref 130, .int x, .int y, mk_, mk_, mk_, mk_] [] (uI h 130 0 0) Q) ∧ (¬ (¬ (0 : Int32) = 0) → Go (d + 5) true 258 17 [.ref 130, .int x, .int y, mk_, mk_, mk_, mk_] [] (uI h 130 0 0) Q) from ⟨fun c9 => ?_, fun c9 => ?_⟩)
    · skip
      exact absurd c9 (by decide)
    · skip
      refine exf_go 2 (show Q (.int (-2)) (uI h 130 0 0) from ?_)
      rw [fj_y ey] at k
      exact k _ (M_D (Fq.uI' Fq.rfl' _ _ _ rfl)) (md_M (h1 := uI h 130 0 0) md0 (Fq.uI' Fq.rfl' _ _ _ rfl))
