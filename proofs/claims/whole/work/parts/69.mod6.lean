/-! The model: hidden, telling. -/
def sOrd (a i : Nat) : Bool := (Nat.ble 137 a && Nat.ble a 140) || (Nat.beq a 130 && Nat.beq i 22)
theorem sOrd_M (a i : Nat) (h : scM a i = false) : sOrd a i = false := by
  unfold scM at h
  unfold sOrd
  simp only [Bool.or_eq_false_iff] at h ⊢
  constructor
  · cases e : (Nat.ble 137 a && Nat.ble a 140) with
    | false => rfl
    | true =>
      simp only [Bool.and_eq_true, Nat.ble_eq] at e
      have h2 := h.1
      rw [Nat.ble_eq.mpr (show 135 ≤ a by omega), Nat.ble_eq.mpr (show a ≤ 148 by omega)] at h2
      exact Bool.noConfusion h2
  · cases e : (Nat.beq a 130 && Nat.beq i 22) with
    | false => rfl
    | true =>
      simp only [Bool.and_eq_true] at e
      have h2 := h.2
      rw [Nat.eq_of_beq_eq_true e.1, Nat.eq_of_beq_eq_true e.2] at h2
      exact Bool.noConfusion h2
theorem s78_O (a i : Nat) (h : sOrd a i = false) : s78 a i = false := by
  unfold s78
  cases e : Nat.beq a 137 with
  | true => rw [Nat.eq_of_beq_eq_true e] at h; exact Bool.noConfusion h
  | false =>
    cases e2 : Nat.beq a 138 with
    | true => rw [Nat.eq_of_beq_eq_true e2] at h; exact Bool.noConfusion h
    | false => rfl
theorem m_lays0 {d : Nat} {h : Hp} {g : ShG} {l : LkG} {kn : Nat} {Q : Po} (ms : MS g l h) (hk0 : kn < 256) (k : ∀ h1, Fq sOrd h h1 → MW g kn h1 → MO (elg g l kn false) g kn h1 → Q mk_ h1) : wpC (d + 4) true 227 [.ref 130, .int (nI kn), .int 0] h Q := by
  have h8 := ms.1.1.2.2.2.1
  have hN := tot_b ms.1.1
  refine go_in rfl ?_
  refine exf_go 3 (show wpC (d + 3) true 225 [.ref 130, .int (nI kn)] h (fun _ h' => Go (d + 3) true 227 5 [.ref 130, .int (nI kn), .int 0, mk_] [] h' Q) from ?_)
  refine m_ranks ms (by omega) (fun h1 q1' mw1 mr1 => ?_)
  have q1 : Fq sOrd h h1 := q1'.mono s78_O
  have ms1 := ms_fq ms (q1.mono sOrd_M)
  show Go (d + 3) true 227 5 [.ref 130, .int (nI kn), .int 0, mk_] [] h1 Q
  refine exf_go 2 (show Go (d + 3) true 227 7 [.ref 130, .int (nI kn), .int 0, .int 0] [] h1 Q from ?_)
  have L7 : ∀ (k7 : Nat) (m : Nat) (h2 : Hp), (257 - m) < k7 → (m ≤ 257) → (Fq sOrd h h2) → (MW g kn h2) → (MR g kn h2) → (∀ j, j < m → rI h2 139 j = nI 0) → Go (d + 3) true 227 7 [.ref 130, .int (nI kn), .int 0, .int (nI m)] [] h2 Q := by
    intro k7
    induction k7 with
    | zero => intro m h2 hk; exact absurd hk (Nat.not_lt_zero _)
    | succ k7 ih7 =>
      intro m h2 hk hm q2 mw2 mr2 hb
      refine exf_go 3 (show (257 ≤ (nI m) → Go (d + 3) true 227 27 [.ref 130, .int (nI kn), .int 0, .int (nI m)] [] h2 Q) ∧ (¬ (257 ≤ (nI m)) → Go (d + 3) true 227 14 [.ref 130, .int (nI kn), .int 0, .int (nI m)] [] h2 Q) from ⟨fun c2 => ?_, fun c2 => ?_⟩)
      · skip
        have c2 : 257 ≤ m := (nI_leI (a := 257) (b := m) (by omega) (by omega)).mp c2
        refine exf_go 5 (show Go (d + 3) true 227 34 [.ref 130, .int (nI kn), .int 0, .int 0] [] (uI h2 130 22 0) Q from ?_)
        have L34 : ∀ (k34 : Nat) (n : Nat) (h3 : Hp), (tot g - n) < k34 → (n ≤ tot g) → (Fq sOrd h h3) → (MW g kn h3) → (MR g kn h3) → (∀ j, j < 257 → rI h3 139 j = nI (bgA (elg g l kn false) (rkN g kn) n j)) → (rI h3 130 22 = nI (cntN (elg g l kn false) n)) → Go (d + 3) true 227 34 [.ref 130, .int (nI kn), .int 0, .int (nI n)] [] h3 Q := by
          intro k34
          induction k34 with
          | zero => intro n h3 hk; exact absurd hk (Nat.not_lt_zero _)
          | succ k34 ih34 =>
            intro n h3 hk hn q3 mw3 mr3 hb3 hm3
            have ms3 := ms_fq ms (q3.mono sOrd_M)
            have hr3 := rkN_b ms.1.1 kn n
            have hs3 := sH_b ms.1.1 n
            have hbb := bg_b (elg g l kn false) (rkN g kn) n (rkN g kn n + 1)
            have hcc := cntN_le (elg g l kn false) n
            refine exf_go 5 (show vp_in 4 41523 ∧ (Go (d + 3) true 227 41 [.ref 130, .int (nI kn), .int 0, .int (nI n)] [.int (rI h3 131 4), .int (nI n)] h3 Q) from ⟨(vp_in_nI (n := 4) (by decide) (by decide)), ?_⟩)
            rw [show (rI h3 131 4 : Int32) = nI (tot g) from ms_N ms3]
            refine exf_go 1 (show ((nI (tot g)) ≤ (nI n) → Go (d + 3) true 227 98 [.ref 130, .int (nI kn), .int 0, .int (nI n)] [] h3 Q) ∧ (¬ ((nI (tot g)) ≤ (nI n)) → Go (d + 3) true 227 44 [.ref 130, .int (nI kn), .int 0, .int (nI n)] [] h3 Q) from ⟨fun c3 => ?_, fun c3 => ?_⟩)
            · skip
              have c3 : (tot g) ≤ n := (nI_leI (a := (tot g)) (b := n) (by omega) (by omega)).mp c3
              refine exf_go 2 (show Go (d + 3) true 227 100 [.ref 130, .int (nI kn), .int 0, .int 0] [] h3 Q from ?_)
              have L100 : ∀ (k100 : Nat) (m : Nat) (h4 : Hp), (256 - m) < k100 → (m ≤ 256) → (Fq sOrd h h4) → (MW g kn h4) → (MR g kn h4) → (∀ j, j < 257 → rI h4 139 j = nI (pfx (elg g l kn false) (rkN g kn) (tot g) m j)) → (rI h4 130 22 = nI (cntN (elg g l kn false) (tot g))) → Go (d + 3) true 227 100 [.ref 130, .int (nI kn), .int 0, .int (nI m)] [] h4 Q := by
                intro k100
                induction k100 with
                | zero => intro m h4 hk; exact absurd hk (Nat.not_lt_zero _)
                | succ k100 ih100 =>
                  intro m h4 hk hm4 q4 mw4 mr4 hb4 hmy
                  have hp1 := pfx_b (elg g l kn false) (rkN g kn) (tot g) m m; have hp2 := pfx_b (elg g l kn false) (rkN g kn) (tot g) m (m + 1)
                  refine exf_go 3 (show (256 ≤ (nI m) → Go (d + 3) true 227 130 [.ref 130, .int (nI kn), .int 0, .int (nI m)] [] h4 Q) ∧ (¬ (256 ≤ (nI m)) → Go (d + 3) true 227 107 [.ref 130, .int (nI kn), .int 0, .int (nI m)] [] h4 Q) from ⟨fun c4 => ?_, fun c4 => ?_⟩)
                  · skip
                    have c4 : 256 ≤ m := (nI_leI (a := 256) (b := m) (by omega) (by omega)).mp c4
                    refine exf_go 2 (show Go (d + 3) true 227 132 [.ref 130, .int (nI kn), .int 0, .int 0] [] h4 Q from ?_)
                    have L132 : ∀ (k132 : Nat) (n : Nat) (h5 : Hp), (tot g - n) < k132 → (n ≤ tot g) → (Fq sOrd h h5) → (MW g kn h5) → (MR g kn h5) → (∀ j, j < 256 → rI h5 139 j = nI (fnB (elg g l kn false) (rkN g kn) (tot g) n j)) → (rI h5 130 22 = nI (cntN (elg g l kn false) (tot g))) → (∀ m, m < n → (elg g l kn false) m = true → rI h5 140 (pos (elg g l kn false) (rkN g kn) (tot g) m) = nI m) → Go (d + 3) true 227 132 [.ref 130, .int (nI kn), .int 0, .int (nI n)] [] h5 Q := by
                      intro k132
                      induction k132 with
                      | zero => intro n h5 hk; exact absurd hk (Nat.not_lt_zero _)
                      | succ k132 ih132 =>
                        intro n h5 hk hn5 q5 mw5 mr5 hb5 hmy5 ho5
                        have ms5 := ms_fq ms (q5.mono sOrd_M)
                        have hr5 := rkN_b ms.1.1 kn n
                        have hs5 := sH_b ms.1.1 n
                        refine exf_go 5 (show vp_in 4 41523 ∧ (Go (d + 3) true 227 139 [.ref 130, .int (nI kn), .int 0, .int (nI n)] [.int (rI h5 131 4), .int (nI n)] h5 Q) from ⟨(vp_in_nI (n := 4) (by decide) (by decide)), ?_⟩)
                        rw [show (rI h5 131 4 : Int32) = nI (tot g) from ms_N ms5]
                        refine exf_go 1 (show ((nI (tot g)) ≤ (nI n) → Go (d + 3) true 227 210 [.ref 130, .int (nI kn), .int 0, .int (nI n)] [] h5 Q) ∧ (¬ ((nI (tot g)) ≤ (nI n)) → Go (d + 3) true 227 142 [.ref 130, .int (nI kn), .int 0, .int (nI n)] [] h5 Q) from ⟨fun c5 => ?_, fun c5 => ?_⟩)
                        · skip
                          have c5 : (tot g) ≤ n := (nI_leI (a := (tot g)) (b := n) (by omega) (by omega)).mp c5
                          refine exf_go 1 (show Q (mk_) h5 from ?_)
                          exact k h5 q5 mw5 ⟨hmy5, fun m hm hE => ho5 m (by omega) hE⟩
                        · skip
                          have c5 : ¬ (tot g) ≤ n := fun q => c5 ((nI_leI (a := (tot g)) (b := n) (by omega) (by omega)).mpr q)
                          refine exf_go 4 (show wpC (d + 3) true 226 [.ref 130, .int (nI n), .int 0] h5 (fun r h' => Go (d + 3) true 227 148 [.ref 130, .int (nI kn), .int 0, .int (nI n)] [r] h' Q) from ?_)
                          refine m_isLeft0 ms5 mw5 (by omega) (fun b6 => ?_) (fun b6 => ?_)
                          · skip
                            have hpl := pos_lt (rk := rkN g kn) (N := tot g) (n := n) (by omega) b6; have hcc := cntN_le (elg g l kn false) (tot g)
                            show Go (d + 3) true 227 148 [.ref 130, .int (nI kn), .int 0, .int (nI n)] [.int 1] h5 Q
                            refine exf_go 1 (show (¬ (1 : Int32) = 0 → Go (d + 3) true 227 154 [.ref 130, .int (nI kn), .int 0, .int (nI n)] [] h5 Q) ∧ (¬ (¬ (1 : Int32) = 0) → Go (d + 3) true 227 151 [.ref 130, .int (nI kn), .int 0, .int (nI n)] [] h5 Q) from ⟨fun c7 => ?_, fun c7 => ?_⟩)
                            · skip
                              refine exf_go 11 (show Go (d + 3) true 227 175 [.ref 130, .int (nI kn), .int 0, .int (nI n)] [.int (3841 + (nI n)), .ref 131, .ref 138, .ref 139, .ref 140] h5 Q from ?_)
                              rw [show (3841 + (nI n) : Int32) = nI (3841 + n) from nI_add 3841 n]
                              refine exf_go 1 (show vp_in (nI (3841 + n)) 41523 ∧ (Go (d + 3) true 227 176 [.ref 130, .int (nI kn), .int 0, .int (nI n)] [.int (rI h5 131 ((nI (3841 + n)).toNatClampNeg)), .ref 138, .ref 139, .ref 140] h5 Q) from ⟨(vp_in_nI (by omega) (by omega)), ?_⟩)
                              rw [show (rI h5 131 ((nI (3841 + n)).toNatClampNeg) : Int32) = nI (sH g n) from ms_H ms5 (n := n) (by omega)]
                              have := sH_b ms5.1.1 n
                              refine exf_go 1 (show vp_in (nI (sH g n)) 256 ∧ (Go (d + 3) true 227 177 [.ref 130, .int (nI kn), .int 0, .int (nI n)] [.int (rI h5 138 ((nI (sH g n)).toNatClampNeg)), .ref 139, .ref 140] h5 Q) from ⟨(vp_in_nI (by omega) (by omega)), ?_⟩)
                              rw [show (rI h5 138 ((nI (sH g n)).toNatClampNeg) : Int32) = nI (rkN g kn n) from mr_at ms5 mr5 n]
                              refine exf_go 1 (show vp_in (nI (rkN g kn n)) 257 ∧ (Go (d + 3) true 227 178 [.ref 130, .int (nI kn), .int 0, .int (nI n)] [.int (rI h5 139 ((nI (rkN g kn n)).toNatClampNeg)), .ref 140] h5 Q) from ⟨(vp_in_nI (by omega) (by omega)), ?_⟩)
                              rw [show (rI h5 139 ((nI (rkN g kn n)).toNatClampNeg) : Int32) = nI (pos (elg g l kn false) (rkN g kn) (tot g) n) from by rw [nI_clamp (by omega)]; exact hb5 _ (by omega)]
                              refine exf_go 11 (show vp_in (nI (pos (elg g l kn false) (rkN g kn) (tot g) n)) 10000 ∧ (Go (d + 3) true 227 197 [.ref 130, .int (nI kn), .int 0, .int (nI n)] [.int (3841 + (nI n)), .ref 131, .ref 138, .ref 139] (uI h5 140 ((nI (pos (elg g l kn false) (rkN g kn) (tot g) n)).toNatClampNeg) (nI n)) Q) from ⟨(vp_in_nI (by omega) (by omega)), ?_⟩)
                              rw [show (3841 + (nI n) : Int32) = nI (3841 + n) from nI_add 3841 n]
                              refine exf_go 1 (show vp_in (nI (3841 + n)) 41523 ∧ (Go (d + 3) true 227 198 [.ref 130, .int (nI kn), .int 0, .int (nI n)] [.int (rI h5 131 ((nI (3841 + n)).toNatClampNeg)), .ref 138, .ref 139] (uI h5 140 ((nI (pos (elg g l kn false) (rkN g kn) (tot g) n)).toNatClampNeg) (nI n)) Q) from ⟨(vp_in_nI (by omega) (by omega)), ?_⟩)
                              rw [show (rI h5 131 ((nI (3841 + n)).toNatClampNeg) : Int32) = nI (sH g n) from ms_H ms5 (n := n) (by omega)]
                              have := sH_b ms5.1.1 n
                              refine exf_go 1 (show vp_in (nI (sH g n)) 256 ∧ (Go (d + 3) true 227 199 [.ref 130, .int (nI kn), .int 0, .int (nI n)] [.int (rI h5 138 ((nI (sH g n)).toNatClampNeg)), .ref 139] (uI h5 140 ((nI (pos (elg g l kn false) (rkN g kn) (tot g) n)).toNatClampNeg) (nI n)) Q) from ⟨(vp_in_nI (by omega) (by omega)), ?_⟩)
                              rw [show (rI h5 138 ((nI (sH g n)).toNatClampNeg) : Int32) = nI (rkN g kn n) from mr_at ms5 mr5 n]
                              refine exf_go 2 (show vp_in (nI (rkN g kn n)) 257 ∧ (Go (d + 3) true 227 201 [.ref 130, .int (nI kn), .int 0, .int (nI n)] [.int (rI h5 139 ((nI (rkN g kn n)).toNatClampNeg)), .int (nI (rkN g kn n)), .ref 139] (uI h5 140 ((nI (pos (elg g l kn false) (rkN g kn) (tot g) n)).toNatClampNeg) (nI n)) Q) from ⟨(vp_in_nI (by omega) (by omega)), ?_⟩)
                              rw [show (rI h5 139 ((nI (rkN g kn n)).toNatClampNeg) : Int32) = nI (pos (elg g l kn false) (rkN g kn) (tot g) n) from by rw [nI_clamp (by omega)]; exact hb5 _ (by omega)]
                              refine exf_go 2 (show Go (d + 3) true 227 203 [.ref 130, .int (nI kn), .int 0, .int (nI n)] [.int ((nI (pos (elg g l kn false) (rkN g kn) (tot g) n)) + 1), .int (nI (rkN g kn n)), .ref 139] (uI h5 140 ((nI (pos (elg g l kn false) (rkN g kn) (tot g) n)).toNatClampNeg) (nI n)) Q from ?_)
                              rw [show ((nI (pos (elg g l kn false) (rkN g kn) (tot g) n)) + 1 : Int32) = nI ((pos (elg g l kn false) (rkN g kn) (tot g) n) + 1) from nI_add (pos (elg g l kn false) (rkN g kn) (tot g) n) 1]
                              refine exf_go 2 (show vp_in (nI (rkN g kn n)) 257 ∧ (Go (d + 3) true 227 207 [.ref 130, .int (nI kn), .int 0, .int ((nI n) + 1)] [] (uI (uI h5 140 ((nI (pos (elg g l kn false) (rkN g kn) (tot g) n)).toNatClampNeg) (nI n)) 139 ((nI (rkN g kn n)).toNatClampNeg) (nI ((pos (elg g l kn false) (rkN g kn) (tot g) n) + 1))) Q) from ⟨(vp_in_nI (by omega) (by omega)), ?_⟩)
                              rw [show ((nI n) + 1 : Int32) = nI (n + 1) from nI_add n 1]
                              refine exf_go 1 (show Go (d + 3) true 227 132 [.ref 130, .int (nI kn), .int 0, .int (nI (n + 1))] [] (uI (uI h5 140 ((nI (pos (elg g l kn false) (rkN g kn) (tot g) n)).toNatClampNeg) (nI n)) 139 ((nI (rkN g kn n)).toNatClampNeg) (nI ((pos (elg g l kn false) (rkN g kn) (tot g) n) + 1))) Q from ?_)
                              exact ih132 (n + 1) _ (by omega) (by omega) ((q5.uI' _ _ _ rfl).uI' _ _ _ rfl) (mw_fq mw5 rfl) (mr_fq mr5 ((rI_uI_ne (by decide)).trans (rI_uI_ne (by decide)))) (fun j hj => by rw [nI_clamp (n := rkN g kn n) (by omega)]; exact (Decidable.em (j = rkN g kn n)).elim (fun e => by rw [e, rI_uI_eq]; exact congrArg nI (fn_hit (by assumption))) (fun e => by rw [rI_uI_at e, rI_uI_ne (by decide), fn_miss e]; exact hb5 j hj)) ((congrFun ((rI_uI_ne (by decide)).trans (rI_uI_ne (by decide))) 22).trans hmy5) (fun m hm hE => by rw [rI_uI_ne (by decide), nI_clamp (by omega)]; exact (Decidable.em (m = n)).elim (fun e => by subst e; exact rI_uI_eq) (fun e => by rw [rI_uI_at (fun q => pos_inj (rk := rkN g kn) (N := tot g) (m := m) (n := n) (by omega) (by omega) hE (by assumption) (by omega) q.symm)]; exact ho5 m (by omega) hE))
                            · skip
                              exact absurd (by decide) c7
                          · skip
                            show Go (d + 3) true 227 148 [.ref 130, .int (nI kn), .int 0, .int (nI n)] [.int 0] h5 Q
                            refine exf_go 1 (show (¬ (0 : Int32) = 0 → Go (d + 3) true 227 154 [.ref 130, .int (nI kn), .int 0, .int (nI n)] [] h5 Q) ∧ (¬ (¬ (0 : Int32) = 0) → Go (d + 3) true 227 151 [.ref 130, .int (nI kn), .int 0, .int (nI n)] [] h5 Q) from ⟨fun c8 => ?_, fun c8 => ?_⟩)
                            · skip
                              exact absurd c8 (by decide)
                            · skip
                              refine exf_go 2 (show Go (d + 3) true 227 207 [.ref 130, .int (nI kn), .int 0, .int ((nI n) + 1)] [] h5 Q from ?_)
                              rw [show ((nI n) + 1 : Int32) = nI (n + 1) from nI_add n 1]
                              refine exf_go 1 (show Go (d + 3) true 227 132 [.ref 130, .int (nI kn), .int 0, .int (nI (n + 1))] [] h5 Q from ?_)
                              exact ih132 (n + 1) _ (by omega) (by omega) q5 mw5 mr5 (fun j hj => by rw [fn_no (by assumption)]; exact hb5 j hj) hmy5 (fun m hm hE => ho5 m ((Nat.lt_or_eq_of_le (Nat.le_of_lt_succ hm)).elim id (fun e => by subst e; rw [hE] at *; contradiction)) hE)
                    exact L132 (tot g + 1) 0 h4 (by omega) (by omega) q4 mw4 mr4 (fun j hj => by rw [hb4 j (by omega), fn_0, pfx, if_pos (by omega)]) hmy (fun j hj => absurd hj (Nat.not_lt_zero _))
                  · skip
                    have c4 : ¬ 256 ≤ m := fun q => c4 ((nI_leI (a := 256) (b := m) (by omega) (by omega)).mpr q)
                    refine exf_go 5 (show Go (d + 3) true 227 114 [.ref 130, .int (nI kn), .int 0, .int (nI m)] [.int ((nI m) + 1), .ref 139] h4 Q from ?_)
                    rw [show ((nI m) + 1 : Int32) = nI (m + 1) from nI_add m 1]
                    refine exf_go 2 (show vp_in (nI (m + 1)) 257 ∧ (Go (d + 3) true 227 116 [.ref 130, .int (nI kn), .int 0, .int (nI m)] [.int (rI h4 139 ((nI (m + 1)).toNatClampNeg)), .int (nI (m + 1)), .ref 139] h4 Q) from ⟨(vp_in_nI (by omega) (by omega)), ?_⟩)
                    rw [show (rI h4 139 ((nI (m + 1)).toNatClampNeg) : Int32) = nI (pfx (elg g l kn false) (rkN g kn) (tot g) m (m + 1)) from by rw [nI_clamp (by omega)]; exact hb4 _ (by omega)]
                    refine exf_go 4 (show vp_in (nI m) 257 ∧ (Go (d + 3) true 227 122 [.ref 130, .int (nI kn), .int 0, .int (nI m)] [.int (rI h4 139 ((nI m).toNatClampNeg)), .int (nI (pfx (elg g l kn false) (rkN g kn) (tot g) m (m + 1))), .int (nI (m + 1)), .ref 139] h4 Q) from ⟨(vp_in_nI (by omega) (by omega)), ?_⟩)
                    rw [show (rI h4 139 ((nI m).toNatClampNeg) : Int32) = nI (pfx (elg g l kn false) (rkN g kn) (tot g) m m) from by rw [nI_clamp (by omega)]; exact hb4 _ (by omega)]
                    refine exf_go 1 (show Go (d + 3) true 227 123 [.ref 130, .int (nI kn), .int 0, .int (nI m)] [.int ((nI (pfx (elg g l kn false) (rkN g kn) (tot g) m (m + 1))) + (nI (pfx (elg g l kn false) (rkN g kn) (tot g) m m))), .int (nI (m + 1)), .ref 139] h4 Q from ?_)
                    rw [show ((nI (pfx (elg g l kn false) (rkN g kn) (tot g) m (m + 1))) + (nI (pfx (elg g l kn false) (rkN g kn) (tot g) m m)) : Int32) = nI ((pfx (elg g l kn false) (rkN g kn) (tot g) m (m + 1)) + (pfx (elg g l kn false) (rkN g kn) (tot g) m m)) from nI_add (pfx (elg g l kn false) (rkN g kn) (tot g) m (m + 1)) (pfx (elg g l kn false) (rkN g kn) (tot g) m m)]
                    refine exf_go 2 (show vp_in (nI (m + 1)) 257 ∧ (Go (d + 3) true 227 127 [.ref 130, .int (nI kn), .int 0, .int ((nI m) + 1)] [] (uI h4 139 ((nI (m + 1)).toNatClampNeg) (nI ((pfx (elg g l kn false) (rkN g kn) (tot g) m (m + 1)) + (pfx (elg g l kn false) (rkN g kn) (tot g) m m)))) Q) from ⟨(vp_in_nI (by omega) (by omega)), ?_⟩)
                    rw [show ((nI m) + 1 : Int32) = nI (m + 1) from nI_add m 1]
                    refine exf_go 1 (show Go (d + 3) true 227 100 [.ref 130, .int (nI kn), .int 0, .int (nI (m + 1))] [] (uI h4 139 ((nI (m + 1)).toNatClampNeg) (nI ((pfx (elg g l kn false) (rkN g kn) (tot g) m (m + 1)) + (pfx (elg g l kn false) (rkN g kn) (tot g) m m)))) Q from ?_)
                    exact ih100 (m + 1) _ (by omega) (by omega) (q4.uI' _ _ _ rfl) (mw_fq mw4 rfl) (mr_fq mr4 (rI_uI_ne (by decide))) (fun j hj => by rw [nI_clamp (by omega)]; exact (Decidable.em (j = m + 1)).elim (fun e => by rw [e, rI_uI_eq]; exact congrArg nI (pfx_s _ _ _ m)) (fun e => by rw [rI_uI_at e, pfx_o _ _ _ _ _ e]; exact hb4 j hj)) ((congrFun (rI_uI_ne (by decide)) 22).trans hmy)
              exact L100 (256 + 1) 0 h3 (by omega) (by omega) q3 mw3 mr3 (fun j hj => by rw [pfx_0, hb3 j hj, show n = tot g from by omega]) (by rw [hm3, show n = tot g from by omega])
            · skip
              have c3 : ¬ (tot g) ≤ n := fun q => c3 ((nI_leI (a := (tot g)) (b := n) (by omega) (by omega)).mpr q)
              refine exf_go 4 (show wpC (d + 3) true 226 [.ref 130, .int (nI n), .int 0] h3 (fun r h' => Go (d + 3) true 227 50 [.ref 130, .int (nI kn), .int 0, .int (nI n)] [r] h' Q) from ?_)
              refine m_isLeft0 ms3 mw3 (by omega) (fun b9 => ?_) (fun b9 => ?_)
              · skip
                show Go (d + 3) true 227 50 [.ref 130, .int (nI kn), .int 0, .int (nI n)] [.int 1] h3 Q
                refine exf_go 1 (show (¬ (1 : Int32) = 0 → Go (d + 3) true 227 56 [.ref 130, .int (nI kn), .int 0, .int (nI n)] [] h3 Q) ∧ (¬ (¬ (1 : Int32) = 0) → Go (d + 3) true 227 53 [.ref 130, .int (nI kn), .int 0, .int (nI n)] [] h3 Q) from ⟨fun c10 => ?_, fun c10 => ?_⟩)
                · skip
                  refine exf_go 9 (show Go (d + 3) true 227 73 [.ref 130, .int (nI kn), .int 0, .int (nI n)] [.int (3841 + (nI n)), .ref 131, .ref 138, .ref 139] h3 Q from ?_)
                  rw [show (3841 + (nI n) : Int32) = nI (3841 + n) from nI_add 3841 n]
                  refine exf_go 1 (show vp_in (nI (3841 + n)) 41523 ∧ (Go (d + 3) true 227 74 [.ref 130, .int (nI kn), .int 0, .int (nI n)] [.int (rI h3 131 ((nI (3841 + n)).toNatClampNeg)), .ref 138, .ref 139] h3 Q) from ⟨(vp_in_nI (by omega) (by omega)), ?_⟩)
                  rw [show (rI h3 131 ((nI (3841 + n)).toNatClampNeg) : Int32) = nI (sH g n) from ms_H ms3 (n := n) (by omega)]
                  have := sH_b ms3.1.1 n
                  refine exf_go 1 (show vp_in (nI (sH g n)) 256 ∧ (Go (d + 3) true 227 75 [.ref 130, .int (nI kn), .int 0, .int (nI n)] [.int (rI h3 138 ((nI (sH g n)).toNatClampNeg)), .ref 139] h3 Q) from ⟨(vp_in_nI (by omega) (by omega)), ?_⟩)
                  rw [show (rI h3 138 ((nI (sH g n)).toNatClampNeg) : Int32) = nI (rkN g kn n) from mr_at ms3 mr3 n]
                  refine exf_go 2 (show Go (d + 3) true 227 77 [.ref 130, .int (nI kn), .int 0, .int (nI n)] [.int ((nI (rkN g kn n)) + 1), .ref 139] h3 Q from ?_)
                  rw [show ((nI (rkN g kn n)) + 1 : Int32) = nI ((rkN g kn n) + 1) from nI_add (rkN g kn n) 1]
                  refine exf_go 2 (show vp_in (nI ((rkN g kn n) + 1)) 257 ∧ (Go (d + 3) true 227 79 [.ref 130, .int (nI kn), .int 0, .int (nI n)] [.int (rI h3 139 ((nI ((rkN g kn n) + 1)).toNatClampNeg)), .int (nI ((rkN g kn n) + 1)), .ref 139] h3 Q) from ⟨(vp_in_nI (by omega) (by omega)), ?_⟩)
                  rw [show (rI h3 139 ((nI ((rkN g kn n) + 1)).toNatClampNeg) : Int32) = nI (bgA (elg g l kn false) (rkN g kn) n ((rkN g kn n) + 1)) from by rw [nI_clamp (by omega)]; exact hb3 _ (by omega)]
                  refine exf_go 2 (show Go (d + 3) true 227 81 [.ref 130, .int (nI kn), .int 0, .int (nI n)] [.int ((nI (bgA (elg g l kn false) (rkN g kn) n ((rkN g kn n) + 1))) + 1), .int (nI ((rkN g kn n) + 1)), .ref 139] h3 Q from ?_)
                  rw [show ((nI (bgA (elg g l kn false) (rkN g kn) n ((rkN g kn n) + 1))) + 1 : Int32) = nI ((bgA (elg g l kn false) (rkN g kn) n ((rkN g kn n) + 1)) + 1) from nI_add (bgA (elg g l kn false) (rkN g kn) n ((rkN g kn n) + 1)) 1]
                  refine exf_go 4 (show vp_in (nI ((rkN g kn n) + 1)) 257 ∧ (Go (d + 3) true 227 87 [.ref 130, .int (nI kn), .int 0, .int (nI n)] [.int (rI h3 130 22), .ref 130] (uI h3 139 ((nI ((rkN g kn n) + 1)).toNatClampNeg) (nI ((bgA (elg g l kn false) (rkN g kn) n ((rkN g kn n) + 1)) + 1))) Q) from ⟨(vp_in_nI (by omega) (by omega)), ?_⟩)
                  rw [show (rI h3 130 22 : Int32) = nI (cntN (elg g l kn false) n) from hm3]
                  refine exf_go 2 (show Go (d + 3) true 227 89 [.ref 130, .int (nI kn), .int 0, .int (nI n)] [.int ((nI (cntN (elg g l kn false) n)) + 1), .ref 130] (uI h3 139 ((nI ((rkN g kn n) + 1)).toNatClampNeg) (nI ((bgA (elg g l kn false) (rkN g kn) n ((rkN g kn n) + 1)) + 1))) Q from ?_)
                  rw [show ((nI (cntN (elg g l kn false) n)) + 1 : Int32) = nI ((cntN (elg g l kn false) n) + 1) from nI_add (cntN (elg g l kn false) n) 1]
                  refine exf_go 2 (show Go (d + 3) true 227 95 [.ref 130, .int (nI kn), .int 0, .int ((nI n) + 1)] [] (uI (uI h3 139 ((nI ((rkN g kn n) + 1)).toNatClampNeg) (nI ((bgA (elg g l kn false) (rkN g kn) n ((rkN g kn n) + 1)) + 1))) 130 22 (nI ((cntN (elg g l kn false) n) + 1))) Q from ?_)
                  rw [show ((nI n) + 1 : Int32) = nI (n + 1) from nI_add n 1]
                  refine exf_go 1 (show Go (d + 3) true 227 34 [.ref 130, .int (nI kn), .int 0, .int (nI (n + 1))] [] (uI (uI h3 139 ((nI ((rkN g kn n) + 1)).toNatClampNeg) (nI ((bgA (elg g l kn false) (rkN g kn) n ((rkN g kn n) + 1)) + 1))) 130 22 (nI ((cntN (elg g l kn false) n) + 1))) Q from ?_)
                  exact ih34 (n + 1) _ (by omega) (by omega) ((q3.uI' _ _ _ rfl).uI' _ _ _ rfl) (mw_fq mw3 rfl) (mr_fq mr3 ((rI_uI_ne (by decide)).trans (rI_uI_ne (by decide)))) (fun j hj => by rw [rI_uI_ne (by decide), nI_clamp (by omega)]; exact (Decidable.em (j = rkN g kn n + 1)).elim (fun e => by rw [e, rI_uI_eq]; exact congrArg nI (bg_hit (by assumption))) (fun e => by rw [rI_uI_at e, bg_miss e]; exact hb3 j hj)) (by rw [rI_uI_eq]; exact congrArg nI (cn_y rfl (by assumption)))
                · skip
                  exact absurd (by decide) c10
              · skip
                show Go (d + 3) true 227 50 [.ref 130, .int (nI kn), .int 0, .int (nI n)] [.int 0] h3 Q
                refine exf_go 1 (show (¬ (0 : Int32) = 0 → Go (d + 3) true 227 56 [.ref 130, .int (nI kn), .int 0, .int (nI n)] [] h3 Q) ∧ (¬ (¬ (0 : Int32) = 0) → Go (d + 3) true 227 53 [.ref 130, .int (nI kn), .int 0, .int (nI n)] [] h3 Q) from ⟨fun c11 => ?_, fun c11 => ?_⟩)
                · skip
                  exact absurd c11 (by decide)
                · skip
                  refine exf_go 2 (show Go (d + 3) true 227 95 [.ref 130, .int (nI kn), .int 0, .int ((nI n) + 1)] [] h3 Q from ?_)
                  rw [show ((nI n) + 1 : Int32) = nI (n + 1) from nI_add n 1]
                  refine exf_go 1 (show Go (d + 3) true 227 34 [.ref 130, .int (nI kn), .int 0, .int (nI (n + 1))] [] h3 Q from ?_)
                  exact ih34 (n + 1) _ (by omega) (by omega) q3 mw3 mr3 (fun j hj => by rw [bg_no (by assumption)]; exact hb3 j hj) (by rw [hm3, cn_n rfl (by assumption)])
        exact L34 (tot g + 1) 0 _ (by omega) (by omega) (q2.uI' _ _ _ rfl) (mw_fq mw2 rfl) (mr_fq mr2 (rI_uI_ne (by decide))) (fun j hj => by rw [rI_uI_ne (by decide), hb j (by omega)]; cases j <;> rfl) rI_uI_eq
      · skip
        have c2 : ¬ 257 ≤ m := fun q => c2 ((nI_leI (a := 257) (b := m) (by omega) (by omega)).mpr q)
        refine exf_go 6 (show vp_in (nI m) 257 ∧ (Go (d + 3) true 227 24 [.ref 130, .int (nI kn), .int 0, .int ((nI m) + 1)] [] (uI h2 139 ((nI m).toNatClampNeg) 0) Q) from ⟨(vp_in_nI (by omega) (by omega)), ?_⟩)
        rw [show ((nI m) + 1 : Int32) = nI (m + 1) from nI_add m 1]
        refine exf_go 1 (show Go (d + 3) true 227 7 [.ref 130, .int (nI kn), .int 0, .int (nI (m + 1))] [] (uI h2 139 ((nI m).toNatClampNeg) 0) Q from ?_)
        exact ih7 (m + 1) _ (by omega) (by omega) (q2.uI' _ _ _ rfl) (mw_fq mw2 rfl) (mr_fq mr2 (rI_uI_ne (by decide))) (fun j hj => (Decidable.em (j = m)).elim (fun e => by rw [nI_clamp (by omega), e, rI_uI_eq]; rfl) (fun e => by rw [nI_clamp (by omega), rI_uI_at e]; exact hb j (by omega)))
  exact L7 (257 + 1) 0 h1 (by omega) (by omega) q1 mw1 mr1 (fun j hj => absurd hj (Nat.not_lt_zero _))
theorem hid_no {g : ShG} {l : LkG} {h : Hp} {Q : Po} (h0 : sM g = 0) (k : ∀ h1, Fq scM h h1 → Q (.int (fHidden g l)) h1) : ∀ h1, Fq scM h h1 → Q (.int (-1)) h1 := fun h1 q => by
  have := k h1 q
  rwa [fHidden, if_pos h0] at this
theorem m_hidden {d : Nat} {h : Hp} {g : ShG} {l : LkG} {Q : Po} (ms : MS g l h) (k : ∀ h1, Fq scM h h1 → Q (.int (fHidden g l)) h1) : wpC (d + 6) true 282 [.ref 130] h Q := by
  have hN := tot_b ms.1.1
  have h4 := ms.1.1.1
  have h8 := ms.1.1.2.2.2.1
  have he := evr_b ms.1.1
  have hev : evr g = 2 ^ sC g - 1 := rfl
  have hm4 := ms.1.1.2.2.2.2.2.1
  have hkb := ms.1.1.2.2.2.2.2.2.1
  refine go_in rfl ?_
  refine exf_go 5 (show Go (d + 5) true 282 7 [.ref 130, .int 0, mk_] [] (uI h 130 0 0) Q from ?_)
  have L7 : ∀ (k7 : Nat) (z2 : Value) (n : Nat) (h1 : Hp), (tot g - n) < k7 → (n ≤ tot g) → (Fq scM h h1) → (∀ j, j < n → rI h1 144 j = nI 10000) → Go (d + 5) true 282 7 [.ref 130, .int (nI n), z2] [] h1 Q := by
    intro k7
    induction k7 with
    | zero => intro z2 n h1 hk; exact absurd hk (Nat.not_lt_zero _)
    | succ k7 ih7 =>
      intro z2 n h1 hk hn q1 hf
      have ms1 := ms_fq ms q1
      refine exf_go 5 (show vp_in 4 41523 ∧ (Go (d + 5) true 282 14 [.ref 130, .int (nI n), z2] [.int (rI h1 131 4), .int (nI n)] h1 Q) from ⟨(vp_in_nI (n := 4) (by decide) (by decide)), ?_⟩)
      rw [show (rI h1 131 4 : Int32) = nI (tot g) from ms_N ms1]
      refine exf_go 1 (show ((nI (tot g)) ≤ (nI n) → Go (d + 5) true 282 32 [.ref 130, .int (nI n), z2] [] h1 Q) ∧ (¬ ((nI (tot g)) ≤ (nI n)) → Go (d + 5) true 282 17 [.ref 130, .int (nI n), z2] [] h1 Q) from ⟨fun c1 => ?_, fun c1 => ?_⟩)
      · skip
        have c1 : (tot g) ≤ n := (nI_leI (a := (tot g)) (b := n) (by omega) (by omega)).mp c1
        refine exf_go 2 (show Go (d + 5) true 282 34 [.ref 130, .int 0, z2] [] h1 Q from ?_)
        have L34 : ∀ (k34 : Nat) (z2 : Value) (m : Nat) (h2 : Hp), (sM g - m) < k34 → (m ≤ sM g) → (Fq scM h h2) → (∀ n, n < tot g → rI h2 144 n = nI (soo g l m n)) → Go (d + 5) true 282 34 [.ref 130, .int (nI m), z2] [] h2 Q := by
          intro k34
          induction k34 with
          | zero => intro z2 m h2 hk; exact absurd hk (Nat.not_lt_zero _)
          | succ k34 ih34 =>
            intro z2 m h2 hk hm q2 hf2
            have ms2 := ms_fq ms q2
            refine exf_go 5 (show vp_in 3 41523 ∧ (Go (d + 5) true 282 41 [.ref 130, .int (nI m), z2] [.int (rI h2 131 3), .int (nI m)] h2 Q) from ⟨(vp_in_nI (n := 3) (by decide) (by decide)), ?_⟩)
            rw [show (rI h2 131 3 : Int32) = nI (sM g) from ms_M ms2]
            refine exf_go 1 (show ((nI (sM g)) ≤ (nI m) → Go (d + 5) true 282 107 [.ref 130, .int (nI m), z2] [] h2 Q) ∧ (¬ ((nI (sM g)) ≤ (nI m)) → Go (d + 5) true 282 44 [.ref 130, .int (nI m), z2] [] h2 Q) from ⟨fun c2 => ?_, fun c2 => ?_⟩)
            · skip
              have c2 : (sM g) ≤ m := (nI_leI (a := (sM g)) (b := m) (by omega) (by omega)).mp c2
              refine exf_go 3 (show wpC (d + 5) true 223 [.ref 130] h2 (fun r h' => Go (d + 5) true 282 112 [.ref 130, .int (nI m), z2] [r, .ref 130] h' Q) from ?_)
              refine m_every ms2 ?_
              show Go (d + 5) true 282 112 [.ref 130, .int (nI m), z2] [.int (nI (evr g)), .ref 130] h2 Q
              refine exf_go 1 (show wpC (d + 5) true 225 [.ref 130, .int (nI (evr g))] h2 (fun _ h' => Go (d + 5) true 282 115 [.ref 130, .int (nI m), z2] [] h' Q) from ?_)
              refine m_ranks ms2 (by omega) (fun h5 p5 mw5 mr5 => ?_)
              have q5 := q2.tr (p5.mono s78_M)
              have ms5 := ms_fq ms q5
              show Go (d + 5) true 282 115 [.ref 130, .int (nI m), z2] [] h5 Q
              refine exf_go 4 (show Go (d + 5) true 282 119 [.ref 130, .int (-1), .int 0] [] h5 Q from ?_)
              have L119 : ∀ (k119 : Nat) (n : Nat) (o : Option Nat) (mm : Nat), (tot g - n) < k119 → (n ≤ tot g) → ((o, mm) = mxF (lft g l) (soo g l m) n) → (sM g = 0 → n = 0) → Go (d + 5) true 282 119 [.ref 130, .int (oI o), .int (nI n)] [] h5 Q := by
                intro k119
                induction k119 with
                | zero => intro n o mm hk; exact absurd hk (Nat.not_lt_zero _)
                | succ k119 ih119 =>
                  intro n o mm hk hn hs hz
                  have hob : ∀ b, o = some b → b < n ∧ soo g l m b = mm := by intro b e; have := mxF_b (p := lft g l) (f := soo g l m) n b (by rw [← hs]; exact e); rw [← hs] at this; exact this
                  rcases o with _ | b
                  · skip
                    show Go (d + 5) true 282 119 [.ref 130, .int (-1), .int (nI n)] [] h5 Q
                    refine exf_go 5 (show vp_in 4 41523 ∧ (Go (d + 5) true 282 126 [.ref 130, .int (-1), .int (nI n)] [.int (rI h5 131 4), .int (nI n)] h5 Q) from ⟨(vp_in_nI (n := 4) (by decide) (by decide)), ?_⟩)
                    rw [show (rI h5 131 4 : Int32) = nI (tot g) from ms_N ms5]
                    refine exf_go 1 (show ((nI (tot g)) ≤ (nI n) → Go (d + 5) true 282 175 [.ref 130, .int (-1), .int (nI n)] [] h5 Q) ∧ (¬ ((nI (tot g)) ≤ (nI n)) → Go (d + 5) true 282 129 [.ref 130, .int (-1), .int (nI n)] [] h5 Q) from ⟨fun c3 => ?_, fun c3 => ?_⟩)
                    · skip
                      have c3 : (tot g) ≤ n := (nI_leI (a := (tot g)) (b := n) (by omega) (by omega)).mp c3
                      refine exf_go 2 (show Q (.int (-1)) h5 from ?_)
                      by_cases e0 : sM g = 0
                      · exact hid_no e0 k _ q5
                      · have e : n = tot g := by omega
                        rw [fHidden, if_neg e0, ← show m = sM g from by omega, ← e, ← hs] at k
                        exact k _ q5
                    · skip
                      have c3 : ¬ (tot g) ≤ n := fun q => c3 ((nI_leI (a := (tot g)) (b := n) (by omega) (by omega)).mpr q)
                      refine exf_go 4 (show vp_in 3 41523 ∧ (Go (d + 5) true 282 135 [.ref 130, .int (-1), .int (nI n)] [.int (rI h5 131 3)] h5 Q) from ⟨(vp_in_nI (n := 3) (by decide) (by decide)), ?_⟩)
                      rw [show (rI h5 131 3 : Int32) = nI (sM g) from ms_M ms5]
                      refine exf_go 1 (show ((nI (sM g)) ≤ 0 → Go (d + 5) true 282 175 [.ref 130, .int (-1), .int (nI n)] [] h5 Q) ∧ (¬ ((nI (sM g)) ≤ 0) → Go (d + 5) true 282 138 [.ref 130, .int (-1), .int (nI n)] [] h5 Q) from ⟨fun c4 => ?_, fun c4 => ?_⟩)
                      · skip
                        have c4 : (sM g) ≤ 0 := (nI_leI (a := (sM g)) (b := 0) (by omega) (by omega)).mp c4
                        refine exf_go 2 (show Q (.int (-1)) h5 from ?_)
                        by_cases e0 : sM g = 0
                        · exact hid_no e0 k _ q5
                        · have e : n = tot g := by omega
                          rw [fHidden, if_neg e0, ← show m = sM g from by omega, ← e, ← hs] at k
                          exact k _ q5
                      · skip
                        have c4 : ¬ (sM g) ≤ 0 := fun q => c4 ((nI_leI (a := (sM g)) (b := 0) (by omega) (by omega)).mpr q)
                        refine exf_go 4 (show wpC (d + 5) true 226 [.ref 130, .int (nI n), .int 1] h5 (fun r h' => Go (d + 5) true 282 144 [.ref 130, .int (-1), .int (nI n)] [r] h' Q) from ?_)
                        refine m_isLeft1 ms5 mw5 (by omega) (fun b5 => ?_) (fun b5 => ?_)
                        · skip
                          rw [elg_lft ms.1.1 ms.1.2] at b5
                          show Go (d + 5) true 282 144 [.ref 130, .int (-1), .int (nI n)] [.int 1] h5 Q
                          refine exf_go 1 (show ((1 : Int32) = 0 → Go (d + 5) true 282 169 [.ref 130, .int (-1), .int (nI n)] [] h5 Q) ∧ (¬ ((1 : Int32) = 0) → Go (d + 5) true 282 147 [.ref 130, .int (-1), .int (nI n)] [] h5 Q) from ⟨fun c6 => ?_, fun c6 => ?_⟩)
                          · skip
                            exact absurd c6 (by decide)
                          · skip
                            refine exf_go 3 (show (((-1) : Int32) = (-1) → Go (d + 5) true 282 167 [.ref 130, .int (-1), .int (nI n)] [] h5 Q) ∧ (¬ (((-1) : Int32) = (-1)) → Go (d + 5) true 282 152 [.ref 130, .int (-1), .int (nI n)] [] h5 Q) from ⟨fun c7 => ?_, fun c7 => ?_⟩)
                            · skip
                              refine exf_go 3 (show Go (d + 5) true 282 172 [.ref 130, .int (nI n), .int ((nI n) + 1)] [] h5 Q from ?_)
                              rw [show ((nI n) + 1 : Int32) = nI (n + 1) from nI_add n 1]
                              refine exf_go 1 (show Go (d + 5) true 282 119 [.ref 130, .int (nI n), .int (nI (n + 1))] [] h5 Q from ?_)
                              exact ih119 (n + 1) (some n) (soo g l m n) (by omega) (by omega) (by first | exact mx_no hs (by assumption) | exact mx_first hs (by assumption) | exact mx_more hs (by assumption) (by omega) | exact mx_less hs (by assumption) (by omega)) (fun q => absurd q (by omega))
                            · skip
                              exact absurd (by decide) c7
                        · skip
                          rw [elg_lft ms.1.1 ms.1.2] at b5
                          show Go (d + 5) true 282 144 [.ref 130, .int (-1), .int (nI n)] [.int 0] h5 Q
                          refine exf_go 1 (show ((0 : Int32) = 0 → Go (d + 5) true 282 169 [.ref 130, .int (-1), .int (nI n)] [] h5 Q) ∧ (¬ ((0 : Int32) = 0) → Go (d + 5) true 282 147 [.ref 130, .int (-1), .int (nI n)] [] h5 Q) from ⟨fun c8 => ?_, fun c8 => ?_⟩)
                          · skip
                            refine exf_go 1 (show Go (d + 5) true 282 172 [.ref 130, .int (-1), .int ((nI n) + 1)] [] h5 Q from ?_)
                            rw [show ((nI n) + 1 : Int32) = nI (n + 1) from nI_add n 1]
                            refine exf_go 1 (show Go (d + 5) true 282 119 [.ref 130, .int (-1), .int (nI (n + 1))] [] h5 Q from ?_)
                            exact ih119 (n + 1) none mm (by omega) (by omega) (by first | exact mx_no hs (by assumption) | exact mx_first hs (by assumption) | exact mx_more hs (by assumption) (by omega) | exact mx_less hs (by assumption) (by omega)) (fun q => absurd q (by omega))
                          · skip
                            exact absurd (by decide) c8
                  · skip
                    have hob2 := hob b rfl
                    show Go (d + 5) true 282 119 [.ref 130, .int (nI b), .int (nI n)] [] h5 Q
                    refine exf_go 5 (show vp_in 4 41523 ∧ (Go (d + 5) true 282 126 [.ref 130, .int (nI b), .int (nI n)] [.int (rI h5 131 4), .int (nI n)] h5 Q) from ⟨(vp_in_nI (n := 4) (by decide) (by decide)), ?_⟩)
                    rw [show (rI h5 131 4 : Int32) = nI (tot g) from ms_N ms5]
                    refine exf_go 1 (show ((nI (tot g)) ≤ (nI n) → Go (d + 5) true 282 175 [.ref 130, .int (nI b), .int (nI n)] [] h5 Q) ∧ (¬ ((nI (tot g)) ≤ (nI n)) → Go (d + 5) true 282 129 [.ref 130, .int (nI b), .int (nI n)] [] h5 Q) from ⟨fun c9 => ?_, fun c9 => ?_⟩)
                    · skip
                      have c9 : (tot g) ≤ n := (nI_leI (a := (tot g)) (b := n) (by omega) (by omega)).mp c9
                      refine exf_go 2 (show Q (.int (nI b)) h5 from ?_)
                      first | (exfalso; omega) | (have e : n = tot g := (by omega); rw [fHidden, if_neg (by omega), ← show m = sM g from by omega, ← e, ← hs] at k; exact k _ q5) | (exfalso; have e0 : sM g = 0 := (by omega); have hn0 := hob2.1; exact absurd hz (by omega))
                    · skip
                      have c9 : ¬ (tot g) ≤ n := fun q => c9 ((nI_leI (a := (tot g)) (b := n) (by omega) (by omega)).mpr q)
                      refine exf_go 4 (show vp_in 3 41523 ∧ (Go (d + 5) true 282 135 [.ref 130, .int (nI b), .int (nI n)] [.int (rI h5 131 3)] h5 Q) from ⟨(vp_in_nI (n := 3) (by decide) (by decide)), ?_⟩)
                      rw [show (rI h5 131 3 : Int32) = nI (sM g) from ms_M ms5]
                      refine exf_go 1 (show ((nI (sM g)) ≤ 0 → Go (d + 5) true 282 175 [.ref 130, .int (nI b), .int (nI n)] [] h5 Q) ∧ (¬ ((nI (sM g)) ≤ 0) → Go (d + 5) true 282 138 [.ref 130, .int (nI b), .int (nI n)] [] h5 Q) from ⟨fun c10 => ?_, fun c10 => ?_⟩)
                      · skip
                        have c10 : (sM g) ≤ 0 := (nI_leI (a := (sM g)) (b := 0) (by omega) (by omega)).mp c10
                        refine exf_go 2 (show Q (.int (nI b)) h5 from ?_)
                        first | (exfalso; omega) | (have e : n = tot g := (by omega); rw [fHidden, if_neg (by omega), ← show m = sM g from by omega, ← e, ← hs] at k; exact k _ q5) | (exfalso; have e0 : sM g = 0 := (by omega); have hn0 := hob2.1; exact absurd hz (by omega))
                      · skip
                        have c10 : ¬ (sM g) ≤ 0 := fun q => c10 ((nI_leI (a := (sM g)) (b := 0) (by omega) (by omega)).mpr q)
                        refine exf_go 4 (show wpC (d + 5) true 226 [.ref 130, .int (nI n), .int 1] h5 (fun r h' => Go (d + 5) true 282 144 [.ref 130, .int (nI b), .int (nI n)] [r] h' Q) from ?_)
                        refine m_isLeft1 ms5 mw5 (by omega) (fun b11 => ?_) (fun b11 => ?_)
                        · skip
                          rw [elg_lft ms.1.1 ms.1.2] at b11
                          show Go (d + 5) true 282 144 [.ref 130, .int (nI b), .int (nI n)] [.int 1] h5 Q
                          refine exf_go 1 (show ((1 : Int32) = 0 → Go (d + 5) true 282 169 [.ref 130, .int (nI b), .int (nI n)] [] h5 Q) ∧ (¬ ((1 : Int32) = 0) → Go (d + 5) true 282 147 [.ref 130, .int (nI b), .int (nI n)] [] h5 Q) from ⟨fun c12 => ?_, fun c12 => ?_⟩)
                          · skip
                            exact absurd c12 (by decide)
                          · skip
                            refine exf_go 3 (show ((nI b) = (-1) → Go (d + 5) true 282 167 [.ref 130, .int (nI b), .int (nI n)] [] h5 Q) ∧ (¬ ((nI b) = (-1)) → Go (d + 5) true 282 152 [.ref 130, .int (nI b), .int (nI n)] [] h5 Q) from ⟨fun c13 => ?_, fun c13 => ?_⟩)
                            · skip
                              exact absurd c13 (ng_eq (by omega) (by decide))
                            · skip
                              refine exf_go 4 (show vp_in (nI n) 10000 ∧ (Go (d + 5) true 282 158 [.ref 130, .int (nI b), .int (nI n)] [.int (rI h5 144 ((nI n).toNatClampNeg))] h5 Q) from ⟨(vp_in_nI (by omega) (by omega)), ?_⟩)
                              rw [show (rI h5 144 ((nI n).toNatClampNeg) : Int32) = nI (soo g l m n) from by rw [nI_clamp (by omega), p5.I (a := 144) (fun _ => rfl)]; exact hf2 _ (by omega)]
                              have hsb1 := soo_le g l m n
                              refine exf_go 4 (show vp_in (nI b) 10000 ∧ (Go (d + 5) true 282 164 [.ref 130, .int (nI b), .int (nI n)] [.int (rI h5 144 ((nI b).toNatClampNeg)), .int (nI (soo g l m n))] h5 Q) from ⟨(vp_in_nI (by omega) (by omega)), ?_⟩)
                              rw [show (rI h5 144 ((nI b).toNatClampNeg) : Int32) = nI (soo g l m b) from by rw [nI_clamp (by omega), p5.I (a := 144) (fun _ => rfl)]; exact hf2 _ (by omega)]
                              have hsb2 := soo_le g l m b
                              refine exf_go 1 (show ((nI (soo g l m n)) ≤ (nI (soo g l m b)) → Go (d + 5) true 282 169 [.ref 130, .int (nI b), .int (nI n)] [] h5 Q) ∧ (¬ ((nI (soo g l m n)) ≤ (nI (soo g l m b))) → Go (d + 5) true 282 167 [.ref 130, .int (nI b), .int (nI n)] [] h5 Q) from ⟨fun c14 => ?_, fun c14 => ?_⟩)
                              · skip
                                have c14 : (soo g l m n) ≤ (soo g l m b) := (nI_leI (a := (soo g l m n)) (b := (soo g l m b)) (by omega) (by omega)).mp c14
                                refine exf_go 1 (show Go (d + 5) true 282 172 [.ref 130, .int (nI b), .int ((nI n) + 1)] [] h5 Q from ?_)
                                rw [show ((nI n) + 1 : Int32) = nI (n + 1) from nI_add n 1]
                                refine exf_go 1 (show Go (d + 5) true 282 119 [.ref 130, .int (nI b), .int (nI (n + 1))] [] h5 Q from ?_)
                                exact ih119 (n + 1) (some b) mm (by omega) (by omega) (by first | exact mx_no hs (by assumption) | exact mx_first hs (by assumption) | exact mx_more hs (by assumption) (by omega) | exact mx_less hs (by assumption) (by omega)) (fun q => absurd q (by omega))
                              · skip
                                have c14 : ¬ (soo g l m n) ≤ (soo g l m b) := fun q => c14 ((nI_leI (a := (soo g l m n)) (b := (soo g l m b)) (by omega) (by omega)).mpr q)
                                refine exf_go 3 (show Go (d + 5) true 282 172 [.ref 130, .int (nI n), .int ((nI n) + 1)] [] h5 Q from ?_)
                                rw [show ((nI n) + 1 : Int32) = nI (n + 1) from nI_add n 1]
                                refine exf_go 1 (show Go (d + 5) true 282 119 [.ref 130, .int (nI n), .int (nI (n + 1))] [] h5 Q from ?_)
                                exact ih119 (n + 1) (some n) (soo g l m n) (by omega) (by omega) (by first | exact mx_no hs (by assumption) | exact mx_first hs (by assumption) | exact mx_more hs (by assumption) (by omega) | exact mx_less hs (by assumption) (by omega)) (fun q => absurd q (by omega))
                        · skip
                          rw [elg_lft ms.1.1 ms.1.2] at b11
                          show Go (d + 5) true 282 144 [.ref 130, .int (nI b), .int (nI n)] [.int 0] h5 Q
                          refine exf_go 1 (show ((0 : Int32) = 0 → Go (d + 5) true 282 169 [.ref 130, .int (nI b), .int (nI n)] [] h5 Q) ∧ (¬ ((0 : Int32) = 0) → Go (d + 5) true 282 147 [.ref 130, .int (nI b), .int (nI n)] [] h5 Q) from ⟨fun c15 => ?_, fun c15 => ?_⟩)
                          · skip
                            refine exf_go 1 (show Go (d + 5) true 282 172 [.ref 130, .int (nI b), .int ((nI n) + 1)] [] h5 Q from ?_)
                            rw [show ((nI n) + 1 : Int32) = nI (n + 1) from nI_add n 1]
                            refine exf_go 1 (show Go (d + 5) true 282 119 [.ref 130, .int (nI b), .int (nI (n + 1))] [] h5 Q from ?_)
                            exact ih119 (n + 1) (some b) mm (by omega) (by omega) (by first | exact mx_no hs (by assumption) | exact mx_first hs (by assumption) | exact mx_more hs (by assumption) (by omega) | exact mx_less hs (by assumption) (by omega)) (fun q => absurd q (by omega))
                          · skip
                            exact absurd (by decide) c15
              exact L119 (tot g + 1) 0 none 0 (by omega) (by omega) rfl (fun _ => rfl)
            · skip
              have c2 : ¬ (sM g) ≤ m := fun q => c2 ((nI_leI (a := (sM g)) (b := m) (by omega) (by omega)).mpr q)
              refine exf_go 6 (show Go (d + 5) true 282 53 [.ref 130, .int (nI m), z2] [.int (46 + (nI m)), .ref 131, .ref 130] h2 Q from ?_)
              rw [show (46 + (nI m) : Int32) = nI (46 + m) from nI_add 46 m]
              refine exf_go 1 (show vp_in (nI (46 + m)) 41523 ∧ (Go (d + 5) true 282 54 [.ref 130, .int (nI m), z2] [.int (rI h2 131 ((nI (46 + m)).toNatClampNeg)), .ref 130] h2 Q) from ⟨(vp_in_nI (by omega) (by omega)), ?_⟩)
              rw [show (rI h2 131 ((nI (46 + m)).toNatClampNeg) : Int32) = nI (sK g m) from ms_K ms2 (n := m) (by omega)]
              refine exf_go 2 (show wpC (d + 5) true 227 [.ref 130, .int (nI (sK g m)), .int 0] h2 (fun _ h' => Go (d + 5) true 282 58 [.ref 130, .int (nI m), z2] [] h' Q) from ?_)
              have hkn : sK g m < 256 := by have := hkb m; omega
              refine m_lays0 ms2 hkn (fun h3 p3 mw3 mo3 => ?_)
              have q3 := q2.tr (p3.mono sOrd_M)
              have ms3 := ms_fq ms q3; have hcc := cntN_le (elg g l (sK g m) false) (tot g)
              show Go (d + 5) true 282 58 [.ref 130, .int (nI m), z2] [] h3 Q
              refine exf_go 2 (show Go (d + 5) true 282 60 [.ref 130, .int (nI m), .int 0] [] h3 Q from ?_)
              have L60 : ∀ (k60 : Nat) (i : Nat) (h4 : Hp), (cntN (elg g l (sK g m) false) (tot g) - i) < k60 → (i ≤ cntN (elg g l (sK g m) false) (tot g)) → (Fq scM h h4) → (MO (elg g l (sK g m) false) g (sK g m) h4) → (∀ n, n < tot g → rI h4 144 n = nI (sooK (elg g l (sK g m) false) g (sK g m) (soo g l m) i n)) → Go (d + 5) true 282 60 [.ref 130, .int (nI m), .int (nI i)] [] h4 Q := by
                intro k60
                induction k60 with
                | zero => intro i h4 hk; exact absurd hk (Nat.not_lt_zero _)
                | succ k60 ih60 =>
                  intro i h4 hk hi q4 mo4 hf4
                  have ms4 := ms_fq ms q4
                  refine exf_go 3 (show Go (d + 5) true 282 65 [.ref 130, .int (nI m), .int (nI i)] [.int (rI h4 130 22), .int (nI i)] h4 Q from ?_)
                  rw [show (rI h4 130 22 : Int32) = nI (cntN (elg g l (sK g m) false) (tot g)) from mo4.1]
                  refine exf_go 1 (show ((nI (cntN (elg g l (sK g m) false) (tot g))) ≤ (nI i) → Go (d + 5) true 282 101 [.ref 130, .int (nI m), .int (nI i)] [] h4 Q) ∧ (¬ ((nI (cntN (elg g l (sK g m) false) (tot g))) ≤ (nI i)) → Go (d + 5) true 282 68 [.ref 130, .int (nI m), .int (nI i)] [] h4 Q) from ⟨fun c16 => ?_, fun c16 => ?_⟩)
                  · skip
                    have c16 : (cntN (elg g l (sK g m) false) (tot g)) ≤ i := (nI_leI (a := (cntN (elg g l (sK g m) false) (tot g))) (b := i) (by omega) (by omega)).mp c16
                    refine exf_go 1 (show Go (d + 5) true 282 104 [.ref 130, .int ((nI m) + 1), .int (nI i)] [] h4 Q from ?_)
                    rw [show ((nI m) + 1 : Int32) = nI (m + 1) from nI_add m 1]
                    refine exf_go 1 (show Go (d + 5) true 282 34 [.ref 130, .int (nI (m + 1)), .int (nI i)] [] h4 Q from ?_)
                    exact ih34 (.int (nI i)) (m + 1) h4 (by omega) (by omega) q4 (fun n hn => by rw [hf4 n hn, show i = cntN (elg g l (sK g m) false) (tot g) from by omega, sooK_end m n hn])
                  · skip
                    have c16 : ¬ (cntN (elg g l (sK g m) false) (tot g)) ≤ i := fun q => c16 ((nI_leI (a := (cntN (elg g l (sK g m) false) (tot g))) (b := i) (by omega) (by omega)).mpr q)
                    refine exf_go 7 (show vp_in (nI i) 10000 ∧ (Go (d + 5) true 282 79 [.ref 130, .int (nI m), .int (nI i)] [.int (rI h4 140 ((nI i).toNatClampNeg)), .ref 144, .int (nI i)] h4 Q) from ⟨(vp_in_nI (by omega) (by omega)), ?_⟩)
                    rw [show (rI h4 140 ((nI i).toNatClampNeg) : Int32) = nI (ordE (elg g l (sK g m) false) g (sK g m) i) from mo_atE ms.1.1 mo4 (k := i) (by omega)]
                    have hoi := ordE_in (E := (elg g l (sK g m) false)) (g := g) (kn := (sK g m)) (k := i) (by omega)
                    refine exf_go 1 (show vp_in (nI (ordE (elg g l (sK g m) false) g (sK g m) i)) 10000 ∧ (Go (d + 5) true 282 80 [.ref 130, .int (nI m), .int (nI i)] [.int (rI h4 144 ((nI (ordE (elg g l (sK g m) false) g (sK g m) i)).toNatClampNeg)), .int (nI i)] h4 Q) from ⟨(vp_in_nI (by omega) (by omega)), ?_⟩)
                    rw [show (rI h4 144 ((nI (ordE (elg g l (sK g m) false) g (sK g m) i)).toNatClampNeg) : Int32) = nI (soo g l m (ordE (elg g l (sK g m) false) g (sK g m) i)) from by rw [nI_clamp (by omega), hf4 _ (by omega), (sooK_hit (by omega)).1]]
                    have hsb := soo_le g l m (ordE (elg g l (sK g m) false) g (sK g m) i)
                    refine exf_go 1 (show ((nI (soo g l m (ordE (elg g l (sK g m) false) g (sK g m) i))) ≤ (nI i) → Go (d + 5) true 282 95 [.ref 130, .int (nI m), .int (nI i)] [] h4 Q) ∧ (¬ ((nI (soo g l m (ordE (elg g l (sK g m) false) g (sK g m) i))) ≤ (nI i)) → Go (d + 5) true 282 83 [.ref 130, .int (nI m), .int (nI i)] [] h4 Q) from ⟨fun c17 => ?_, fun c17 => ?_⟩)
                    · skip
                      have c17 : (soo g l m (ordE (elg g l (sK g m) false) g (sK g m) i)) ≤ i := (nI_leI (a := (soo g l m (ordE (elg g l (sK g m) false) g (sK g m) i))) (b := i) (by omega) (by omega)).mp c17
                      refine exf_go 1 (show Go (d + 5) true 282 98 [.ref 130, .int (nI m), .int ((nI i) + 1)] [] h4 Q from ?_)
                      rw [show ((nI i) + 1 : Int32) = nI (i + 1) from nI_add i 1]
                      refine exf_go 1 (show Go (d + 5) true 282 60 [.ref 130, .int (nI m), .int (nI (i + 1))] [] h4 Q from ?_)
                      exact ih60 (i + 1) _ (by omega) (by omega) q4 mo4 (fun n hn => (Decidable.em (n = ordE (elg g l (sK g m) false) g (sK g m) i)).elim (fun e => by rw [e, (sooK_hit (by omega)).2, hf4 _ (by omega), (sooK_hit (by omega)).1, Nat.min_eq_left (by omega)]) (fun e => by rw [sooK_miss (by omega) hn e]; exact hf4 n hn))
                    · skip
                      have c17 : ¬ (soo g l m (ordE (elg g l (sK g m) false) g (sK g m) i)) ≤ i := fun q => c17 ((nI_leI (a := (soo g l m (ordE (elg g l (sK g m) false) g (sK g m) i))) (b := i) (by omega) (by omega)).mpr q)
                      refine exf_go 6 (show vp_in (nI i) 10000 ∧ (Go (d + 5) true 282 93 [.ref 130, .int (nI m), .int (nI i)] [.int (rI h4 140 ((nI i).toNatClampNeg)), .ref 144] h4 Q) from ⟨(vp_in_nI (by omega) (by omega)), ?_⟩)
                      rw [show (rI h4 140 ((nI i).toNatClampNeg) : Int32) = nI (ordE (elg g l (sK g m) false) g (sK g m) i) from mo_atE ms.1.1 mo4 (k := i) (by omega)]
                      have hoi := ordE_in (E := (elg g l (sK g m) false)) (g := g) (kn := (sK g m)) (k := i) (by omega)
                      refine exf_go 3 (show vp_in (nI (ordE (elg g l (sK g m) false) g (sK g m) i)) 10000 ∧ (Go (d + 5) true 282 98 [.ref 130, .int (nI m), .int ((nI i) + 1)] [] (uI h4 144 ((nI (ordE (elg g l (sK g m) false) g (sK g m) i)).toNatClampNeg) (nI i)) Q) from ⟨(vp_in_nI (by omega) (by omega)), ?_⟩)
                      rw [show ((nI i) + 1 : Int32) = nI (i + 1) from nI_add i 1]
                      refine exf_go 1 (show Go (d + 5) true 282 60 [.ref 130, .int (nI m), .int (nI (i + 1))] [] (uI h4 144 ((nI (ordE (elg g l (sK g m) false) g (sK g m) i)).toNatClampNeg) (nI i)) Q from ?_)
                      exact ih60 (i + 1) _ (by omega) (by omega) (q4.uI' _ _ _ rfl) (mo_fq mo4 (s := sAt 144) (Fq.uI' Fq.rfl' _ _ _ rfl) rfl (fun _ => rfl)) (fun n hn => by rw [nI_clamp (by omega)]; exact (Decidable.em (n = ordE (elg g l (sK g m) false) g (sK g m) i)).elim (fun e => by rw [e, rI_uI_eq, (sooK_hit (by omega)).2, Nat.min_eq_right (by omega)]) (fun e => by rw [rI_uI_at e, sooK_miss (by omega) hn e]; exact hf4 n hn))
              exact L60 (cntN (elg g l (sK g m) false) (tot g) + 1) 0 h3 (by omega) (by omega) q3 mo3 (fun n hn => by rw [sooK_0, p3.I (a := 144) (fun _ => rfl)]; exact hf2 n hn)
        exact L34 (sM g + 1) z2 0 h1 (by omega) (by omega) q1 (fun j hj => hf j (by omega))
      · skip
        have c1 : ¬ (tot g) ≤ n := fun q => c1 ((nI_leI (a := (tot g)) (b := n) (by omega) (by omega)).mpr q)
        refine exf_go 6 (show vp_in (nI n) 10000 ∧ (Go (d + 5) true 282 29 [.ref 130, .int ((nI n) + 1), z2] [] (uI h1 144 ((nI n).toNatClampNeg) 10000) Q) from ⟨(vp_in_nI (by omega) (by omega)), ?_⟩)
        rw [show ((nI n) + 1 : Int32) = nI (n + 1) from nI_add n 1]
        refine exf_go 1 (show Go (d + 5) true 282 7 [.ref 130, .int (nI (n + 1)), z2] [] (uI h1 144 ((nI n).toNatClampNeg) 10000) Q from ?_)
        exact ih7 z2 (n + 1) _ (by omega) (by omega) (q1.uI' _ _ _ rfl) (fun j hj => by rw [nI_clamp (by omega)]; exact (Decidable.em (j = n)).elim (fun e => by rw [e, rI_uI_eq]; rfl) (fun e => by rw [rI_uI_at e]; exact hf j (by omega)))
  exact L7 (tot g + 1) mk_ 0 _ (by omega) (by omega) (Fq.uI' Fq.rfl' _ _ _ rfl) (fun j hj => absurd hj (Nat.not_lt_zero _))
theorem sumH_ord {g : ShG} {l : LkG} (c : Nat) : sumN (fun k => if btn (sH g (ordE (lft g l) g (evr g) k)) c = 1 then wtA g (sH g (ordE (lft g l) g (evr g) k)) else 0) (cntN (lft g l) (tot g)) = sumH g l c (tot g) := by
  refine (ord_sum (ordV_ok (lft g l) (key g (evr g)) (tot g)) (fun n => if btn (sH g n) c = 1 then wtA g (sH g n) else 0)).trans (sumN_cg _ (fun n _ => ?_))
  unfold lwt
  cases lft g l n <;> simp
theorem m_telling {d : Nat} {h : Hp} {g : ShG} {l : LkG} {Q : Po} (ms : MS g l h) (k : ∀ h1, Fq scM h h1 → Q (.int (fTelling g l)) h1) : wpC (d + 6) true 245 [.ref 130] h Q := by
  have hN := tot_b ms.1.1
  have h4 := ms.1.1.1
  have h8 := ms.1.1.2.2.2.1
  have he := evr_b ms.1.1
  have hev : evr g = 2 ^ sC g - 1 := rfl
  have hm4 := ms.1.1.2.2.2.2.2.1
  have hkb := ms.1.1.2.2.2.2.2.2.1
  refine go_in rfl ?_
  refine exf_go 5 (show wpC (d + 5) true 228 [.ref 130] (uI h 130 0 0) (fun _ h' => Go (d + 5) true 245 9 [.ref 130, mk_, mk_, mk_, mk_, mk_, mk_, mk_, mk_, mk_, mk_] [] h' Q) from ?_)
  refine m_laysLeft (ms_fq ms (Fq.uI' Fq.rfl' _ _ _ rfl)) (fun h1 p1 mw1 mo1 => ?_)
  have q1 := Fq.tr (Fq.uI' Fq.rfl' _ _ _ rfl) p1
  have ms1 := ms_fq ms q1
  have hcc := cntN_le (lft g l) (tot g)
  show Go (d + 5) true 245 9 [.ref 130, mk_, mk_, mk_, mk_, mk_, mk_, mk_, mk_, mk_, mk_] [] h1 Q
  refine exf_go 6 (show Go (d + 5) true 245 16 [.ref 130, .int (-1), .long 0, mk_, .int 0, mk_, mk_, mk_, mk_, mk_, mk_] [] h1 Q from ?_)
  have L16 : ∀ (k16 : Nat) (z5 z7 z9 : Value) (n : Nat) (o : Option Nat) (m : Nat), (sC g - n) < k16 → (n ≤ sC g) → ((o, m) = nrF (fun _ => true) (fun c => max (sumH g l c (tot g)) (sumL g l - sumH g l c (tot g))) n) → (cntN (lft g l) (tot g) = 0 → n = 0) → Go (d + 5) true 245 16 [.ref 130, .int (oI o), .long (lN m), mk_, .int (nI n), z5, mk_, z7, mk_, z9, mk_] [] h1 Q := by
    intro k16
    induction k16 with
    | zero => intro z5 z7 z9 n o m hk; exact absurd hk (Nat.not_lt_zero _)
    | succ k16 ih16 =>
      intro z5 z7 z9 n o m hk hn hs hz
      have hm : m ≤ 1000000000000 := by have := nrF_le (p := fun _ => true) (f := (fun c => max (sumH g l c (tot g)) (sumL g l - sumH g l c (tot g)))) (c := 1000000000000) (fun k => by have h1 : sumH g l k (tot g) ≤ sumL g l := sumH_le g l k _; have h2 : sumL g l ≤ 1000000000000 := sumN_b (lwt_b ms.1.1 l) _ hN.2; show max _ _ ≤ _; omega) n; rw [← hs] at this; exact this
      have hob : ∀ b, o = some b → b < n := by intro b e; exact nrF_b (p := fun _ => true) (f := (fun c => max (sumH g l c (tot g)) (sumL g l - sumH g l c (tot g)))) n b (by rw [← hs]; exact e)
      have hsh : sumH g l n (tot g) ≤ sumL g l := sumH_le g l n _
      rcases o with _ | b
      · skip
        show Go (d + 5) true 245 16 [.ref 130, .int (-1), .long (lN m), mk_, .int (nI n), z5, mk_, z7, mk_, z9, mk_] [] h1 Q
        refine exf_go 5 (show vp_in 2 41523 ∧ (Go (d + 5) true 245 24 [.ref 130, .int (-1), .long (lN m), mk_, .int (nI n), z5, mk_, z7, mk_, z9, mk_] [.int (rI h1 131 2), .int (nI n)] h1 Q) from ⟨(vp_in_nI (n := 2) (by decide) (by decide)), ?_⟩)
        rw [show (rI h1 131 2 : Int32) = nI (sC g) from ms_C ms1]
        refine exf_go 1 (show ((nI (sC g)) ≤ (nI n) → Go (d + 5) true 245 148 [.ref 130, .int (-1), .long (lN m), mk_, .int (nI n), z5, mk_, z7, mk_, z9, mk_] [] h1 Q) ∧ (¬ ((nI (sC g)) ≤ (nI n)) → Go (d + 5) true 245 27 [.ref 130, .int (-1), .long (lN m), mk_, .int (nI n), z5, mk_, z7, mk_, z9, mk_] [] h1 Q) from ⟨fun c1 => ?_, fun c1 => ?_⟩)
        · skip
          have c1 : (sC g) ≤ n := (nI_leI (a := (sC g)) (b := n) (by omega) (by omega)).mp c1
          refine exf_go 2 (show Q (.int (-1)) h1 from ?_)
          by_cases e0 : cntN (lft g l) (tot g) = 0
          · rw [fTelling, cntL, if_pos e0] at k
            exact k _ q1
          · have e : n = sC g := by omega
            rw [fTelling, cntL, if_neg e0, ← e, ← hs] at k
            exact k _ q1
        · skip
          have c1 : ¬ (sC g) ≤ n := fun q => c1 ((nI_leI (a := (sC g)) (b := n) (by omega) (by omega)).mpr q)
          refine exf_go 2 (show Go (d + 5) true 245 31 [.ref 130, .int (-1), .long (lN m), mk_, .int (nI n), z5, mk_, z7, mk_, z9, mk_] [.int (rI h1 130 22)] h1 Q from ?_)
          rw [show (rI h1 130 22 : Int32) = nI (cntN (lft g l) (tot g)) from mo1.1]
          refine exf_go 1 (show ((nI (cntN (lft g l) (tot g))) ≤ 0 → Go (d + 5) true 245 148 [.ref 130, .int (-1), .long (lN m), mk_, .int (nI n), z5, mk_, z7, mk_, z9, mk_] [] h1 Q) ∧ (¬ ((nI (cntN (lft g l) (tot g))) ≤ 0) → Go (d + 5) true 245 34 [.ref 130, .int (-1), .long (lN m), mk_, .int (nI n), z5, mk_, z7, mk_, z9, mk_] [] h1 Q) from ⟨fun c2 => ?_, fun c2 => ?_⟩)
          · skip
            have c2 : (cntN (lft g l) (tot g)) ≤ 0 := (nI_leI (a := (cntN (lft g l) (tot g))) (b := 0) (by omega) (by omega)).mp c2
            refine exf_go 2 (show Q (.int (-1)) h1 from ?_)
            by_cases e0 : cntN (lft g l) (tot g) = 0
            · rw [fTelling, cntL, if_pos e0] at k
              exact k _ q1
            · have e : n = sC g := by omega
              rw [fTelling, cntL, if_neg e0, ← e, ← hs] at k
              exact k _ q1
          · skip
            have c2 : ¬ (cntN (lft g l) (tot g)) ≤ 0 := fun q => c2 ((nI_leI (a := (cntN (lft g l) (tot g))) (b := 0) (by omega) (by omega)).mpr q)
            refine exf_go 4 (show Go (d + 5) true 245 40 [.ref 130, .int (-1), .long (lN m), mk_, .int (nI n), .long 0, mk_, .int 0, mk_, z9, mk_] [] h1 Q from ?_)
            have L40 : ∀ (k40 : Nat) (z8 z9 z10 : Value) (i wi : Nat), (cntN (lft g l) (tot g) - i) < k40 → (i ≤ cntN (lft g l) (tot g)) → (wi = sumN (fun k => if btn (sH g (ordE (lft g l) g (evr g) k)) n = 1 then wtA g (sH g (ordE (lft g l) g (evr g) k)) else 0) i) → Go (d + 5) true 245 40 [.ref 130, .int (-1), .long (lN m), mk_, .int (nI n), .long (lN wi), mk_, .int (nI i), z8, z9, z10] [] h1 Q := by
              intro k40
              induction k40 with
              | zero => intro z8 z9 z10 i wi hk; exact absurd hk (Nat.not_lt_zero _)
              | succ k40 ih40 =>
                intro z8 z9 z10 i wi hk hi hw
                have hwi : i = cntN (lft g l) (tot g) → wi = sumH g l n (tot g) := fun e => by rw [hw, e, sumH_ord]
                refine exf_go 3 (show Go (d + 5) true 245 46 [.ref 130, .int (-1), .long (lN m), mk_, .int (nI n), .long (lN wi), mk_, .int (nI i), z8, z9, z10] [.int (rI h1 130 22), .int (nI i)] h1 Q from ?_)
                rw [show (rI h1 130 22 : Int32) = nI (cntN (lft g l) (tot g)) from mo1.1]
                refine exf_go 1 (show ((nI (cntN (lft g l) (tot g))) ≤ (nI i) → Go (d + 5) true 245 95 [.ref 130, .int (-1), .long (lN m), mk_, .int (nI n), .long (lN wi), mk_, .int (nI i), z8, z9, z10] [] h1 Q) ∧ (¬ ((nI (cntN (lft g l) (tot g))) ≤ (nI i)) → Go (d + 5) true 245 49 [.ref 130, .int (-1), .long (lN m), mk_, .int (nI n), .long (lN wi), mk_, .int (nI i), z8, z9, z10] [] h1 Q) from ⟨fun c3 => ?_, fun c3 => ?_⟩)
                · skip
                  have c3 : (cntN (lft g l) (tot g)) ≤ i := (nI_leI (a := (cntN (lft g l) (tot g))) (b := i) (by omega) (by omega)).mp c3
                  refine exf_go 2 (show wpC (d + 5) true 230 [.ref 130] h1 (fun r h' => Go (d + 5) true 245 99 [.ref 130, .int (-1), .long (lN m), mk_, .int (nI n), .long (lN wi), mk_, .int (nI i), z8, z9, z10] [r] h' Q) from ?_)
                  have hwe := hwi (by omega); subst hwe
                  refine m_weightAll ms1 mw1 mo1 ?_
                  have hsL : sumL g l ≤ 1000000000000 := sumN_b (lwt_b ms.1.1 l) _ hN.2
                  show Go (d + 5) true 245 99 [.ref 130, .int (-1), .long (lN m), mk_, .int (nI n), .long (lN (sumH g l n (tot g))), mk_, .int (nI i), z8, z9, z10] [.long (lN (sumL g l))] h1 Q
                  refine exf_go 2 (show Go (d + 5) true 245 102 [.ref 130, .int (-1), .long (lN m), mk_, .int (nI n), .long (lN (sumH g l n (tot g))), mk_, .int (nI i), z8, z9, z10] [.long ((lN (sumL g l)) - (lN (sumH g l n (tot g))))] h1 Q from ?_)
                  rw [show ((lN (sumL g l)) - (lN (sumH g l n (tot g))) : Int64) = lN ((sumL g l) - (sumH g l n (tot g))) from lN_sub (a := (sumL g l)) (b := (sumH g l n (tot g))) (by omega)]
                  refine exf_go 5 (show ((lg_cmp (lN (sumH g l n (tot g))) (lN ((sumL g l) - (sumH g l n (tot g))))) ≤ 0 → Go (d + 5) true 245 117 [.ref 130, .int (-1), .long (lN m), mk_, .int (nI n), .long (lN (sumH g l n (tot g))), mk_, .long (lN ((sumL g l) - (sumH g l n (tot g)))), mk_, z9, z10] [] h1 Q) ∧ (¬ ((lg_cmp (lN (sumH g l n (tot g))) (lN ((sumL g l) - (sumH g l n (tot g))))) ≤ 0) → Go (d + 5) true 245 112 [.ref 130, .int (-1), .long (lN m), mk_, .int (nI n), .long (lN (sumH g l n (tot g))), mk_, .long (lN ((sumL g l) - (sumH g l n (tot g)))), mk_, z9, z10] [] h1 Q) from ⟨fun c4 => ?_, fun c4 => ?_⟩)
                  · skip
                    have c4 : (lN (sumH g l n (tot g))) ≤ (lN ((sumL g l) - (sumH g l n (tot g)))) := (lg_cmp_le _ _).mp c4
                    have c4 : (sumH g l n (tot g)) ≤ ((sumL g l) - (sumH g l n (tot g))) := (pk_lLE (a := (sumH g l n (tot g))) (b := ((sumL g l) - (sumH g l n (tot g)))) (by omega) (by omega)).mp c4
                    refine exf_go 5 (show ((-1 : Int32) = (-1) → Go (d + 5) true 245 136 [.ref 130, .int (-1), .long (lN m), mk_, .int (nI n), .long (lN (sumH g l n (tot g))), mk_, .long (lN ((sumL g l) - (sumH g l n (tot g)))), mk_, .long (lN ((sumL g l) - (sumH g l n (tot g)))), mk_] [] h1 Q) ∧ (¬ ((-1 : Int32) = (-1)) → Go (d + 5) true 245 126 [.ref 130, .int (-1), .long (lN m), mk_, .int (nI n), .long (lN (sumH g l n (tot g))), mk_, .long (lN ((sumL g l) - (sumH g l n (tot g)))), mk_, .long (lN ((sumL g l) - (sumH g l n (tot g)))), mk_] [] h1 Q) from ⟨fun c5 => ?_, fun c5 => ?_⟩)
                    · skip
                      refine exf_go 5 (show Go (d + 5) true 245 145 [.ref 130, .int (nI n), .long (lN ((sumL g l) - (sumH g l n (tot g)))), mk_, .int ((nI n) + 1), .long (lN (sumH g l n (tot g))), mk_, .long (lN ((sumL g l) - (sumH g l n (tot g)))), mk_, .long (lN ((sumL g l) - (sumH g l n (tot g)))), mk_] [] h1 Q from ?_)
                      rw [show ((nI n) + 1 : Int32) = nI (n + 1) from nI_add n 1]
                      refine exf_go 1 (show Go (d + 5) true 245 16 [.ref 130, .int (nI n), .long (lN ((sumL g l) - (sumH g l n (tot g)))), mk_, .int (nI (n + 1)), .long (lN (sumH g l n (tot g))), mk_, .long (lN ((sumL g l) - (sumH g l n (tot g)))), mk_, .long (lN ((sumL g l) - (sumH g l n (tot g)))), mk_] [] h1 Q from ?_)
                      exact ih16 (.long (lN (sumH g l n (tot g)))) (.long (lN ((sumL g l) - (sumH g l n (tot g))))) (.long (lN ((sumL g l) - (sumH g l n (tot g))))) (n + 1) (some n) ((sumL g l) - (sumH g l n (tot g))) (by omega) (by omega) (by rw [show (sumL g l) - (sumH g l n (tot g)) = max (sumH g l n (tot g)) (sumL g l - sumH g l n (tot g)) from by omega]; first | exact nr_first hs rfl | exact nr_less hs rfl (by show max _ _ < _; omega) | exact nr_more hs rfl (by show ¬ max _ _ < _; omega)) (fun q => absurd q (by omega))
                    · skip
                      exact absurd (by decide) c5
                  · skip
                    have c4 : ¬ ((lN (sumH g l n (tot g))) ≤ (lN ((sumL g l) - (sumH g l n (tot g))))) := fun q => c4 ((lg_cmp_le _ _).mpr q)
                    have c4 : ¬ ((sumH g l n (tot g)) ≤ ((sumL g l) - (sumH g l n (tot g)))) := fun q => c4 ((pk_lLE (a := (sumH g l n (tot g))) (b := ((sumL g l) - (sumH g l n (tot g)))) (by omega) (by omega)).mpr q)
                    refine exf_go 6 (show ((-1 : Int32) = (-1) → Go (d + 5) true 245 136 [.ref 130, .int (-1), .long (lN m), mk_, .int (nI n), .long (lN (sumH g l n (tot g))), mk_, .long (lN ((sumL g l) - (sumH g l n (tot g)))), mk_, .long (lN (sumH g l n (tot g))), mk_] [] h1 Q) ∧ (¬ ((-1 : Int32) = (-1)) → Go (d + 5) true 245 126 [.ref 130, .int (-1), .long (lN m), mk_, .int (nI n), .long (lN (sumH g l n (tot g))), mk_, .long (lN ((sumL g l) - (sumH g l n (tot g)))), mk_, .long (lN (sumH g l n (tot g))), mk_] [] h1 Q) from ⟨fun c6 => ?_, fun c6 => ?_⟩)
                    · skip
                      refine exf_go 5 (show Go (d + 5) true 245 145 [.ref 130, .int (nI n), .long (lN (sumH g l n (tot g))), mk_, .int ((nI n) + 1), .long (lN (sumH g l n (tot g))), mk_, .long (lN ((sumL g l) - (sumH g l n (tot g)))), mk_, .long (lN (sumH g l n (tot g))), mk_] [] h1 Q from ?_)
                      rw [show ((nI n) + 1 : Int32) = nI (n + 1) from nI_add n 1]
                      refine exf_go 1 (show Go (d + 5) true 245 16 [.ref 130, .int (nI n), .long (lN (sumH g l n (tot g))), mk_, .int (nI (n + 1)), .long (lN (sumH g l n (tot g))), mk_, .long (lN ((sumL g l) - (sumH g l n (tot g)))), mk_, .long (lN (sumH g l n (tot g))), mk_] [] h1 Q from ?_)
                      exact ih16 (.long (lN (sumH g l n (tot g)))) (.long (lN ((sumL g l) - (sumH g l n (tot g))))) (.long (lN (sumH g l n (tot g)))) (n + 1) (some n) (sumH g l n (tot g)) (by omega) (by omega) (by rw [show sumH g l n (tot g) = max (sumH g l n (tot g)) (sumL g l - sumH g l n (tot g)) from by omega]; first | exact nr_first hs rfl | exact nr_less hs rfl (by show max _ _ < _; omega) | exact nr_more hs rfl (by show ¬ max _ _ < _; omega)) (fun q => absurd q (by omega))
                    · skip
                      exact absurd (by decide) c6
                · skip
                  have c3 : ¬ (cntN (lft g l) (tot g)) ≤ i := fun q => c3 ((nI_leI (a := (cntN (lft g l) (tot g))) (b := i) (by omega) (by omega)).mpr q)
                  refine exf_go 8 (show vp_in (nI i) 10000 ∧ (Go (d + 5) true 245 65 [.ref 130, .int (-1), .long (lN m), mk_, .int (nI n), .long (lN wi), mk_, .int (nI i), z8, z9, z10] [.int (rI h1 140 ((nI i).toNatClampNeg)), .int 3841, .ref 131, .long (lN wi)] h1 Q) from ⟨(vp_in_nI (by omega) (by omega)), ?_⟩)
                  rw [show (rI h1 140 ((nI i).toNatClampNeg) : Int32) = nI (ordE (lft g l) g (evr g) i) from mo_atE ms.1.1 mo1 (k := i) (by omega)]
                  have hoi := ordE_in (E := (lft g l)) (g := g) (kn := (evr g)) (k := i) (by omega)
                  refine exf_go 1 (show Go (d + 5) true 245 66 [.ref 130, .int (-1), .long (lN m), mk_, .int (nI n), .long (lN wi), mk_, .int (nI i), z8, z9, z10] [.int (3841 + (nI (ordE (lft g l) g (evr g) i))), .ref 131, .long (lN wi)] h1 Q from ?_)
                  rw [show (3841 + (nI (ordE (lft g l) g (evr g) i)) : Int32) = nI (3841 + (ordE (lft g l) g (evr g) i)) from nI_add 3841 (ordE (lft g l) g (evr g) i)]
                  refine exf_go 1 (show vp_in (nI (3841 + (ordE (lft g l) g (evr g) i))) 41523 ∧ (Go (d + 5) true 245 67 [.ref 130, .int (-1), .long (lN m), mk_, .int (nI n), .long (lN wi), mk_, .int (nI i), z8, z9, z10] [.int (rI h1 131 ((nI (3841 + (ordE (lft g l) g (evr g) i))).toNatClampNeg)), .long (lN wi)] h1 Q) from ⟨(vp_in_nI (by omega) (by omega)), ?_⟩)
                  rw [show (rI h1 131 ((nI (3841 + (ordE (lft g l) g (evr g) i))).toNatClampNeg) : Int32) = nI (sH g (ordE (lft g l) g (evr g) i)) from ms_H ms1 (n := (ordE (lft g l) g (evr g) i)) (by omega)]
                  have := sH_b ms1.1.1 (ordE (lft g l) g (evr g) i)
                  refine exf_go 1 (show Go (d + 5) true 245 68 [.ref 130, .int (-1), .long (lN m), mk_, .int (nI n), .long (lN wi), mk_, .int (nI i), z8, z9, z10] [.long ((nI (sH g (ordE (lft g l) g (evr g) i))).toInt64), .long (lN wi)] h1 Q from ?_)
                  rw [show ((nI (sH g (ordE (lft g l) g (evr g) i))).toInt64 : Int64) = lN (sH g (ordE (lft g l) g (evr g) i)) from nI_l (n := (sH g (ordE (lft g l) g (evr g) i))) (by omega)]
                  refine exf_go 2 (show wpC (d + 5) true 196 [.long (lN (sH g (ordE (lft g l) g (evr g) i))), .int (nI n)] h1 (fun r h' => Go (d + 5) true 245 73 [.ref 130, .int (-1), .long (lN m), mk_, .int (nI n), .long (lN wi), mk_, .int (nI i), z8, z9, z10] [r, .long (lN wi)] h' Q) from ?_)
                  refine m_isIn (s := (sH g (ordE (lft g l) g (evr g) i))) (j := n) (by omega) (by omega) (fun b7 => ?_) (fun b7 => ?_)
                  · skip
                    show Go (d + 5) true 245 73 [.ref 130, .int (-1), .long (lN m), mk_, .int (nI n), .long (lN wi), mk_, .int (nI i), z8, z9, z10] [.int 1, .long (lN wi)] h1 Q
                    refine exf_go 1 (show ((1 : Int32) = 0 → Go (d + 5) true 245 85 [.ref 130, .int (-1), .long (lN m), mk_, .int (nI n), .long (lN wi), mk_, .int (nI i), z8, z9, z10] [.long (lN wi)] h1 Q) ∧ (¬ ((1 : Int32) = 0) → Go (d + 5) true 245 76 [.ref 130, .int (-1), .long (lN m), mk_, .int (nI n), .long (lN wi), mk_, .int (nI i), z8, z9, z10] [.long (lN wi)] h1 Q) from ⟨fun c8 => ?_, fun c8 => ?_⟩)
                    · skip
                      exact absurd c8 (by decide)
                    · skip
                      refine exf_go 3 (show wpC (d + 5) true 229 [.ref 130, .int (nI i)] h1 (fun r h' => Go (d + 5) true 245 82 [.ref 130, .int (-1), .long (lN m), mk_, .int (nI n), .long (lN wi), mk_, .int (nI i), z8, z9, z10] [r, .long (lN wi)] h' Q) from ?_)
                      refine m_weightAtE ms1 mw1 mo1 (j := i) (by omega) ?_
                      have hwb := wtA_b ms.1.1 (sH g (ordE (lft g l) g (evr g) i))
                      show Go (d + 5) true 245 82 [.ref 130, .int (-1), .long (lN m), mk_, .int (nI n), .long (lN wi), mk_, .int (nI i), z8, z9, z10] [.long (lN (wtA g (sH g (ordE (lft g l) g (evr g) i)))), .long (lN wi)] h1 Q
                      refine exf_go 2 (show Go (d + 5) true 245 87 [.ref 130, .int (-1), .long (lN m), mk_, .int (nI n), .long (lN wi), mk_, .int (nI i), z8, z9, z10] [.long ((lN wi) + (lN (wtA g (sH g (ordE (lft g l) g (evr g) i)))))] h1 Q from ?_)
                      rw [show ((lN wi) + (lN (wtA g (sH g (ordE (lft g l) g (evr g) i)))) : Int64) = lN (wi + (wtA g (sH g (ordE (lft g l) g (evr g) i)))) from lN_add wi (wtA g (sH g (ordE (lft g l) g (evr g) i)))]
                      refine exf_go 2 (show Go (d + 5) true 245 92 [.ref 130, .int (-1), .long (lN m), mk_, .int (nI n), .long (lN (wi + (wtA g (sH g (ordE (lft g l) g (evr g) i))))), mk_, .int ((nI i) + 1), z8, z9, z10] [] h1 Q from ?_)
                      rw [show ((nI i) + 1 : Int32) = nI (i + 1) from nI_add i 1]
                      refine exf_go 1 (show Go (d + 5) true 245 40 [.ref 130, .int (-1), .long (lN m), mk_, .int (nI n), .long (lN (wi + (wtA g (sH g (ordE (lft g l) g (evr g) i))))), mk_, .int (nI (i + 1)), z8, z9, z10] [] h1 Q from ?_)
                      exact ih40 z8 z9 z10 (i + 1) (wi + (wtA g (sH g (ordE (lft g l) g (evr g) i)))) (by omega) (by omega) (by rw [hw, sumN]; first | rw [if_pos (by assumption)] | rw [if_neg (by omega)])
                  · skip
                    show Go (d + 5) true 245 73 [.ref 130, .int (-1), .long (lN m), mk_, .int (nI n), .long (lN wi), mk_, .int (nI i), z8, z9, z10] [.int 0, .long (lN wi)] h1 Q
                    refine exf_go 1 (show ((0 : Int32) = 0 → Go (d + 5) true 245 85 [.ref 130, .int (-1), .long (lN m), mk_, .int (nI n), .long (lN wi), mk_, .int (nI i), z8, z9, z10] [.long (lN wi)] h1 Q) ∧ (¬ ((0 : Int32) = 0) → Go (d + 5) true 245 76 [.ref 130, .int (-1), .long (lN m), mk_, .int (nI n), .long (lN wi), mk_, .int (nI i), z8, z9, z10] [.long (lN wi)] h1 Q) from ⟨fun c9 => ?_, fun c9 => ?_⟩)
                    · skip
                      refine exf_go 2 (show Go (d + 5) true 245 87 [.ref 130, .int (-1), .long (lN m), mk_, .int (nI n), .long (lN wi), mk_, .int (nI i), z8, z9, z10] [.long ((lN wi) + 0)] h1 Q from ?_)
                      rw [show ((lN wi) + 0 : Int64) = lN (wi + 0) from lN_add wi 0]
                      refine exf_go 2 (show Go (d + 5) true 245 92 [.ref 130, .int (-1), .long (lN m), mk_, .int (nI n), .long (lN (wi + 0)), mk_, .int ((nI i) + 1), z8, z9, z10] [] h1 Q from ?_)
                      rw [show ((nI i) + 1 : Int32) = nI (i + 1) from nI_add i 1]
                      refine exf_go 1 (show Go (d + 5) true 245 40 [.ref 130, .int (-1), .long (lN m), mk_, .int (nI n), .long (lN (wi + 0)), mk_, .int (nI (i + 1)), z8, z9, z10] [] h1 Q from ?_)
                      exact ih40 z8 z9 z10 (i + 1) (wi + 0) (by omega) (by omega) (by rw [hw, sumN]; first | rw [if_pos (by assumption)] | rw [if_neg (by omega)])
                    · skip
                      exact absurd (by decide) c9
            exact L40 (cntN (lft g l) (tot g) + 1) mk_ z9 mk_ 0 0 (by omega) (by omega) rfl
      · skip
        have := hob b rfl
        show Go (d + 5) true 245 16 [.ref 130, .int (nI b), .long (lN m), mk_, .int (nI n), z5, mk_, z7, mk_, z9, mk_] [] h1 Q
        refine exf_go 5 (show vp_in 2 41523 ∧ (Go (d + 5) true 245 24 [.ref 130, .int (nI b), .long (lN m), mk_, .int (nI n), z5, mk_, z7, mk_, z9, mk_] [.int (rI h1 131 2), .int (nI n)] h1 Q) from ⟨(vp_in_nI (n := 2) (by decide) (by decide)), ?_⟩)
        rw [show (rI h1 131 2 : Int32) = nI (sC g) from ms_C ms1]
        refine exf_go 1 (show ((nI (sC g)) ≤ (nI n) → Go (d + 5) true 245 148 [.ref 130, .int (nI b), .long (lN m), mk_, .int (nI n), z5, mk_, z7, mk_, z9, mk_] [] h1 Q) ∧ (¬ ((nI (sC g)) ≤ (nI n)) → Go (d + 5) true 245 27 [.ref 130, .int (nI b), .long (lN m), mk_, .int (nI n), z5, mk_, z7, mk_, z9, mk_] [] h1 Q) from ⟨fun c10 => ?_, fun c10 => ?_⟩)
        · skip
          have c10 : (sC g) ≤ n := (nI_leI (a := (sC g)) (b := n) (by omega) (by omega)).mp c10
          refine exf_go 2 (show Q (.int (nI b)) h1 from ?_)
          have e : n = sC g := by omega
          rw [fTelling, cntL, if_neg (by omega), ← e, ← hs] at k
          exact k _ q1
        · skip
          have c10 : ¬ (sC g) ≤ n := fun q => c10 ((nI_leI (a := (sC g)) (b := n) (by omega) (by omega)).mpr q)
          refine exf_go 2 (show Go (d + 5) true 245 31 [.ref 130, .int (nI b), .long (lN m), mk_, .int (nI n), z5, mk_, z7, mk_, z9, mk_] [.int (rI h1 130 22)] h1 Q from ?_)
          rw [show (rI h1 130 22 : Int32) = nI (cntN (lft g l) (tot g)) from mo1.1]
          refine exf_go 1 (show ((nI (cntN (lft g l) (tot g))) ≤ 0 → Go (d + 5) true 245 148 [.ref 130, .int (nI b), .long (lN m), mk_, .int (nI n), z5, mk_, z7, mk_, z9, mk_] [] h1 Q) ∧ (¬ ((nI (cntN (lft g l) (tot g))) ≤ 0) → Go (d + 5) true 245 34 [.ref 130, .int (nI b), .long (lN m), mk_, .int (nI n), z5, mk_, z7, mk_, z9, mk_] [] h1 Q) from ⟨fun c11 => ?_, fun c11 => ?_⟩)
          · skip
            have c11 : (cntN (lft g l) (tot g)) ≤ 0 := (nI_leI (a := (cntN (lft g l) (tot g))) (b := 0) (by omega) (by omega)).mp c11
            refine exf_go 2 (show Q (.int (nI b)) h1 from ?_)
            have e : n = sC g := by omega
            rw [fTelling, cntL, if_neg (by omega), ← e, ← hs] at k
            exact k _ q1
          · skip
            have c11 : ¬ (cntN (lft g l) (tot g)) ≤ 0 := fun q => c11 ((nI_leI (a := (cntN (lft g l) (tot g))) (b := 0) (by omega) (by omega)).mpr q)
            refine exf_go 4 (show Go (d + 5) true 245 40 [.ref 130, .int (nI b), .long (lN m), mk_, .int (nI n), .long 0, mk_, .int 0, mk_, z9, mk_] [] h1 Q from ?_)
            have L40 : ∀ (k40 : Nat) (z8 z9 z10 : Value) (i wi : Nat), (cntN (lft g l) (tot g) - i) < k40 → (i ≤ cntN (lft g l) (tot g)) → (wi = sumN (fun k => if btn (sH g (ordE (lft g l) g (evr g) k)) n = 1 then wtA g (sH g (ordE (lft g l) g (evr g) k)) else 0) i) → Go (d + 5) true 245 40 [.ref 130, .int (nI b), .long (lN m), mk_, .int (nI n), .long (lN wi), mk_, .int (nI i), z8, z9, z10] [] h1 Q := by
              intro k40
              induction k40 with
              | zero => intro z8 z9 z10 i wi hk; exact absurd hk (Nat.not_lt_zero _)
              | succ k40 ih40 =>
                intro z8 z9 z10 i wi hk hi hw
                have hwi : i = cntN (lft g l) (tot g) → wi = sumH g l n (tot g) := fun e => by rw [hw, e, sumH_ord]
                refine exf_go 3 (show Go (d + 5) true 245 46 [.ref 130, .int (nI b), .long (lN m), mk_, .int (nI n), .long (lN wi), mk_, .int (nI i), z8, z9, z10] [.int (rI h1 130 22), .int (nI i)] h1 Q from ?_)
                rw [show (rI h1 130 22 : Int32) = nI (cntN (lft g l) (tot g)) from mo1.1]
                refine exf_go 1 (show ((nI (cntN (lft g l) (tot g))) ≤ (nI i) → Go (d + 5) true 245 95 [.ref 130, .int (nI b), .long (lN m), mk_, .int (nI n), .long (lN wi), mk_, .int (nI i), z8, z9, z10] [] h1 Q) ∧ (¬ ((nI (cntN (lft g l) (tot g))) ≤ (nI i)) → Go (d + 5) true 245 49 [.ref 130, .int (nI b), .long (lN m), mk_, .int (nI n), .long (lN wi), mk_, .int (nI i), z8, z9, z10] [] h1 Q) from ⟨fun c12 => ?_, fun c12 => ?_⟩)
                · skip
                  have c12 : (cntN (lft g l) (tot g)) ≤ i := (nI_leI (a := (cntN (lft g l) (tot g))) (b := i) (by omega) (by omega)).mp c12
                  refine exf_go 2 (show wpC (d + 5) true 230 [.ref 130] h1 (fun r h' => Go (d + 5) true 245 99 [.ref 130, .int (nI b), .long (lN m), mk_, .int (nI n), .long (lN wi), mk_, .int (nI i), z8, z9, z10] [r] h' Q) from ?_)
                  have hwe := hwi (by omega); subst hwe
                  refine m_weightAll ms1 mw1 mo1 ?_
                  have hsL : sumL g l ≤ 1000000000000 := sumN_b (lwt_b ms.1.1 l) _ hN.2
                  show Go (d + 5) true 245 99 [.ref 130, .int (nI b), .long (lN m), mk_, .int (nI n), .long (lN (sumH g l n (tot g))), mk_, .int (nI i), z8, z9, z10] [.long (lN (sumL g l))] h1 Q
                  refine exf_go 2 (show Go (d + 5) true 245 102 [.ref 130, .int (nI b), .long (lN m), mk_, .int (nI n), .long (lN (sumH g l n (tot g))), mk_, .int (nI i), z8, z9, z10] [.long ((lN (sumL g l)) - (lN (sumH g l n (tot g))))] h1 Q from ?_)
                  rw [show ((lN (sumL g l)) - (lN (sumH g l n (tot g))) : Int64) = lN ((sumL g l) - (sumH g l n (tot g))) from lN_sub (a := (sumL g l)) (b := (sumH g l n (tot g))) (by omega)]
                  refine exf_go 5 (show ((lg_cmp (lN (sumH g l n (tot g))) (lN ((sumL g l) - (sumH g l n (tot g))))) ≤ 0 → Go (d + 5) true 245 117 [.ref 130, .int (nI b), .long (lN m), mk_, .int (nI n), .long (lN (sumH g l n (tot g))), mk_, .long (lN ((sumL g l) - (sumH g l n (tot g)))), mk_, z9, z10] [] h1 Q) ∧ (¬ ((lg_cmp (lN (sumH g l n (tot g))) (lN ((sumL g l) - (sumH g l n (tot g))))) ≤ 0) → Go (d + 5) true 245 112 [.ref 130, .int (nI b), .long (lN m), mk_, .int (nI n), .long (lN (sumH g l n (tot g))), mk_, .long (lN ((sumL g l) - (sumH g l n (tot g)))), mk_, z9, z10] [] h1 Q) from ⟨fun c13 => ?_, fun c13 => ?_⟩)
                  · skip
                    have c13 : (lN (sumH g l n (tot g))) ≤ (lN ((sumL g l) - (sumH g l n (tot g)))) := (lg_cmp_le _ _).mp c13
                    have c13 : (sumH g l n (tot g)) ≤ ((sumL g l) - (sumH g l n (tot g))) := (pk_lLE (a := (sumH g l n (tot g))) (b := ((sumL g l) - (sumH g l n (tot g)))) (by omega) (by omega)).mp c13
                    refine exf_go 5 (show ((nI b) = (-1) → Go (d + 5) true 245 136 [.ref 130, .int (nI b), .long (lN m), mk_, .int (nI n), .long (lN (sumH g l n (tot g))), mk_, .long (lN ((sumL g l) - (sumH g l n (tot g)))), mk_, .long (lN ((sumL g l) - (sumH g l n (tot g)))), mk_] [] h1 Q) ∧ (¬ ((nI b) = (-1)) → Go (d + 5) true 245 126 [.ref 130, .int (nI b), .long (lN m), mk_, .int (nI n), .long (lN (sumH g l n (tot g))), mk_, .long (lN ((sumL g l) - (sumH g l n (tot g)))), mk_, .long (lN ((sumL g l) - (sumH g l n (tot g)))), mk_] [] h1 Q) from ⟨fun c14 => ?_, fun c14 => ?_⟩)
                    · skip
                      exact absurd c14 (ng_eq (by omega) (by decide))
                    · skip
                      refine exf_go 4 (show ((lg_cmp (lN ((sumL g l) - (sumH g l n (tot g)))) (lN m)) < 0 → Go (d + 5) true 245 136 [.ref 130, .int (nI b), .long (lN m), mk_, .int (nI n), .long (lN (sumH g l n (tot g))), mk_, .long (lN ((sumL g l) - (sumH g l n (tot g)))), mk_, .long (lN ((sumL g l) - (sumH g l n (tot g)))), mk_] [] h1 Q) ∧ (¬ ((lg_cmp (lN ((sumL g l) - (sumH g l n (tot g)))) (lN m)) < 0) → Go (d + 5) true 245 133 [.ref 130, .int (nI b), .long (lN m), mk_, .int (nI n), .long (lN (sumH g l n (tot g))), mk_, .long (lN ((sumL g l) - (sumH g l n (tot g)))), mk_, .long (lN ((sumL g l) - (sumH g l n (tot g)))), mk_] [] h1 Q) from ⟨fun c15 => ?_, fun c15 => ?_⟩)
                      · skip
                        have c15 : (lN ((sumL g l) - (sumH g l n (tot g)))) < (lN m) := (lg_cmp_lt _ _).mp c15
                        have c15 : ((sumL g l) - (sumH g l n (tot g))) < m := (pk_lLT (a := ((sumL g l) - (sumH g l n (tot g)))) (b := m) (by omega) (by omega)).mp c15
                        refine exf_go 5 (show Go (d + 5) true 245 145 [.ref 130, .int (nI n), .long (lN ((sumL g l) - (sumH g l n (tot g)))), mk_, .int ((nI n) + 1), .long (lN (sumH g l n (tot g))), mk_, .long (lN ((sumL g l) - (sumH g l n (tot g)))), mk_, .long (lN ((sumL g l) - (sumH g l n (tot g)))), mk_] [] h1 Q from ?_)
                        rw [show ((nI n) + 1 : Int32) = nI (n + 1) from nI_add n 1]
                        refine exf_go 1 (show Go (d + 5) true 245 16 [.ref 130, .int (nI n), .long (lN ((sumL g l) - (sumH g l n (tot g)))), mk_, .int (nI (n + 1)), .long (lN (sumH g l n (tot g))), mk_, .long (lN ((sumL g l) - (sumH g l n (tot g)))), mk_, .long (lN ((sumL g l) - (sumH g l n (tot g)))), mk_] [] h1 Q from ?_)
                        exact ih16 (.long (lN (sumH g l n (tot g)))) (.long (lN ((sumL g l) - (sumH g l n (tot g))))) (.long (lN ((sumL g l) - (sumH g l n (tot g))))) (n + 1) (some n) ((sumL g l) - (sumH g l n (tot g))) (by omega) (by omega) (by rw [show (sumL g l) - (sumH g l n (tot g)) = max (sumH g l n (tot g)) (sumL g l - sumH g l n (tot g)) from by omega]; first | exact nr_first hs rfl | exact nr_less hs rfl (by show max _ _ < _; omega) | exact nr_more hs rfl (by show ¬ max _ _ < _; omega)) (fun q => absurd q (by omega))
                      · skip
                        have c15 : ¬ ((lN ((sumL g l) - (sumH g l n (tot g)))) < (lN m)) := fun q => c15 ((lg_cmp_lt _ _).mpr q)
                        have c15 : ¬ (((sumL g l) - (sumH g l n (tot g))) < m) := fun q => c15 ((pk_lLT (a := ((sumL g l) - (sumH g l n (tot g)))) (b := m) (by omega) (by omega)).mpr q)
                        refine exf_go 2 (show Go (d + 5) true 245 145 [.ref 130, .int (nI b), .long (lN m), mk_, .int ((nI n) + 1), .long (lN (sumH g l n (tot g))), mk_, .long (lN ((sumL g l) - (sumH g l n (tot g)))), mk_, .long (lN ((sumL g l) - (sumH g l n (tot g)))), mk_] [] h1 Q from ?_)
                        rw [show ((nI n) + 1 : Int32) = nI (n + 1) from nI_add n 1]
                        refine exf_go 1 (show Go (d + 5) true 245 16 [.ref 130, .int (nI b), .long (lN m), mk_, .int (nI (n + 1)), .long (lN (sumH g l n (tot g))), mk_, .long (lN ((sumL g l) - (sumH g l n (tot g)))), mk_, .long (lN ((sumL g l) - (sumH g l n (tot g)))), mk_] [] h1 Q from ?_)
                        exact ih16 (.long (lN (sumH g l n (tot g)))) (.long (lN ((sumL g l) - (sumH g l n (tot g))))) (.long (lN ((sumL g l) - (sumH g l n (tot g))))) (n + 1) (some b) m (by omega) (by omega) (by first | exact nr_first hs rfl | exact nr_less hs rfl (by show max _ _ < _; omega) | exact nr_more hs rfl (by show ¬ max _ _ < _; omega)) (fun q => absurd q (by omega))
                  · skip
                    have c13 : ¬ ((lN (sumH g l n (tot g))) ≤ (lN ((sumL g l) - (sumH g l n (tot g))))) := fun q => c13 ((lg_cmp_le _ _).mpr q)
                    have c13 : ¬ ((sumH g l n (tot g)) ≤ ((sumL g l) - (sumH g l n (tot g)))) := fun q => c13 ((pk_lLE (a := (sumH g l n (tot g))) (b := ((sumL g l) - (sumH g l n (tot g)))) (by omega) (by omega)).mpr q)
                    refine exf_go 6 (show ((nI b) = (-1) → Go (d + 5) true 245 136 [.ref 130, .int (nI b), .long (lN m), mk_, .int (nI n), .long (lN (sumH g l n (tot g))), mk_, .long (lN ((sumL g l) - (sumH g l n (tot g)))), mk_, .long (lN (sumH g l n (tot g))), mk_] [] h1 Q) ∧ (¬ ((nI b) = (-1)) → Go (d + 5) true 245 126 [.ref 130, .int (nI b), .long (lN m), mk_, .int (nI n), .long (lN (sumH g l n (tot g))), mk_, .long (lN ((sumL g l) - (sumH g l n (tot g)))), mk_, .long (lN (sumH g l n (tot g))), mk_] [] h1 Q) from ⟨fun c16 => ?_, fun c16 => ?_⟩)
                    · skip
                      exact absurd c16 (ng_eq (by omega) (by decide))
                    · skip
                      refine exf_go 4 (show ((lg_cmp (lN (sumH g l n (tot g))) (lN m)) < 0 → Go (d + 5) true 245 136 [.ref 130, .int (nI b), .long (lN m), mk_, .int (nI n), .long (lN (sumH g l n (tot g))), mk_, .long (lN ((sumL g l) - (sumH g l n (tot g)))), mk_, .long (lN (sumH g l n (tot g))), mk_] [] h1 Q) ∧ (¬ ((lg_cmp (lN (sumH g l n (tot g))) (lN m)) < 0) → Go (d + 5) true 245 133 [.ref 130, .int (nI b), .long (lN m), mk_, .int (nI n), .long (lN (sumH g l n (tot g))), mk_, .long (lN ((sumL g l) - (sumH g l n (tot g)))), mk_, .long (lN (sumH g l n (tot g))), mk_] [] h1 Q) from ⟨fun c17 => ?_, fun c17 => ?_⟩)
                      · skip
                        have c17 : (lN (sumH g l n (tot g))) < (lN m) := (lg_cmp_lt _ _).mp c17
                        have c17 : (sumH g l n (tot g)) < m := (pk_lLT (a := (sumH g l n (tot g))) (b := m) (by omega) (by omega)).mp c17
                        refine exf_go 5 (show Go (d + 5) true 245 145 [.ref 130, .int (nI n), .long (lN (sumH g l n (tot g))), mk_, .int ((nI n) + 1), .long (lN (sumH g l n (tot g))), mk_, .long (lN ((sumL g l) - (sumH g l n (tot g)))), mk_, .long (lN (sumH g l n (tot g))), mk_] [] h1 Q from ?_)
                        rw [show ((nI n) + 1 : Int32) = nI (n + 1) from nI_add n 1]
                        refine exf_go 1 (show Go (d + 5) true 245 16 [.ref 130, .int (nI n), .long (lN (sumH g l n (tot g))), mk_, .int (nI (n + 1)), .long (lN (sumH g l n (tot g))), mk_, .long (lN ((sumL g l) - (sumH g l n (tot g)))), mk_, .long (lN (sumH g l n (tot g))), mk_] [] h1 Q from ?_)
                        exact ih16 (.long (lN (sumH g l n (tot g)))) (.long (lN ((sumL g l) - (sumH g l n (tot g))))) (.long (lN (sumH g l n (tot g)))) (n + 1) (some n) (sumH g l n (tot g)) (by omega) (by omega) (by rw [show sumH g l n (tot g) = max (sumH g l n (tot g)) (sumL g l - sumH g l n (tot g)) from by omega]; first | exact nr_first hs rfl | exact nr_less hs rfl (by show max _ _ < _; omega) | exact nr_more hs rfl (by show ¬ max _ _ < _; omega)) (fun q => absurd q (by omega))
                      · skip
                        have c17 : ¬ ((lN (sumH g l n (tot g))) < (lN m)) := fun q => c17 ((lg_cmp_lt _ _).mpr q)
                        have c17 : ¬ ((sumH g l n (tot g)) < m) := fun q => c17 ((pk_lLT (a := (sumH g l n (tot g))) (b := m) (by omega) (by omega)).mpr q)
                        refine exf_go 2 (show Go (d + 5) true 245 145 [.ref 130, .int (nI b), .long (lN m), mk_, .int ((nI n) + 1), .long (lN (sumH g l n (tot g))), mk_, .long (lN ((sumL g l) - (sumH g l n (tot g)))), mk_, .long (lN (sumH g l n (tot g))), mk_] [] h1 Q from ?_)
                        rw [show ((nI n) + 1 : Int32) = nI (n + 1) from nI_add n 1]
                        refine exf_go 1 (show Go (d + 5) true 245 16 [.ref 130, .int (nI b), .long (lN m), mk_, .int (nI (n + 1)), .long (lN (sumH g l n (tot g))), mk_, .long (lN ((sumL g l) - (sumH g l n (tot g)))), mk_, .long (lN (sumH g l n (tot g))), mk_] [] h1 Q from ?_)
                        exact ih16 (.long (lN (sumH g l n (tot g)))) (.long (lN ((sumL g l) - (sumH g l n (tot g))))) (.long (lN (sumH g l n (tot g)))) (n + 1) (some b) m (by omega) (by omega) (by first | exact nr_first hs rfl | exact nr_less hs rfl (by show max _ _ < _; omega) | exact nr_more hs rfl (by show ¬ max _ _ < _; omega)) (fun q => absurd q (by omega))
                · skip
                  have c12 : ¬ (cntN (lft g l) (tot g)) ≤ i := fun q => c12 ((nI_leI (a := (cntN (lft g l) (tot g))) (b := i) (by omega) (by omega)).mpr q)
                  refine exf_go 8 (show vp_in (nI i) 10000 ∧ (Go (d + 5) true 245 65 [.ref 130, .int (nI b), .long (lN m), mk_, .int (nI n), .long (lN wi), mk_, .int (nI i), z8, z9, z10] [.int (rI h1 140 ((nI i).toNatClampNeg)), .int 3841, .ref 131, .long (lN wi)] h1 Q) from ⟨(vp_in_nI (by omega) (by omega)), ?_⟩)
                  rw [show (rI h1 140 ((nI i).toNatClampNeg) : Int32) = nI (ordE (lft g l) g (evr g) i) from mo_atE ms.1.1 mo1 (k := i) (by omega)]
                  have hoi := ordE_in (E := (lft g l)) (g := g) (kn := (evr g)) (k := i) (by omega)
                  refine exf_go 1 (show Go (d + 5) true 245 66 [.ref 130, .int (nI b), .long (lN m), mk_, .int (nI n), .long (lN wi), mk_, .int (nI i), z8, z9, z10] [.int (3841 + (nI (ordE (lft g l) g (evr g) i))), .ref 131, .long (lN wi)] h1 Q from ?_)
                  rw [show (3841 + (nI (ordE (lft g l) g (evr g) i)) : Int32) = nI (3841 + (ordE (lft g l) g (evr g) i)) from nI_add 3841 (ordE (lft g l) g (evr g) i)]
                  refine exf_go 1 (show vp_in (nI (3841 + (ordE (lft g l) g (evr g) i))) 41523 ∧ (Go (d + 5) true 245 67 [.ref 130, .int (nI b), .long (lN m), mk_, .int (nI n), .long (lN wi), mk_, .int (nI i), z8, z9, z10] [.int (rI h1 131 ((nI (3841 + (ordE (lft g l) g (evr g) i))).toNatClampNeg)), .long (lN wi)] h1 Q) from ⟨(vp_in_nI (by omega) (by omega)), ?_⟩)
                  rw [show (rI h1 131 ((nI (3841 + (ordE (lft g l) g (evr g) i))).toNatClampNeg) : Int32) = nI (sH g (ordE (lft g l) g (evr g) i)) from ms_H ms1 (n := (ordE (lft g l) g (evr g) i)) (by omega)]
                  have := sH_b ms1.1.1 (ordE (lft g l) g (evr g) i)
                  refine exf_go 1 (show Go (d + 5) true 245 68 [.ref 130, .int (nI b), .long (lN m), mk_, .int (nI n), .long (lN wi), mk_, .int (nI i), z8, z9, z10] [.long ((nI (sH g (ordE (lft g l) g (evr g) i))).toInt64), .long (lN wi)] h1 Q from ?_)
                  rw [show ((nI (sH g (ordE (lft g l) g (evr g) i))).toInt64 : Int64) = lN (sH g (ordE (lft g l) g (evr g) i)) from nI_l (n := (sH g (ordE (lft g l) g (evr g) i))) (by omega)]
                  refine exf_go 2 (show wpC (d + 5) true 196 [.long (lN (sH g (ordE (lft g l) g (evr g) i))), .int (nI n)] h1 (fun r h' => Go (d + 5) true 245 73 [.ref 130, .int (nI b), .long (lN m), mk_, .int (nI n), .long (lN wi), mk_, .int (nI i), z8, z9, z10] [r, .long (lN wi)] h' Q) from ?_)
                  refine m_isIn (s := (sH g (ordE (lft g l) g (evr g) i))) (j := n) (by omega) (by omega) (fun b18 => ?_) (fun b18 => ?_)
                  · skip
                    show Go (d + 5) true 245 73 [.ref 130, .int (nI b), .long (lN m), mk_, .int (nI n), .long (lN wi), mk_, .int (nI i), z8, z9, z10] [.int 1, .long (lN wi)] h1 Q
                    refine exf_go 1 (show ((1 : Int32) = 0 → Go (d + 5) true 245 85 [.ref 130, .int (nI b), .long (lN m), mk_, .int (nI n), .long (lN wi), mk_, .int (nI i), z8, z9, z10] [.long (lN wi)] h1 Q) ∧ (¬ ((1 : Int32) = 0) → Go (d + 5) true 245 76 [.ref 130, .int (nI b), .long (lN m), mk_, .int (nI n), .long (lN wi), mk_, .int (nI i), z8, z9, z10] [.long (lN wi)] h1 Q) from ⟨fun c19 => ?_, fun c19 => ?_⟩)
                    · skip
                      exact absurd c19 (by decide)
                    · skip
                      refine exf_go 3 (show wpC (d + 5) true 229 [.ref 130, .int (nI i)] h1 (fun r h' => Go (d + 5) true 245 82 [.ref 130, .int (nI b), .long (lN m), mk_, .int (nI n), .long (lN wi), mk_, .int (nI i), z8, z9, z10] [r, .long (lN wi)] h' Q) from ?_)
                      refine m_weightAtE ms1 mw1 mo1 (j := i) (by omega) ?_
                      have hwb := wtA_b ms.1.1 (sH g (ordE (lft g l) g (evr g) i))
                      show Go (d + 5) true 245 82 [.ref 130, .int (nI b), .long (lN m), mk_, .int (nI n), .long (lN wi), mk_, .int (nI i), z8, z9, z10] [.long (lN (wtA g (sH g (ordE (lft g l) g (evr g) i)))), .long (lN wi)] h1 Q
                      refine exf_go 2 (show Go (d + 5) true 245 87 [.ref 130, .int (nI b), .long (lN m), mk_, .int (nI n), .long (lN wi), mk_, .int (nI i), z8, z9, z10] [.long ((lN wi) + (lN (wtA g (sH g (ordE (lft g l) g (evr g) i)))))] h1 Q from ?_)
                      rw [show ((lN wi) + (lN (wtA g (sH g (ordE (lft g l) g (evr g) i)))) : Int64) = lN (wi + (wtA g (sH g (ordE (lft g l) g (evr g) i)))) from lN_add wi (wtA g (sH g (ordE (lft g l) g (evr g) i)))]
                      refine exf_go 2 (show Go (d + 5) true 245 92 [.ref 130, .int (nI b), .long (lN m), mk_, .int (nI n), .long (lN (wi + (wtA g (sH g (ordE (lft g l) g (evr g) i))))), mk_, .int ((nI i) + 1), z8, z9, z10] [] h1 Q from ?_)
                      rw [show ((nI i) + 1 : Int32) = nI (i + 1) from nI_add i 1]
                      refine exf_go 1 (show Go (d + 5) true 245 40 [.ref 130, .int (nI b), .long (lN m), mk_, .int (nI n), .long (lN (wi + (wtA g (sH g (ordE (lft g l) g (evr g) i))))), mk_, .int (nI (i + 1)), z8, z9, z10] [] h1 Q from ?_)
                      exact ih40 z8 z9 z10 (i + 1) (wi + (wtA g (sH g (ordE (lft g l) g (evr g) i)))) (by omega) (by omega) (by rw [hw, sumN]; first | rw [if_pos (by assumption)] | rw [if_neg (by omega)])
                  · skip
                    show Go (d + 5) true 245 73 [.ref 130, .int (nI b), .long (lN m), mk_, .int (nI n), .long (lN wi), mk_, .int (nI i), z8, z9, z10] [.int 0, .long (lN wi)] h1 Q
                    refine exf_go 1 (show ((0 : Int32) = 0 → Go (d + 5) true 245 85 [.ref 130, .int (nI b), .long (lN m), mk_, .int (nI n), .long (lN wi), mk_, .int (nI i), z8, z9, z10] [.long (lN wi)] h1 Q) ∧ (¬ ((0 : Int32) = 0) → Go (d + 5) true 245 76 [.ref 130, .int (nI b), .long (lN m), mk_, .int (nI n), .long (lN wi), mk_, .int (nI i), z8, z9, z10] [.long (lN wi)] h1 Q) from ⟨fun c20 => ?_, fun c20 => ?_⟩)
                    · skip
                      refine exf_go 2 (show Go (d + 5) true 245 87 [.ref 130, .int (nI b), .long (lN m), mk_, .int (nI n), .long (lN wi), mk_, .int (nI i), z8, z9, z10] [.long ((lN wi) + 0)] h1 Q from ?_)
                      rw [show ((lN wi) + 0 : Int64) = lN (wi + 0) from lN_add wi 0]
                      refine exf_go 2 (show Go (d + 5) true 245 92 [.ref 130, .int (nI b), .long (lN m), mk_, .int (nI n), .long (lN (wi + 0)), mk_, .int ((nI i) + 1), z8, z9, z10] [] h1 Q from ?_)
                      rw [show ((nI i) + 1 : Int32) = nI (i + 1) from nI_add i 1]
                      refine exf_go 1 (show Go (d + 5) true 245 40 [.ref 130, .int (nI b), .long (lN m), mk_, .int (nI n), .long (lN (wi + 0)), mk_, .int (nI (i + 1)), z8, z9, z10] [] h1 Q from ?_)
                      exact ih40 z8 z9 z10 (i + 1) (wi + 0) (by omega) (by omega) (by rw [hw, sumN]; first | rw [if_pos (by assumption)] | rw [if_neg (by omega)])
                    · skip
                      exact absurd (by decide) c20
            exact L40 (cntN (lft g l) (tot g) + 1) mk_ z9 mk_ 0 0 (by omega) (by omega) rfl
  exact L16 (sC g + 1) mk_ mk_ mk_ 0 none 0 (by omega) (by omega) rfl (fun _ => rfl)
