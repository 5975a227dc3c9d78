/-! The model lays an order. -/
def rkN (g : ShG) (kn n : Nat) : Nat := rkF (wtK g kn) (sH g n) (2 ^ sC g)
theorem mr_at {g : ShG} {l : LkG} {kn : Nat} {h : Hp} (ms : MS g l h) (mr : MR g kn h) (n : Nat) : rI h 138 (nI (sH g n)).toNatClampNeg = nI (rkN g kn n) := by
  have h1 := hH ms.1.1 n
  have e := evr_b ms.1.1
  rw [nI_clamp (by omega)]
  exact mr _ h1
theorem rkN_b {g : ShG} (h : ShW g) (kn n : Nat) : rkN g kn n < 256 := by
  have h1 := rkF_lt (f := wtK g kn) (hH h n)
  have e := evr_b h
  unfold rkN
  omega
/-- the order of the numbers that E takes, laid in the model -/
def MO (E : Nat → Bool) (g : ShG) (kn : Nat) (h : Hp) : Prop := rI h 130 22 = nI (cntN E (tot g)) ∧ ∀ n, n < tot g → E n = true → rI h 140 (pos E (rkN g kn) (tot g) n) = nI n
theorem mr_fq {g : ShG} {kn : Nat} {h h1 : Hp} (mr : MR g kn h) (e : rI h1 138 = rI h 138) : MR g kn h1 := fun m hm => by rw [e]; exact mr m hm
theorem m_laysOrder1 {d : Nat} {h : Hp} {g : ShG} {l : LkG} {kn : Nat} {Q : Po} (ms : MS g l h) (hk0 : kn < 256) (k : ∀ h1, Fq scM h h1 → MW g kn h1 → MO (elg g l kn true) g kn h1 → Q mk_ h1) : wpC (d + 4) true 227 [.ref 130, .int (nI kn), .int 1] h Q := by
  have h8 := ms.1.1.2.2.2.1
  have hN := tot_b ms.1.1
  refine go_in rfl ?_
  refine exf_go 3 (show wpC (d + 3) true 225 [.ref 130, .int (nI kn)] h (fun _ h' => Go (d + 3) true 227 5 [.ref 130, .int (nI kn), .int 1, mk_] [] h' Q) from ?_)
  refine m_laysRanks ms (by omega) (fun h1 q1 mw1 mr1 => ?_)
  have ms1 := ms_fq ms q1
  show Go (d + 3) true 227 5 [.ref 130, .int (nI kn), .int 1, mk_] [] h1 Q
  refine exf_go 2 (show Go (d + 3) true 227 7 [.ref 130, .int (nI kn), .int 1, .int 0] [] h1 Q from ?_)
  have L7 : ∀ (k7 : Nat) (m : Nat) (h2 : Hp), (257 - m) < k7 → (m ≤ 257) → (Fq scM h h2) → (MW g kn h2) → (MR g kn h2) → (∀ j, j < m → rI h2 139 j = nI 0) → Go (d + 3) true 227 7 [.ref 130, .int (nI kn), .int 1, .int (nI m)] [] h2 Q := by
    intro k7
    induction k7 with
    | zero => intro m h2 hk; exact absurd hk (Nat.not_lt_zero _)
    | succ k7 ih7 =>
      intro m h2 hk hm q2 mw2 mr2 hb
      refine exf_go 3 (show (257 ≤ (nI m) → Go (d + 3) true 227 27 [.ref 130, .int (nI kn), .int 1, .int (nI m)] [] h2 Q) ∧ (¬ (257 ≤ (nI m)) → Go (d + 3) true 227 14 [.ref 130, .int (nI kn), .int 1, .int (nI m)] [] h2 Q) from ⟨fun c2 => ?_, fun c2 => ?_⟩)
      · skip
        have c2 : 257 ≤ m := (nI_leI (a := 257) (b := m) (by omega) (by omega)).mp c2
        refine exf_go 5 (show Go (d + 3) true 227 34 [.ref 130, .int (nI kn), .int 1, .int 0] [] (uI h2 130 22 0) Q from ?_)
        have L34 : ∀ (k34 : Nat) (n : Nat) (h3 : Hp), (tot g - n) < k34 → (n ≤ tot g) → (Fq scM h h3) → (MW g kn h3) → (MR g kn h3) → (∀ j, j < 257 → rI h3 139 j = nI (bgA (elg g l kn true) (rkN g kn) n j)) → (rI h3 130 22 = nI (cntN (elg g l kn true) n)) → Go (d + 3) true 227 34 [.ref 130, .int (nI kn), .int 1, .int (nI n)] [] h3 Q := by
          intro k34
          induction k34 with
          | zero => intro n h3 hk; exact absurd hk (Nat.not_lt_zero _)
          | succ k34 ih34 =>
            intro n h3 hk hn q3 mw3 mr3 hb3 hm3
            have ms3 := ms_fq ms q3
            have hr3 := rkN_b ms.1.1 kn n
            have hs3 := sH_b ms.1.1 n
            have hbb := bg_b (elg g l kn true) (rkN g kn) n (rkN g kn n + 1)
            have hcc := cntN_le (elg g l kn true) n
            refine exf_go 5 (show vp_in 4 41523 ∧ (Go (d + 3) true 227 41 [.ref 130, .int (nI kn), .int 1, .int (nI n)] [.int (rI h3 131 4), .int (nI n)] h3 Q) from ⟨(vp_in_nI (n := 4) (by decide) (by decide)), ?_⟩)
            rw [show (rI h3 131 4 : Int32) = nI (tot g) from ms_N ms3]
            refine exf_go 1 (show ((nI (tot g)) ≤ (nI n) → Go (d + 3) true 227 98 [.ref 130, .int (nI kn), .int 1, .int (nI n)] [] h3 Q) ∧ (¬ ((nI (tot g)) ≤ (nI n)) → Go (d + 3) true 227 44 [.ref 130, .int (nI kn), .int 1, .int (nI n)] [] h3 Q) from ⟨fun c3 => ?_, fun c3 => ?_⟩)
            · skip
              have c3 : (tot g) ≤ n := (nI_leI (a := (tot g)) (b := n) (by omega) (by omega)).mp c3
              refine exf_go 2 (show Go (d + 3) true 227 100 [.ref 130, .int (nI kn), .int 1, .int 0] [] h3 Q from ?_)
              have L100 : ∀ (k100 : Nat) (m : Nat) (h4 : Hp), (256 - m) < k100 → (m ≤ 256) → (Fq scM h h4) → (MW g kn h4) → (MR g kn h4) → (∀ j, j < 257 → rI h4 139 j = nI (pfx (elg g l kn true) (rkN g kn) (tot g) m j)) → (rI h4 130 22 = nI (cntN (elg g l kn true) (tot g))) → Go (d + 3) true 227 100 [.ref 130, .int (nI kn), .int 1, .int (nI m)] [] h4 Q := by
                intro k100
                induction k100 with
                | zero => intro m h4 hk; exact absurd hk (Nat.not_lt_zero _)
                | succ k100 ih100 =>
                  intro m h4 hk hm4 q4 mw4 mr4 hb4 hmy
                  have hp1 := pfx_b (elg g l kn true) (rkN g kn) (tot g) m m; have hp2 := pfx_b (elg g l kn true) (rkN g kn) (tot g) m (m + 1)
                  refine exf_go 3 (show (256 ≤ (nI m) → Go (d + 3) true 227 130 [.ref 130, .int (nI kn), .int 1, .int (nI m)] [] h4 Q) ∧ (¬ (256 ≤ (nI m)) → Go (d + 3) true 227 107 [.ref 130, .int (nI kn), .int 1, .int (nI m)] [] h4 Q) from ⟨fun c4 => ?_, fun c4 => ?_⟩)
                  · skip
                    have c4 : 256 ≤ m := (nI_leI (a := 256) (b := m) (by omega) (by omega)).mp c4
                    refine exf_go 2 (show Go (d + 3) true 227 132 [.ref 130, .int (nI kn), .int 1, .int 0] [] h4 Q from ?_)
                    have L132 : ∀ (k132 : Nat) (n : Nat) (h5 : Hp), (tot g - n) < k132 → (n ≤ tot g) → (Fq scM h h5) → (MW g kn h5) → (MR g kn h5) → (∀ j, j < 256 → rI h5 139 j = nI (fnB (elg g l kn true) (rkN g kn) (tot g) n j)) → (rI h5 130 22 = nI (cntN (elg g l kn true) (tot g))) → (∀ m, m < n → (elg g l kn true) m = true → rI h5 140 (pos (elg g l kn true) (rkN g kn) (tot g) m) = nI m) → Go (d + 3) true 227 132 [.ref 130, .int (nI kn), .int 1, .int (nI n)] [] h5 Q := by
                      intro k132
                      induction k132 with
                      | zero => intro n h5 hk; exact absurd hk (Nat.not_lt_zero _)
                      | succ k132 ih132 =>
                        intro n h5 hk hn5 q5 mw5 mr5 hb5 hmy5 ho5
                        have ms5 := ms_fq ms q5
                        have hr5 := rkN_b ms.1.1 kn n
                        have hs5 := sH_b ms.1.1 n
                        refine exf_go 5 (show vp_in 4 41523 ∧ (Go (d + 3) true 227 139 [.ref 130, .int (nI kn), .int 1, .int (nI n)] [.int (rI h5 131 4), .int (nI n)] h5 Q) from ⟨(vp_in_nI (n := 4) (by decide) (by decide)), ?_⟩)
                        rw [show (rI h5 131 4 : Int32) = nI (tot g) from ms_N ms5]
                        refine exf_go 1 (show ((nI (tot g)) ≤ (nI n) → Go (d + 3) true 227 210 [.ref 130, .int (nI kn), .int 1, .int (nI n)] [] h5 Q) ∧ (¬ ((nI (tot g)) ≤ (nI n)) → Go (d + 3) true 227 142 [.ref 130, .int (nI kn), .int 1, .int (nI n)] [] h5 Q) from ⟨fun c5 => ?_, fun c5 => ?_⟩)
                        · skip
                          have c5 : (tot g) ≤ n := (nI_leI (a := (tot g)) (b := n) (by omega) (by omega)).mp c5
                          refine exf_go 1 (show Q (mk_) h5 from ?_)
                          exact k h5 q5 mw5 ⟨hmy5, fun m hm hE => ho5 m (by omega) hE⟩
                        · skip
                          have c5 : ¬ (tot g) ≤ n := fun q => c5 ((nI_leI (a := (tot g)) (b := n) (by omega) (by omega)).mpr q)
                          refine exf_go 4 (show wpC (d + 3) true 226 [.ref 130, .int (nI n), .int 1] h5 (fun r h' => Go (d + 3) true 227 148 [.ref 130, .int (nI kn), .int 1, .int (nI n)] [r] h' Q) from ?_)
                          refine m_isLeft1 ms5 mw5 (by omega) (fun b6 => ?_) (fun b6 => ?_)
                          · skip
                            have hpl := pos_lt (rk := rkN g kn) (N := tot g) (n := n) (by omega) b6; have hcc := cntN_le (elg g l kn true) (tot g)
                            show Go (d + 3) true 227 148 [.ref 130, .int (nI kn), .int 1, .int (nI n)] [.int 1] h5 Q
                            refine exf_go 1 (show (¬ (1 : Int32) = 0 → Go (d + 3) true 227 154 [.ref 130, .int (nI kn), .int 1, .int (nI n)] [] h5 Q) ∧ (¬ (¬ (1 : Int32) = 0) → Go (d + 3) true 227 151 [.ref 130, .int (nI kn), .int 1, .int (nI n)] [] h5 Q) from ⟨fun c7 => ?_, fun c7 => ?_⟩)
                            · skip
                              refine exf_go 11 (show Go (d + 3) true 227 175 [.ref 130, .int (nI kn), .int 1, .int (nI n)] [.int (3841 + (nI n)), .ref 131, .ref 138, .ref 139, .ref 140] h5 Q from ?_)
                              rw [show (3841 + (nI n) : Int32) = nI (3841 + n) from nI_add 3841 n]
                              refine exf_go 1 (show vp_in (nI (3841 + n)) 41523 ∧ (Go (d + 3) true 227 176 [.ref 130, .int (nI kn), .int 1, .int (nI n)] [.int (rI h5 131 ((nI (3841 + n)).toNatClampNeg)), .ref 138, .ref 139, .ref 140] h5 Q) from ⟨(vp_in_nI (by omega) (by omega)), ?_⟩)
                              rw [show (rI h5 131 ((nI (3841 + n)).toNatClampNeg) : Int32) = nI (sH g n) from ms_H ms5 (n := n) (by omega)]
                              have := sH_b ms5.1.1 n
                              refine exf_go 1 (show vp_in (nI (sH g n)) 256 ∧ (Go (d + 3) true 227 177 [.ref 130, .int (nI kn), .int 1, .int (nI n)] [.int (rI h5 138 ((nI (sH g n)).toNatClampNeg)), .ref 139, .ref 140] h5 Q) from ⟨(vp_in_nI (by omega) (by omega)), ?_⟩)
                              rw [show (rI h5 138 ((nI (sH g n)).toNatClampNeg) : Int32) = nI (rkN g kn n) from mr_at ms5 mr5 n]
                              refine exf_go 1 (show vp_in (nI (rkN g kn n)) 257 ∧ (Go (d + 3) true 227 178 [.ref 130, .int (nI kn), .int 1, .int (nI n)] [.int (rI h5 139 ((nI (rkN g kn n)).toNatClampNeg)), .ref 140] h5 Q) from ⟨(vp_in_nI (by omega) (by omega)), ?_⟩)
                              rw [show (rI h5 139 ((nI (rkN g kn n)).toNatClampNeg) : Int32) = nI (pos (elg g l kn true) (rkN g kn) (tot g) n) from by rw [nI_clamp (by omega)]; exact hb5 _ (by omega)]
                              refine exf_go 11 (show vp_in (nI (pos (elg g l kn true) (rkN g kn) (tot g) n)) 10000 ∧ (Go (d + 3) true 227 197 [.ref 130, .int (nI kn), .int 1, .int (nI n)] [.int (3841 + (nI n)), .ref 131, .ref 138, .ref 139] (uI h5 140 ((nI (pos (elg g l kn true) (rkN g kn) (tot g) n)).toNatClampNeg) (nI n)) Q) from ⟨(vp_in_nI (by omega) (by omega)), ?_⟩)
                              rw [show (3841 + (nI n) : Int32) = nI (3841 + n) from nI_add 3841 n]
                              refine exf_go 1 (show vp_in (nI (3841 + n)) 41523 ∧ (Go (d + 3) true 227 198 [.ref 130, .int (nI kn), .int 1, .int (nI n)] [.int (rI h5 131 ((nI (3841 + n)).toNatClampNeg)), .ref 138, .ref 139] (uI h5 140 ((nI (pos (elg g l kn true) (rkN g kn) (tot g) n)).toNatClampNeg) (nI n)) Q) from ⟨(vp_in_nI (by omega) (by omega)), ?_⟩)
                              rw [show (rI h5 131 ((nI (3841 + n)).toNatClampNeg) : Int32) = nI (sH g n) from ms_H ms5 (n := n) (by omega)]
                              have := sH_b ms5.1.1 n
                              refine exf_go 1 (show vp_in (nI (sH g n)) 256 ∧ (Go (d + 3) true 227 199 [.ref 130, .int (nI kn), .int 1, .int (nI n)] [.int (rI h5 138 ((nI (sH g n)).toNatClampNeg)), .ref 139] (uI h5 140 ((nI (pos (elg g l kn true) (rkN g kn) (tot g) n)).toNatClampNeg) (nI n)) Q) from ⟨(vp_in_nI (by omega) (by omega)), ?_⟩)
                              rw [show (rI h5 138 ((nI (sH g n)).toNatClampNeg) : Int32) = nI (rkN g kn n) from mr_at ms5 mr5 n]
                              refine exf_go 2 (show vp_in (nI (rkN g kn n)) 257 ∧ (Go (d + 3) true 227 201 [.ref 130, .int (nI kn), .int 1, .int (nI n)] [.int (rI h5 139 ((nI (rkN g kn n)).toNatClampNeg)), .int (nI (rkN g kn n)), .ref 139] (uI h5 140 ((nI (pos (elg g l kn true) (rkN g kn) (tot g) n)).toNatClampNeg) (nI n)) Q) from ⟨(vp_in_nI (by omega) (by omega)), ?_⟩)
                              rw [show (rI h5 139 ((nI (rkN g kn n)).toNatClampNeg) : Int32) = nI (pos (elg g l kn true) (rkN g kn) (tot g) n) from by rw [nI_clamp (by omega)]; exact hb5 _ (by omega)]
                              refine exf_go 2 (show Go (d + 3) true 227 203 [.ref 130, .int (nI kn), .int 1, .int (nI n)] [.int ((nI (pos (elg g l kn true) (rkN g kn) (tot g) n)) + 1), .int (nI (rkN g kn n)), .ref 139] (uI h5 140 ((nI (pos (elg g l kn true) (rkN g kn) (tot g) n)).toNatClampNeg) (nI n)) Q from ?_)
                              rw [show ((nI (pos (elg g l kn true) (rkN g kn) (tot g) n)) + 1 : Int32) = nI ((pos (elg g l kn true) (rkN g kn) (tot g) n) + 1) from nI_add (pos (elg g l kn true) (rkN g kn) (tot g) n) 1]
                              refine exf_go 2 (show vp_in (nI (rkN g kn n)) 257 ∧ (Go (d + 3) true 227 207 [.ref 130, .int (nI kn), .int 1, .int ((nI n) + 1)] [] (uI (uI h5 140 ((nI (pos (elg g l kn true) (rkN g kn) (tot g) n)).toNatClampNeg) (nI n)) 139 ((nI (rkN g kn n)).toNatClampNeg) (nI ((pos (elg g l kn true) (rkN g kn) (tot g) n) + 1))) Q) from ⟨(vp_in_nI (by omega) (by omega)), ?_⟩)
                              rw [show ((nI n) + 1 : Int32) = nI (n + 1) from nI_add n 1]
                              refine exf_go 1 (show Go (d + 3) true 227 132 [.ref 130, .int (nI kn), .int 1, .int (nI (n + 1))] [] (uI (uI h5 140 ((nI (pos (elg g l kn true) (rkN g kn) (tot g) n)).toNatClampNeg) (nI n)) 139 ((nI (rkN g kn n)).toNatClampNeg) (nI ((pos (elg g l kn true) (rkN g kn) (tot g) n) + 1))) Q from ?_)
                              exact ih132 (n + 1) _ (by omega) (by omega) ((q5.uI' _ _ _ rfl).uI' _ _ _ rfl) (mw_fq mw5 rfl) (mr_fq mr5 ((rI_uI_ne (by decide)).trans (rI_uI_ne (by decide)))) (fun j hj => by rw [nI_clamp (n := rkN g kn n) (by omega)]; exact (Decidable.em (j = rkN g kn n)).elim (fun e => by rw [e, rI_uI_eq]; exact congrArg nI (fn_hit (by assumption))) (fun e => by rw [rI_uI_at e, rI_uI_ne (by decide), fn_miss e]; exact hb5 j hj)) ((congrFun ((rI_uI_ne (by decide)).trans (rI_uI_ne (by decide))) 22).trans hmy5) (fun m hm hE => by rw [rI_uI_ne (by decide), nI_clamp (by omega)]; exact (Decidable.em (m = n)).elim (fun e => by subst e; exact rI_uI_eq) (fun e => by rw [rI_uI_at (fun q => pos_inj (rk := rkN g kn) (N := tot g) (m := m) (n := n) (by omega) (by omega) hE (by assumption) (by omega) q.symm)]; exact ho5 m (by omega) hE))
                            · skip
                              exact absurd (by decide) c7
                          · skip
                            show Go (d + 3) true 227 148 [.ref 130, .int (nI kn), .int 1, .int (nI n)] [.int 0] h5 Q
                            refine exf_go 1 (show (¬ (0 : Int32) = 0 → Go (d + 3) true 227 154 [.ref 130, .int (nI kn), .int 1, .int (nI n)] [] h5 Q) ∧ (¬ (¬ (0 : Int32) = 0) → Go (d + 3) true 227 151 [.ref 130, .int (nI kn), .int 1, .int (nI n)] [] h5 Q) from ⟨fun c8 => ?_, fun c8 => ?_⟩)
                            · skip
                              exact absurd c8 (by decide)
                            · skip
                              refine exf_go 2 (show Go (d + 3) true 227 207 [.ref 130, .int (nI kn), .int 1, .int ((nI n) + 1)] [] h5 Q from ?_)
                              rw [show ((nI n) + 1 : Int32) = nI (n + 1) from nI_add n 1]
                              refine exf_go 1 (show Go (d + 3) true 227 132 [.ref 130, .int (nI kn), .int 1, .int (nI (n + 1))] [] h5 Q from ?_)
                              exact ih132 (n + 1) _ (by omega) (by omega) q5 mw5 mr5 (fun j hj => by rw [fn_no (by assumption)]; exact hb5 j hj) hmy5 (fun m hm hE => ho5 m ((Nat.lt_or_eq_of_le (Nat.le_of_lt_succ hm)).elim id (fun e => by subst e; rw [hE] at *; contradiction)) hE)
                    exact L132 (tot g + 1) 0 h4 (by omega) (by omega) q4 mw4 mr4 (fun j hj => by rw [hb4 j (by omega), fn_0, pfx, if_pos (by omega)]) hmy (fun j hj => absurd hj (Nat.not_lt_zero _))
                  · skip
                    have c4 : ¬ 256 ≤ m := fun q => c4 ((nI_leI (a := 256) (b := m) (by omega) (by omega)).mpr q)
                    refine exf_go 5 (show Go (d + 3) true 227 114 [.ref 130, .int (nI kn), .int 1, .int (nI m)] [.int ((nI m) + 1), .ref 139] h4 Q from ?_)
                    rw [show ((nI m) + 1 : Int32) = nI (m + 1) from nI_add m 1]
                    refine exf_go 2 (show vp_in (nI (m + 1)) 257 ∧ (Go (d + 3) true 227 116 [.ref 130, .int (nI kn), .int 1, .int (nI m)] [.int (rI h4 139 ((nI (m + 1)).toNatClampNeg)), .int (nI (m + 1)), .ref 139] h4 Q) from ⟨(vp_in_nI (by omega) (by omega)), ?_⟩)
                    rw [show (rI h4 139 ((nI (m + 1)).toNatClampNeg) : Int32) = nI (pfx (elg g l kn true) (rkN g kn) (tot g) m (m + 1)) from by rw [nI_clamp (by omega)]; exact hb4 _ (by omega)]
                    refine exf_go 4 (show vp_in (nI m) 257 ∧ (Go (d + 3) true 227 122 [.ref 130, .int (nI kn), .int 1, .int (nI m)] [.int (rI h4 139 ((nI m).toNatClampNeg)), .int (nI (pfx (elg g l kn true) (rkN g kn) (tot g) m (m + 1))), .int (nI (m + 1)), .ref 139] h4 Q) from ⟨(vp_in_nI (by omega) (by omega)), ?_⟩)
                    rw [show (rI h4 139 ((nI m).toNatClampNeg) : Int32) = nI (pfx (elg g l kn true) (rkN g kn) (tot g) m m) from by rw [nI_clamp (by omega)]; exact hb4 _ (by omega)]
                    refine exf_go 1 (show Go (d + 3) true 227 123 [.ref 130, .int (nI kn), .int 1, .int (nI m)] [.int ((nI (pfx (elg g l kn true) (rkN g kn) (tot g) m (m + 1))) + (nI (pfx (elg g l kn true) (rkN g kn) (tot g) m m))), .int (nI (m + 1)), .ref 139] h4 Q from ?_)
                    rw [show ((nI (pfx (elg g l kn true) (rkN g kn) (tot g) m (m + 1))) + (nI (pfx (elg g l kn true) (rkN g kn) (tot g) m m)) : Int32) = nI ((pfx (elg g l kn true) (rkN g kn) (tot g) m (m + 1)) + (pfx (elg g l kn true) (rkN g kn) (tot g) m m)) from nI_add (pfx (elg g l kn true) (rkN g kn) (tot g) m (m + 1)) (pfx (elg g l kn true) (rkN g kn) (tot g) m m)]
                    refine exf_go 2 (show vp_in (nI (m + 1)) 257 ∧ (Go (d + 3) true 227 127 [.ref 130, .int (nI kn), .int 1, .int ((nI m) + 1)] [] (uI h4 139 ((nI (m + 1)).toNatClampNeg) (nI ((pfx (elg g l kn true) (rkN g kn) (tot g) m (m + 1)) + (pfx (elg g l kn true) (rkN g kn) (tot g) m m)))) Q) from ⟨(vp_in_nI (by omega) (by omega)), ?_⟩)
                    rw [show ((nI m) + 1 : Int32) = nI (m + 1) from nI_add m 1]
                    refine exf_go 1 (show Go (d + 3) true 227 100 [.ref 130, .int (nI kn), .int 1, .int (nI (m + 1))] [] (uI h4 139 ((nI (m + 1)).toNatClampNeg) (nI ((pfx (elg g l kn true) (rkN g kn) (tot g) m (m + 1)) + (pfx (elg g l kn true) (rkN g kn) (tot g) m m)))) Q from ?_)
                    exact ih100 (m + 1) _ (by omega) (by omega) (q4.uI' _ _ _ rfl) (mw_fq mw4 rfl) (mr_fq mr4 (rI_uI_ne (by decide))) (fun j hj => by rw [nI_clamp (by omega)]; exact (Decidable.em (j = m + 1)).elim (fun e => by rw [e, rI_uI_eq]; exact congrArg nI (pfx_s _ _ _ m)) (fun e => by rw [rI_uI_at e, pfx_o _ _ _ _ _ e]; exact hb4 j hj)) ((congrFun (rI_uI_ne (by decide)) 22).trans hmy)
              exact L100 (256 + 1) 0 h3 (by omega) (by omega) q3 mw3 mr3 (fun j hj => by rw [pfx_0, hb3 j hj, show n = tot g from by omega]) (by rw [hm3, show n = tot g from by omega])
            · skip
              have c3 : ¬ (tot g) ≤ n := fun q => c3 ((nI_leI (a := (tot g)) (b := n) (by omega) (by omega)).mpr q)
              refine exf_go 4 (show wpC (d + 3) true 226 [.ref 130, .int (nI n), .int 1] h3 (fun r h' => Go (d + 3) true 227 50 [.ref 130, .int (nI kn), .int 1, .int (nI n)] [r] h' Q) from ?_)
              refine m_isLeft1 ms3 mw3 (by omega) (fun b9 => ?_) (fun b9 => ?_)
              · skip
                show Go (d + 3) true 227 50 [.ref 130, .int (nI kn), .int 1, .int (nI n)] [.int 1] h3 Q
                refine exf_go 1 (show (¬ (1 : Int32) = 0 → Go (d + 3) true 227 56 [.ref 130, .int (nI kn), .int 1, .int (nI n)] [] h3 Q) ∧ (¬ (¬ (1 : Int32) = 0) → Go (d + 3) true 227 53 [.ref 130, .int (nI kn), .int 1, .int (nI n)] [] h3 Q) from ⟨fun c10 => ?_, fun c10 => ?_⟩)
                · skip
                  refine exf_go 9 (show Go (d + 3) true 227 73 [.ref 130, .int (nI kn), .int 1, .int (nI n)] [.int (3841 + (nI n)), .ref 131, .ref 138, .ref 139] h3 Q from ?_)
                  rw [show (3841 + (nI n) : Int32) = nI (3841 + n) from nI_add 3841 n]
                  refine exf_go 1 (show vp_in (nI (3841 + n)) 41523 ∧ (Go (d + 3) true 227 74 [.ref 130, .int (nI kn), .int 1, .int (nI n)] [.int (rI h3 131 ((nI (3841 + n)).toNatClampNeg)), .ref 138, .ref 139] h3 Q) from ⟨(vp_in_nI (by omega) (by omega)), ?_⟩)
                  rw [show (rI h3 131 ((nI (3841 + n)).toNatClampNeg) : Int32) = nI (sH g n) from ms_H ms3 (n := n) (by omega)]
                  have := sH_b ms3.1.1 n
                  refine exf_go 1 (show vp_in (nI (sH g n)) 256 ∧ (Go (d + 3) true 227 75 [.ref 130, .int (nI kn), .int 1, .int (nI n)] [.int (rI h3 138 ((nI (sH g n)).toNatClampNeg)), .ref 139] h3 Q) from ⟨(vp_in_nI (by omega) (by omega)), ?_⟩)
                  rw [show (rI h3 138 ((nI (sH g n)).toNatClampNeg) : Int32) = nI (rkN g kn n) from mr_at ms3 mr3 n]
                  refine exf_go 2 (show Go (d + 3) true 227 77 [.ref 130, .int (nI kn), .int 1, .int (nI n)] [.int ((nI (rkN g kn n)) + 1), .ref 139] h3 Q from ?_)
                  rw [show ((nI (rkN g kn n)) + 1 : Int32) = nI ((rkN g kn n) + 1) from nI_add (rkN g kn n) 1]
                  refine exf_go 2 (show vp_in (nI ((rkN g kn n) + 1)) 257 ∧ (Go (d + 3) true 227 79 [.ref 130, .int (nI kn), .int 1, .int (nI n)] [.int (rI h3 139 ((nI ((rkN g kn n) + 1)).toNatClampNeg)), .int (nI ((rkN g kn n) + 1)), .ref 139] h3 Q) from ⟨(vp_in_nI (by omega) (by omega)), ?_⟩)
                  rw [show (rI h3 139 ((nI ((rkN g kn n) + 1)).toNatClampNeg) : Int32) = nI (bgA (elg g l kn true) (rkN g kn) n ((rkN g kn n) + 1)) from by rw [nI_clamp (by omega)]; exact hb3 _ (by omega)]
                  refine exf_go 2 (show Go (d + 3) true 227 81 [.ref 130, .int (nI kn), .int 1, .int (nI n)] [.int ((nI (bgA (elg g l kn true) (rkN g kn) n ((rkN g kn n) + 1))) + 1), .int (nI ((rkN g kn n) + 1)), .ref 139] h3 Q from ?_)
                  rw [show ((nI (bgA (elg g l kn true) (rkN g kn) n ((rkN g kn n) + 1))) + 1 : Int32) = nI ((bgA (elg g l kn true) (rkN g kn) n ((rkN g kn n) + 1)) + 1) from nI_add (bgA (elg g l kn true) (rkN g kn) n ((rkN g kn n) + 1)) 1]
                  refine exf_go 4 (show vp_in (nI ((rkN g kn n) + 1)) 257 ∧ (Go (d + 3) true 227 87 [.ref 130, .int (nI kn), .int 1, .int (nI n)] [.int (rI h3 130 22), .ref 130] (uI h3 139 ((nI ((rkN g kn n) + 1)).toNatClampNeg) (nI ((bgA (elg g l kn true) (rkN g kn) n ((rkN g kn n) + 1)) + 1))) Q) from ⟨(vp_in_nI (by omega) (by omega)), ?_⟩)
                  rw [show (rI h3 130 22 : Int32) = nI (cntN (elg g l kn true) n) from hm3]
                  refine exf_go 2 (show Go (d + 3) true 227 89 [.ref 130, .int (nI kn), .int 1, .int (nI n)] [.int ((nI (cntN (elg g l kn true) n)) + 1), .ref 130] (uI h3 139 ((nI ((rkN g kn n) + 1)).toNatClampNeg) (nI ((bgA (elg g l kn true) (rkN g kn) n ((rkN g kn n) + 1)) + 1))) Q from ?_)
                  rw [show ((nI (cntN (elg g l kn true) n)) + 1 : Int32) = nI ((cntN (elg g l kn true) n) + 1) from nI_add (cntN (elg g l kn true) n) 1]
                  refine exf_go 2 (show Go (d + 3) true 227 95 [.ref 130, .int (nI kn), .int 1, .int ((nI n) + 1)] [] (uI (uI h3 139 ((nI ((rkN g kn n) + 1)).toNatClampNeg) (nI ((bgA (elg g l kn true) (rkN g kn) n ((rkN g kn n) + 1)) + 1))) 130 22 (nI ((cntN (elg g l kn true) n) + 1))) Q from ?_)
                  rw [show ((nI n) + 1 : Int32) = nI (n + 1) from nI_add n 1]
                  refine exf_go 1 (show Go (d + 3) true 227 34 [.ref 130, .int (nI kn), .int 1, .int (nI (n + 1))] [] (uI (uI h3 139 ((nI ((rkN g kn n) + 1)).toNatClampNeg) (nI ((bgA (elg g l kn true) (rkN g kn) n ((rkN g kn n) + 1)) + 1))) 130 22 (nI ((cntN (elg g l kn true) n) + 1))) Q from ?_)
                  exact ih34 (n + 1) _ (by omega) (by omega) ((q3.uI' _ _ _ rfl).uI' _ _ _ rfl) (mw_fq mw3 rfl) (mr_fq mr3 ((rI_uI_ne (by decide)).trans (rI_uI_ne (by decide)))) (fun j hj => by rw [rI_uI_ne (by decide), nI_clamp (by omega)]; exact (Decidable.em (j = rkN g kn n + 1)).elim (fun e => by rw [e, rI_uI_eq]; exact congrArg nI (bg_hit (by assumption))) (fun e => by rw [rI_uI_at e, bg_miss e]; exact hb3 j hj)) (by rw [rI_uI_eq]; exact congrArg nI (cn_y rfl (by assumption)))
                · skip
                  exact absurd (by decide) c10
              · skip
                show Go (d + 3) true 227 50 [.ref 130, .int (nI kn), .int 1, .int (nI n)] [.int 0] h3 Q
                refine exf_go 1 (show (¬ (0 : Int32) = 0 → Go (d + 3) true 227 56 [.ref 130, .int (nI kn), .int 1, .int (nI n)] [] h3 Q) ∧ (¬ (¬ (0 : Int32) = 0) → Go (d + 3) true 227 53 [.ref 130, .int (nI kn), .int 1, .int (nI n)] [] h3 Q) from ⟨fun c11 => ?_, fun c11 => ?_⟩)
                · skip
                  exact absurd c11 (by decide)
                · skip
                  refine exf_go 2 (show Go (d + 3) true 227 95 [.ref 130, .int (nI kn), .int 1, .int ((nI n) + 1)] [] h3 Q from ?_)
                  rw [show ((nI n) + 1 : Int32) = nI (n + 1) from nI_add n 1]
                  refine exf_go 1 (show Go (d + 3) true 227 34 [.ref 130, .int (nI kn), .int 1, .int (nI (n + 1))] [] h3 Q from ?_)
                  exact ih34 (n + 1) _ (by omega) (by omega) q3 mw3 mr3 (fun j hj => by rw [bg_no (by assumption)]; exact hb3 j hj) (by rw [hm3, cn_n rfl (by assumption)])
        exact L34 (tot g + 1) 0 _ (by omega) (by omega) (q2.uI' _ _ _ rfl) (mw_fq mw2 rfl) (mr_fq mr2 (rI_uI_ne (by decide))) (fun j hj => by rw [rI_uI_ne (by decide), hb j (by omega)]; cases j <;> rfl) rI_uI_eq
      · skip
        have c2 : ¬ 257 ≤ m := fun q => c2 ((nI_leI (a := 257) (b := m) (by omega) (by omega)).mpr q)
        refine exf_go 6 (show vp_in (nI m) 257 ∧ (Go (d + 3) true 227 24 [.ref 130, .int (nI kn), .int 1, .int ((nI m) + 1)] [] (uI h2 139 ((nI m).toNatClampNeg) 0) Q) from ⟨(vp_in_nI (by omega) (by omega)), ?_⟩)
        rw [show ((nI m) + 1 : Int32) = nI (m + 1) from nI_add m 1]
        refine exf_go 1 (show Go (d + 3) true 227 7 [.ref 130, .int (nI kn), .int 1, .int (nI (m + 1))] [] (uI h2 139 ((nI m).toNatClampNeg) 0) Q from ?_)
        exact ih7 (m + 1) _ (by omega) (by omega) (q2.uI' _ _ _ rfl) (mw_fq mw2 rfl) (mr_fq mr2 (rI_uI_ne (by decide))) (fun j hj => (Decidable.em (j = m)).elim (fun e => by rw [nI_clamp (by omega), e, rI_uI_eq]; rfl) (fun e => by rw [nI_clamp (by omega), rI_uI_at e]; exact hb j (by omega)))
  exact L7 (257 + 1) 0 h1 (by omega) (by omega) q1 mw1 mr1 (fun j hj => absurd hj (Nat.not_lt_zero _))
theorem m_laysOrder0 {d : Nat} {h : Hp} {g : ShG} {l : LkG} {kn : Nat} {Q : Po} (ms : MS g l h) (hk0 : kn < 256) (k : ∀ h1, Fq scM h h1 → MW g kn h1 → MO (elg g l kn false) g kn h1 → Q mk_ h1) : wpC (d + 4) true 227 [.ref 130, .int (nI kn), .int 0] h Q := by
  have h8 := ms.1.1.2.2.2.1
  have hN := tot_b ms.1.1
  refine go_in rfl ?_
  refine exf_go 3 (show wpC (d + 3) true 225 [.ref 130, .int (nI kn)] h (fun _ h' => Go (d + 3) true 227 5 [.ref 130, .int (nI kn), .int 0, mk_] [] h' Q) from ?_)
  refine m_laysRanks ms (by omega) (fun h1 q1 mw1 mr1 => ?_)
  have ms1 := ms_fq ms q1
  show Go (d + 3) true 227 5 [.ref 130, .int (nI kn), .int 0, mk_] [] h1 Q
  refine exf_go 2 (show Go (d + 3) true 227 7 [.ref 130, .int (nI kn), .int 0, .int 0] [] h1 Q from ?_)
  have L7 : ∀ (k7 : Nat) (m : Nat) (h2 : Hp), (257 - m) < k7 → (m ≤ 257) → (Fq scM h h2) → (MW g kn h2) → (MR g kn h2) → (∀ j, j < m → rI h2 139 j = nI 0) → Go (d + 3) true 227 7 [.ref 130, .int (nI kn), .int 0, .int (nI m)] [] h2 Q := by
    intro k7
    induction k7 with
    | zero => intro m h2 hk; exact absurd hk (Nat.not_lt_zero _)
    | succ k7 ih7 =>
      intro m h2 hk hm q2 mw2 mr2 hb
      refine exf_go 3 (show (257 ≤ (nI m) → Go (d + 3) true 227 27 [.ref 130, .int (nI kn), .int 0, .int (nI m)] [] h2 Q) ∧ (¬ (257 ≤ (nI m)) → Go (d + 3) true 227 14 [.ref 130, .int (nI kn), .int 0, .int (nI m)] [] h2 Q) from ⟨fun c2 => ?_, fun c2 => ?_⟩)
      · skip
        have c2 : 257 ≤ m := (nI_leI (a := 257) (b := m) (by omega) (by omega)).mp c2
        refine exf_go 5 (show Go (d + 3) true 227 34 [.ref 130, .int (nI kn), .int 0, .int 0] [] (uI h2 130 22 0) Q from ?_)
        have L34 : ∀ (k34 : Nat) (n : Nat) (h3 : Hp), (tot g - n) < k34 → (n ≤ tot g) → (Fq scM h h3) → (MW g kn h3) → (MR g kn h3) → (∀ j, j < 257 → rI h3 139 j = nI (bgA (elg g l kn false) (rkN g kn) n j)) → (rI h3 130 22 = nI (cntN (elg g l kn false) n)) → Go (d + 3) true 227 34 [.ref 130, .int (nI kn), .int 0, .int (nI n)] [] h3 Q := by
          intro k34
          induction k34 with
          | zero => intro n h3 hk; exact absurd hk (Nat.not_lt_zero _)
          | succ k34 ih34 =>
            intro n h3 hk hn q3 mw3 mr3 hb3 hm3
            have ms3 := ms_fq ms q3
            have hr3 := rkN_b ms.1.1 kn n
            have hs3 := sH_b ms.1.1 n
            have hbb := bg_b (elg g l kn false) (rkN g kn) n (rkN g kn n + 1)
            have hcc := cntN_le (elg g l kn false) n
            refine exf_go 5 (show vp_in 4 41523 ∧ (Go (d + 3) true 227 41 [.ref 130, .int (nI kn), .int 0, .int (nI n)] [.int (rI h3 131 4), .int (nI n)] h3 Q) from ⟨(vp_in_nI (n := 4) (by decide) (by decide)), ?_⟩)
            rw [show (rI h3 131 4 : Int32) = nI (tot g) from ms_N ms3]
            refine exf_go 1 (show ((nI (tot g)) ≤ (nI n) → Go (d + 3) true 227 98 [.ref 130, .int (nI kn), .int 0, .int (nI n)] [] h3 Q) ∧ (¬ ((nI (tot g)) ≤ (nI n)) → Go (d + 3) true 227 44 [.ref 130, .int (nI kn), .int 0, .int (nI n)] [] h3 Q) from ⟨fun c3 => ?_, fun c3 => ?_⟩)
            · skip
              have c3 : (tot g) ≤ n := (nI_leI (a := (tot g)) (b := n) (by omega) (by omega)).mp c3
              refine exf_go 2 (show Go (d + 3) true 227 100 [.ref 130, .int (nI kn), .int 0, .int 0] [] h3 Q from ?_)
              have L100 : ∀ (k100 : Nat) (m : Nat) (h4 : Hp), (256 - m) < k100 → (m ≤ 256) → (Fq scM h h4) → (MW g kn h4) → (MR g kn h4) → (∀ j, j < 257 → rI h4 139 j = nI (pfx (elg g l kn false) (rkN g kn) (tot g) m j)) → (rI h4 130 22 = nI (cntN (elg g l kn false) (tot g))) → Go (d + 3) true 227 100 [.ref 130, .int (nI kn), .int 0, .int (nI m)] [] h4 Q := by
                intro k100
                induction k100 with
                | zero => intro m h4 hk; exact absurd hk (Nat.not_lt_zero _)
                | succ k100 ih100 =>
                  intro m h4 hk hm4 q4 mw4 mr4 hb4 hmy
                  have hp1 := pfx_b (elg g l kn false) (rkN g kn) (tot g) m m; have hp2 := pfx_b (elg g l kn false) (rkN g kn) (tot g) m (m + 1)
                  refine exf_go 3 (show (256 ≤ (nI m) → Go (d + 3) true 227 130 [.ref 130, .int (nI kn), .int 0, .int (nI m)] [] h4 Q) ∧ (¬ (256 ≤ (nI m)) → Go (d + 3) true 227 107 [.ref 130, .int (nI kn), .int 0, .int (nI m)] [] h4 Q) from ⟨fun c4 => ?_, fun c4 => ?_⟩)
                  · skip
                    have c4 : 256 ≤ m := (nI_leI (a := 256) (b := m) (by omega) (by omega)).mp c4
                    refine exf_go 2 (show Go (d + 3) true 227 132 [.ref 130, .int (nI kn), .int 0, .int 0] [] h4 Q from ?_)
                    have L132 : ∀ (k132 : Nat) (n : Nat) (h5 : Hp), (tot g - n) < k132 → (n ≤ tot g) → (Fq scM h h5) → (MW g kn h5) → (MR g kn h5) → (∀ j, j < 256 → rI h5 139 j = nI (fnB (elg g l kn false) (rkN g kn) (tot g) n j)) → (rI h5 130 22 = nI (cntN (elg g l kn false) (tot g))) → (∀ m, m < n → (elg g l kn false) m = true → rI h5 140 (pos (elg g l kn false) (rkN g kn) (tot g) m) = nI m) → Go (d + 3) true 227 132 [.ref 130, .int (nI kn), .int 0, .int (nI n)] [] h5 Q := by
                      intro k132
                      induction k132 with
                      | zero => intro n h5 hk; exact absurd hk (Nat.not_lt_zero _)
                      | succ k132 ih132 =>
                        intro n h5 hk hn5 q5 mw5 mr5 hb5 hmy5 ho5
                        have ms5 := ms_fq ms q5
                        have hr5 := rkN_b ms.1.1 kn n
                        have hs5 := sH_b ms.1.1 n
                        refine exf_go 5 (show vp_in 4 41523 ∧ (Go (d + 3) true 227 139 [.ref 130, .int (nI kn), .int 0, .int (nI n)] [.int (rI h5 131 4), .int (nI n)] h5 Q) from ⟨(vp_in_nI (n := 4) (by decide) (by decide)), ?_⟩)
                        rw [show (rI h5 131 4 : Int32) = nI (tot g) from ms_N ms5]
                        refine exf_go 1 (show ((nI (tot g)) ≤ (nI n) → Go (d + 3) true 227 210 [.ref 130, .int (nI kn), .int 0, .int (nI n)] [] h5 Q) ∧ (¬ ((nI (tot g)) ≤ (nI n)) → Go (d + 3) true 227 142 [.ref 130, .int (nI kn), .int 0, .int (nI n)] [] h5 Q) from ⟨fun c5 => ?_, fun c5 => ?_⟩)
                        · skip
                          have c5 : (tot g) ≤ n := (nI_leI (a := (tot g)) (b := n) (by omega) (by omega)).mp c5
                          refine exf_go 1 (show Q (mk_) h5 from ?_)
                          exact k h5 q5 mw5 ⟨hmy5, fun m hm hE => ho5 m (by omega) hE⟩
                        · skip
                          have c5 : ¬ (tot g) ≤ n := fun q => c5 ((nI_leI (a := (tot g)) (b := n) (by omega) (by omega)).mpr q)
                          refine exf_go 4 (show wpC (d + 3) true 226 [.ref 130, .int (nI n), .int 0] h5 (fun r h' => Go (d + 3) true 227 148 [.ref 130, .int (nI kn), .int 0, .int (nI n)] [r] h' Q) from ?_)
                          refine m_isLeft0 ms5 mw5 (by omega) (fun b6 => ?_) (fun b6 => ?_)
                          · skip
                            have hpl := pos_lt (rk := rkN g kn) (N := tot g) (n := n) (by omega) b6; have hcc := cntN_le (elg g l kn false) (tot g)
                            show Go (d + 3) true 227 148 [.ref 130, .int (nI kn), .int 0, .int (nI n)] [.int 1] h5 Q
                            refine exf_go 1 (show (¬ (1 : Int32) = 0 → Go (d + 3) true 227 154 [.ref 130, .int (nI kn), .int 0, .int (nI n)] [] h5 Q) ∧ (¬ (¬ (1 : Int32) = 0) → Go (d + 3) true 227 151 [.ref 130, .int (nI kn), .int 0, .int (nI n)] [] h5 Q) from ⟨fun c7 => ?_, fun c7 => ?_⟩)
                            · skip
                              refine exf_go 11 (show Go (d + 3) true 227 175 [.ref 130, .int (nI kn), .int 0, .int (nI n)] [.int (3841 + (nI n)), .ref 131, .ref 138, .ref 139, .ref 140] h5 Q from ?_)
                              rw [show (3841 + (nI n) : Int32) = nI (3841 + n) from nI_add 3841 n]
                              refine exf_go 1 (show vp_in (nI (3841 + n)) 41523 ∧ (Go (d + 3) true 227 176 [.ref 130, .int (nI kn), .int 0, .int (nI n)] [.int (rI h5 131 ((nI (3841 + n)).toNatClampNeg)), .ref 138, .ref 139, .ref 140] h5 Q) from ⟨(vp_in_nI (by omega) (by omega)), ?_⟩)
                              rw [show (rI h5 131 ((nI (3841 + n)).toNatClampNeg) : Int32) = nI (sH g n) from ms_H ms5 (n := n) (by omega)]
                              have := sH_b ms5.1.1 n
                              refine exf_go 1 (show vp_in (nI (sH g n)) 256 ∧ (Go (d + 3) true 227 177 [.ref 130, .int (nI kn), .int 0, .int (nI n)] [.int (rI h5 138 ((nI (sH g n)).toNatClampNeg)), .ref 139, .ref 140] h5 Q) from ⟨(vp_in_nI (by omega) (by omega)), ?_⟩)
                              rw [show (rI h5 138 ((nI (sH g n)).toNatClampNeg) : Int32) = nI (rkN g kn n) from mr_at ms5 mr5 n]
                              refine exf_go 1 (show vp_in (nI (rkN g kn n)) 257 ∧ (Go (d + 3) true 227 178 [.ref 130, .int (nI kn), .int 0, .int (nI n)] [.int (rI h5 139 ((nI (rkN g kn n)).toNatClampNeg)), .ref 140] h5 Q) from ⟨(vp_in_nI (by omega) (by omega)), ?_⟩)
                              rw [show (rI h5 139 ((nI (rkN g kn n)).toNatClampNeg) : Int32) = nI (pos (elg g l kn false) (rkN g kn) (tot g) n) from by rw [nI_clamp (by omega)]; exact hb5 _ (by omega)]
                              refine exf_go 11 (show vp_in (nI (pos (elg g l kn false) (rkN g kn) (tot g) n)) 10000 ∧ (Go (d + 3) true 227 197 [.ref 130, .int (nI kn), .int 0, .int (nI n)] [.int (3841 + (nI n)), .ref 131, .ref 138, .ref 139] (uI h5 140 ((nI (pos (elg g l kn false) (rkN g kn) (tot g) n)).toNatClampNeg) (nI n)) Q) from ⟨(vp_in_nI (by omega) (by omega)), ?_⟩)
                              rw [show (3841 + (nI n) : Int32) = nI (3841 + n) from nI_add 3841 n]
                              refine exf_go 1 (show vp_in (nI (3841 + n)) 41523 ∧ (Go (d + 3) true 227 198 [.ref 130, .int (nI kn), .int 0, .int (nI n)] [.int (rI h5 131 ((nI (3841 + n)).toNatClampNeg)), .ref 138, .ref 139] (uI h5 140 ((nI (pos (elg g l kn false) (rkN g kn) (tot g) n)).toNatClampNeg) (nI n)) Q) from ⟨(vp_in_nI (by omega) (by omega)), ?_⟩)
                              rw [show (rI h5 131 ((nI (3841 + n)).toNatClampNeg) : Int32) = nI (sH g n) from ms_H ms5 (n := n) (by omega)]
                              have := sH_b ms5.1.1 n
                              refine exf_go 1 (show vp_in (nI (sH g n)) 256 ∧ (Go (d + 3) true 227 199 [.ref 130, .int (nI kn), .int 0, .int (nI n)] [.int (rI h5 138 ((nI (sH g n)).toNatClampNeg)), .ref 139] (uI h5 140 ((nI (pos (elg g l kn false) (rkN g kn) (tot g) n)).toNatClampNeg) (nI n)) Q) from ⟨(vp_in_nI (by omega) (by omega)), ?_⟩)
                              rw [show (rI h5 138 ((nI (sH g n)).toNatClampNeg) : Int32) = nI (rkN g kn n) from mr_at ms5 mr5 n]
                              refine exf_go 2 (show vp_in (nI (rkN g kn n)) 257 ∧ (Go (d + 3) true 227 201 [.ref 130, .int (nI kn), .int 0, .int (nI n)] [.int (rI h5 139 ((nI (rkN g kn n)).toNatClampNeg)), .int (nI (rkN g kn n)), .ref 139] (uI h5 140 ((nI (pos (elg g l kn false) (rkN g kn) (tot g) n)).toNatClampNeg) (nI n)) Q) from ⟨(vp_in_nI (by omega) (by omega)), ?_⟩)
                              rw [show (rI h5 139 ((nI (rkN g kn n)).toNatClampNeg) : Int32) = nI (pos (elg g l kn false) (rkN g kn) (tot g) n) from by rw [nI_clamp (by omega)]; exact hb5 _ (by omega)]
                              refine exf_go 2 (show Go (d + 3) true 227 203 [.ref 130, .int (nI kn), .int 0, .int (nI n)] [.int ((nI (pos (elg g l kn false) (rkN g kn) (tot g) n)) + 1), .int (nI (rkN g kn n)), .ref 139] (uI h5 140 ((nI (pos (elg g l kn false) (rkN g kn) (tot g) n)).toNatClampNeg) (nI n)) Q from ?_)
                              rw [show ((nI (pos (elg g l kn false) (rkN g kn) (tot g) n)) + 1 : Int32) = nI ((pos (elg g l kn false) (rkN g kn) (tot g) n) + 1) from nI_add (pos (elg g l kn false) (rkN g kn) (tot g) n) 1]
                              refine exf_go 2 (show vp_in (nI (rkN g kn n)) 257 ∧ (Go (d + 3) true 227 207 [.ref 130, .int (nI kn), .int 0, .int ((nI n) + 1)] [] (uI (uI h5 140 ((nI (pos (elg g l kn false) (rkN g kn) (tot g) n)).toNatClampNeg) (nI n)) 139 ((nI (rkN g kn n)).toNatClampNeg) (nI ((pos (elg g l kn false) (rkN g kn) (tot g) n) + 1))) Q) from ⟨(vp_in_nI (by omega) (by omega)), ?_⟩)
                              rw [show ((nI n) + 1 : Int32) = nI (n + 1) from nI_add n 1]
                              refine exf_go 1 (show Go (d + 3) true 227 132 [.ref 130, .int (nI kn), .int 0, .int (nI (n + 1))] [] (uI (uI h5 140 ((nI (pos (elg g l kn false) (rkN g kn) (tot g) n)).toNatClampNeg) (nI n)) 139 ((nI (rkN g kn n)).toNatClampNeg) (nI ((pos (elg g l kn false) (rkN g kn) (tot g) n) + 1))) Q from ?_)
                              exact ih132 (n + 1) _ (by omega) (by omega) ((q5.uI' _ _ _ rfl).uI' _ _ _ rfl) (mw_fq mw5 rfl) (mr_fq mr5 ((rI_uI_ne (by decide)).trans (rI_uI_ne (by decide)))) (fun j hj => by rw [nI_clamp (n := rkN g kn n) (by omega)]; exact (Decidable.em (j = rkN g kn n)).elim (fun e => by rw [e, rI_uI_eq]; exact congrArg nI (fn_hit (by assumption))) (fun e => by rw [rI_uI_at e, rI_uI_ne (by decide), fn_miss e]; exact hb5 j hj)) ((congrFun ((rI_uI_ne (by decide)).trans (rI_uI_ne (by decide))) 22).trans hmy5) (fun m hm hE => by rw [rI_uI_ne (by decide), nI_clamp (by omega)]; exact (Decidable.em (m = n)).elim (fun e => by subst e; exact rI_uI_eq) (fun e => by rw [rI_uI_at (fun q => pos_inj (rk := rkN g kn) (N := tot g) (m := m) (n := n) (by omega) (by omega) hE (by assumption) (by omega) q.symm)]; exact ho5 m (by omega) hE))
                            · skip
                              exact absurd (by decide) c7
                          · skip
                            show Go (d + 3) true 227 148 [.ref 130, .int (nI kn), .int 0, .int (nI n)] [.int 0] h5 Q
                            refine exf_go 1 (show (¬ (0 : Int32) = 0 → Go (d + 3) true 227 154 [.ref 130, .int (nI kn), .int 0, .int (nI n)] [] h5 Q) ∧ (¬ (¬ (0 : Int32) = 0) → Go (d + 3) true 227 151 [.ref 130, .int (nI kn), .int 0, .int (nI n)] [] h5 Q) from ⟨fun c8 => ?_, fun c8 => ?_⟩)
                            · skip
                              exact absurd c8 (by decide)
                            · skip
                              refine exf_go 2 (show Go (d + 3) true 227 207 [.ref 130, .int (nI kn), .int 0, .int ((nI n) + 1)] [] h5 Q from ?_)
                              rw [show ((nI n) + 1 : Int32) = nI (n + 1) from nI_add n 1]
                              refine exf_go 1 (show Go (d + 3) true 227 132 [.ref 130, .int (nI kn), .int 0, .int (nI (n + 1))] [] h5 Q from ?_)
                              exact ih132 (n + 1) _ (by omega) (by omega) q5 mw5 mr5 (fun j hj => by rw [fn_no (by assumption)]; exact hb5 j hj) hmy5 (fun m hm hE => ho5 m ((Nat.lt_or_eq_of_le (Nat.le_of_lt_succ hm)).elim id (fun e => by subst e; rw [hE] at *; contradiction)) hE)
                    exact L132 (tot g + 1) 0 h4 (by omega) (by omega) q4 mw4 mr4 (fun j hj => by rw [hb4 j (by omega), fn_0, pfx, if_pos (by omega)]) hmy (fun j hj => absurd hj (Nat.not_lt_zero _))
                  · skip
                    have c4 : ¬ 256 ≤ m := fun q => c4 ((nI_leI (a := 256) (b := m) (by omega) (by omega)).mpr q)
                    refine exf_go 5 (show Go (d + 3) true 227 114 [.ref 130, .int (nI kn), .int 0, .int (nI m)] [.int ((nI m) + 1), .ref 139] h4 Q from ?_)
                    rw [show ((nI m) + 1 : Int32) = nI (m + 1) from nI_add m 1]
                    refine exf_go 2 (show vp_in (nI (m + 1)) 257 ∧ (Go (d + 3) true 227 116 [.ref 130, .int (nI kn), .int 0, .int (nI m)] [.int (rI h4 139 ((nI (m + 1)).toNatClampNeg)), .int (nI (m + 1)), .ref 139] h4 Q) from ⟨(vp_in_nI (by omega) (by omega)), ?_⟩)
                    rw [show (rI h4 139 ((nI (m + 1)).toNatClampNeg) : Int32) = nI (pfx (elg g l kn false) (rkN g kn) (tot g) m (m + 1)) from by rw [nI_clamp (by omega)]; exact hb4 _ (by omega)]
                    refine exf_go 4 (show vp_in (nI m) 257 ∧ (Go (d + 3) true 227 122 [.ref 130, .int (nI kn), .int 0, .int (nI m)] [.int (rI h4 139 ((nI m).toNatClampNeg)), .int (nI (pfx (elg g l kn false) (rkN g kn) (tot g) m (m + 1))), .int (nI (m + 1)), .ref 139] h4 Q) from ⟨(vp_in_nI (by omega) (by omega)), ?_⟩)
                    rw [show (rI h4 139 ((nI m).toNatClampNeg) : Int32) = nI (pfx (elg g l kn false) (rkN g kn) (tot g) m m) from by rw [nI_clamp (by omega)]; exact hb4 _ (by omega)]
                    refine exf_go 1 (show Go (d + 3) true 227 123 [.ref 130, .int (nI kn), .int 0, .int (nI m)] [.int ((nI (pfx (elg g l kn false) (rkN g kn) (tot g) m (m + 1))) + (nI (pfx (elg g l kn false) (rkN g kn) (tot g) m m))), .int (nI (m + 1)), .ref 139] h4 Q from ?_)
                    rw [show ((nI (pfx (elg g l kn false) (rkN g kn) (tot g) m (m + 1))) + (nI (pfx (elg g l kn false) (rkN g kn) (tot g) m m)) : Int32) = nI ((pfx (elg g l kn false) (rkN g kn) (tot g) m (m + 1)) + (pfx (elg g l kn false) (rkN g kn) (tot g) m m)) from nI_add (pfx (elg g l kn false) (rkN g kn) (tot g) m (m + 1)) (pfx (elg g l kn false) (rkN g kn) (tot g) m m)]
                    refine exf_go 2 (show vp_in (nI (m + 1)) 257 ∧ (Go (d + 3) true 227 127 [.ref 130, .int (nI kn), .int 0, .int ((nI m) + 1)] [] (uI h4 139 ((nI (m + 1)).toNatClampNeg) (nI ((pfx (elg g l kn false) (rkN g kn) (tot g) m (m + 1)) + (pfx (elg g l kn false) (rkN g kn) (tot g) m m)))) Q) from ⟨(vp_in_nI (by omega) (by omega)), ?_⟩)
                    rw [show ((nI m) + 1 : Int32) = nI (m + 1) from nI_add m 1]
                    refine exf_go 1 (show Go (d + 3) true 227 100 [.ref 130, .int (nI kn), .int 0, .int (nI (m + 1))] [] (uI h4 139 ((nI (m + 1)).toNatClampNeg) (nI ((pfx (elg g l kn false) (rkN g kn) (tot g) m (m + 1)) + (pfx (elg g l kn false) (rkN g kn) (tot g) m m)))) Q from ?_)
                    exact ih100 (m + 1) _ (by omega) (by omega) (q4.uI' _ _ _ rfl) (mw_fq mw4 rfl) (mr_fq mr4 (rI_uI_ne (by decide))) (fun j hj => by rw [nI_clamp (by omega)]; exact (Decidable.em (j = m + 1)).elim (fun e => by rw [e, rI_uI_eq]; exact congrArg nI (pfx_s _ _ _ m)) (fun e => by rw [rI_uI_at e, pfx_o _ _ _ _ _ e]; exact hb4 j hj)) ((congrFun (rI_uI_ne (by decide)) 22).trans hmy)
              exact L100 (256 + 1) 0 h3 (by omega) (by omega) q3 mw3 mr3 (fun j hj => by rw [pfx_0, hb3 j hj, show n = tot g from by omega]) (by rw [hm3, show n = tot g from by omega])
            · skip
              have c3 : ¬ (tot g) ≤ n := fun q => c3 ((nI_leI (a := (tot g)) (b := n) (by omega) (by omega)).mpr q)
              refine exf_go 4 (show wpC (d + 3) true 226 [.ref 130, .int (nI n), .int 0] h3 (fun r h' => Go (d + 3) true 227 50 [.ref 130, .int (nI kn), .int 0, .int (nI n)] [r] h' Q) from ?_)
              refine m_isLeft0 ms3 mw3 (by omega) (fun b9 => ?_) (fun b9 => ?_)
              · skip
                show Go (d + 3) true 227 50 [.ref 130, .int (nI kn), .int 0, .int (nI n)] [.int 1] h3 Q
                refine exf_go 1 (show (¬ (1 : Int32) = 0 → Go (d + 3) true 227 56 [.ref 130, .int (nI kn), .int 0, .int (nI n)] [] h3 Q) ∧ (¬ (¬ (1 : Int32) = 0) → Go (d + 3) true 227 53 [.ref 130, .int (nI kn), .int 0, .int (nI n)] [] h3 Q) from ⟨fun c10 => ?_, fun c10 => ?_⟩)
                · skip
                  refine exf_go 9 (show Go (d + 3) true 227 73 [.ref 130, .int (nI kn), .int 0, .int (nI n)] [.int (3841 + (nI n)), .ref 131, .ref 138, .ref 139] h3 Q from ?_)
                  rw [show (3841 + (nI n) : Int32) = nI (3841 + n) from nI_add 3841 n]
                  refine exf_go 1 (show vp_in (nI (3841 + n)) 41523 ∧ (Go (d + 3) true 227 74 [.ref 130, .int (nI kn), .int 0, .int (nI n)] [.int (rI h3 131 ((nI (3841 + n)).toNatClampNeg)), .ref 138, .ref 139] h3 Q) from ⟨(vp_in_nI (by omega) (by omega)), ?_⟩)
                  rw [show (rI h3 131 ((nI (3841 + n)).toNatClampNeg) : Int32) = nI (sH g n) from ms_H ms3 (n := n) (by omega)]
                  have := sH_b ms3.1.1 n
                  refine exf_go 1 (show vp_in (nI (sH g n)) 256 ∧ (Go (d + 3) true 227 75 [.ref 130, .int (nI kn), .int 0, .int (nI n)] [.int (rI h3 138 ((nI (sH g n)).toNatClampNeg)), .ref 139] h3 Q) from ⟨(vp_in_nI (by omega) (by omega)), ?_⟩)
                  rw [show (rI h3 138 ((nI (sH g n)).toNatClampNeg) : Int32) = nI (rkN g kn n) from mr_at ms3 mr3 n]
                  refine exf_go 2 (show Go (d + 3) true 227 77 [.ref 130, .int (nI kn), .int 0, .int (nI n)] [.int ((nI (rkN g kn n)) + 1), .ref 139] h3 Q from ?_)
                  rw [show ((nI (rkN g kn n)) + 1 : Int32) = nI ((rkN g kn n) + 1) from nI_add (rkN g kn n) 1]
                  refine exf_go 2 (show vp_in (nI ((rkN g kn n) + 1)) 257 ∧ (Go (d + 3) true 227 79 [.ref 130, .int (nI kn), .int 0, .int (nI n)] [.int (rI h3 139 ((nI ((rkN g kn n) + 1)).toNatClampNeg)), .int (nI ((rkN g kn n) + 1)), .ref 139] h3 Q) from ⟨(vp_in_nI (by omega) (by omega)), ?_⟩)
                  rw [show (rI h3 139 ((nI ((rkN g kn n) + 1)).toNatClampNeg) : Int32) = nI (bgA (elg g l kn false) (rkN g kn) n ((rkN g kn n) + 1)) from by rw [nI_clamp (by omega)]; exact hb3 _ (by omega)]
                  refine exf_go 2 (show Go (d + 3) true 227 81 [.ref 130, .int (nI kn), .int 0, .int (nI n)] [.int ((nI (bgA (elg g l kn false) (rkN g kn) n ((rkN g kn n) + 1))) + 1), .int (nI ((rkN g kn n) + 1)), .ref 139] h3 Q from ?_)
                  rw [show ((nI (bgA (elg g l kn false) (rkN g kn) n ((rkN g kn n) + 1))) + 1 : Int32) = nI ((bgA (elg g l kn false) (rkN g kn) n ((rkN g kn n) + 1)) + 1) from nI_add (bgA (elg g l kn false) (rkN g kn) n ((rkN g kn n) + 1)) 1]
                  refine exf_go 4 (show vp_in (nI ((rkN g kn n) + 1)) 257 ∧ (Go (d + 3) true 227 87 [.ref 130, .int (nI kn), .int 0, .int (nI n)] [.int (rI h3 130 22), .ref 130] (uI h3 139 ((nI ((rkN g kn n) + 1)).toNatClampNeg) (nI ((bgA (elg g l kn false) (rkN g kn) n ((rkN g kn n) + 1)) + 1))) Q) from ⟨(vp_in_nI (by omega) (by omega)), ?_⟩)
                  rw [show (rI h3 130 22 : Int32) = nI (cntN (elg g l kn false) n) from hm3]
                  refine exf_go 2 (show Go (d + 3) true 227 89 [.ref 130, .int (nI kn), .int 0, .int (nI n)] [.int ((nI (cntN (elg g l kn false) n)) + 1), .ref 130] (uI h3 139 ((nI ((rkN g kn n) + 1)).toNatClampNeg) (nI ((bgA (elg g l kn false) (rkN g kn) n ((rkN g kn n) + 1)) + 1))) Q from ?_)
                  rw [show ((nI (cntN (elg g l kn false) n)) + 1 : Int32) = nI ((cntN (elg g l kn false) n) + 1) from nI_add (cntN (elg g l kn false) n) 1]
                  refine exf_go 2 (show Go (d + 3) true 227 95 [.ref 130, .int (nI kn), .int 0, .int ((nI n) + 1)] [] (uI (uI h3 139 ((nI ((rkN g kn n) + 1)).toNatClampNeg) (nI ((bgA (elg g l kn false) (rkN g kn) n ((rkN g kn n) + 1)) + 1))) 130 22 (nI ((cntN (elg g l kn false) n) + 1))) Q from ?_)
                  rw [show ((nI n) + 1 : Int32) = nI (n + 1) from nI_add n 1]
                  refine exf_go 1 (show Go (d + 3) true 227 34 [.ref 130, .int (nI kn), .int 0, .int (nI (n + 1))] [] (uI (uI h3 139 ((nI ((rkN g kn n) + 1)).toNatClampNeg) (nI ((bgA (elg g l kn false) (rkN g kn) n ((rkN g kn n) + 1)) + 1))) 130 22 (nI ((cntN (elg g l kn false) n) + 1))) Q from ?_)
                  exact ih34 (n + 1) _ (by omega) (by omega) ((q3.uI' _ _ _ rfl).uI' _ _ _ rfl) (mw_fq mw3 rfl) (mr_fq mr3 ((rI_uI_ne (by decide)).trans (rI_uI_ne (by decide)))) (fun j hj => by rw [rI_uI_ne (by decide), nI_clamp (by omega)]; exact (Decidable.em (j = rkN g kn n + 1)).elim (fun e => by rw [e, rI_uI_eq]; exact congrArg nI (bg_hit (by assumption))) (fun e => by rw [rI_uI_at e, bg_miss e]; exact hb3 j hj)) (by rw [rI_uI_eq]; exact congrArg nI (cn_y rfl (by assumption)))
                · skip
                  exact absurd (by decide) c10
              · skip
                show Go (d + 3) true 227 50 [.ref 130, .int (nI kn), .int 0, .int (nI n)] [.int 0] h3 Q
                refine exf_go 1 (show (¬ (0 : Int32) = 0 → Go (d + 3) true 227 56 [.ref 130, .int (nI kn), .int 0, .int (nI n)] [] h3 Q) ∧ (¬ (¬ (0 : Int32) = 0) → Go (d + 3) true 227 53 [.ref 130, .int (nI kn), .int 0, .int (nI n)] [] h3 Q) from ⟨fun c11 => ?_, fun c11 => ?_⟩)
                · skip
                  exact absurd c11 (by decide)
                · skip
                  refine exf_go 2 (show Go (d + 3) true 227 95 [.ref 130, .int (nI kn), .int 0, .int ((nI n) + 1)] [] h3 Q from ?_)
                  rw [show ((nI n) + 1 : Int32) = nI (n + 1) from nI_add n 1]
                  refine exf_go 1 (show Go (d + 3) true 227 34 [.ref 130, .int (nI kn), .int 0, .int (nI (n + 1))] [] h3 Q from ?_)
                  exact ih34 (n + 1) _ (by omega) (by omega) q3 mw3 mr3 (fun j hj => by rw [bg_no (by assumption)]; exact hb3 j hj) (by rw [hm3, cn_n rfl (by assumption)])
        exact L34 (tot g + 1) 0 _ (by omega) (by omega) (q2.uI' _ _ _ rfl) (mw_fq mw2 rfl) (mr_fq mr2 (rI_uI_ne (by decide))) (fun j hj => by rw [rI_uI_ne (by decide), hb j (by omega)]; cases j <;> rfl) rI_uI_eq
      · skip
        have c2 : ¬ 257 ≤ m := fun q => c2 ((nI_leI (a := 257) (b := m) (by omega) (by omega)).mpr q)
        refine exf_go 6 (show vp_in (nI m) 257 ∧ (Go (d + 3) true 227 24 [.ref 130, .int (nI kn), .int 0, .int ((nI m) + 1)] [] (uI h2 139 ((nI m).toNatClampNeg) 0) Q) from ⟨(vp_in_nI (by omega) (by omega)), ?_⟩)
        rw [show ((nI m) + 1 : Int32) = nI (m + 1) from nI_add m 1]
        refine exf_go 1 (show Go (d + 3) true 227 7 [.ref 130, .int (nI kn), .int 0, .int (nI (m + 1))] [] (uI h2 139 ((nI m).toNatClampNeg) 0) Q from ?_)
        exact ih7 (m + 1) _ (by omega) (by omega) (q2.uI' _ _ _ rfl) (mw_fq mw2 rfl) (mr_fq mr2 (rI_uI_ne (by decide))) (fun j hj => (Decidable.em (j = m)).elim (fun e => by rw [nI_clamp (by omega), e, rI_uI_eq]; rfl) (fun e => by rw [nI_clamp (by omega), rI_uI_at e]; exact hb j (by omega)))
  exact L7 (257 + 1) 0 h1 (by omega) (by omega) q1 mw1 mr1 (fun j hj => absurd hj (Nat.not_lt_zero _))
