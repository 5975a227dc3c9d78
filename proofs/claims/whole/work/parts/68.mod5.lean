/-! The model: mates. -/
def s78 (a _i : Nat) : Bool := Nat.beq a 137 || Nat.beq a 138
theorem s78_M (a i : Nat) (h : scM a i = false) : s78 a i = false := by
  unfold s78
  cases e : Nat.beq a 137 with
  | true => rw [Nat.eq_of_beq_eq_true e] at h; exact Bool.noConfusion h
  | false =>
    cases e2 : Nat.beq a 138 with
    | true => rw [Nat.eq_of_beq_eq_true e2] at h; exact Bool.noConfusion h
    | false => rfl
theorem m_ranks {d : Nat} {h : Hp} {g : ShG} {l : LkG} {kn : Nat} {Q : Po} (ms : MS g l h) (hk0 : kn < 256) (k : ∀ h1, Fq s78 h h1 → MW g kn h1 → MR g kn h1 → Q mk_ h1) : wpC (d + 3) true 225 [.ref 130, .int (nI kn)] h Q := by
  have h8 := ms.1.1.2.2.2.1
  have he := evr_b ms.1.1
  have hev : evr g = 2 ^ sC g - 1 := rfl
  have hwb := fun m => wtK_b ms.1.1 kn m
  refine go_in rfl ?_
  refine exf_go 2 (show Go (d + 2) true 225 2 [.ref 130, .int (nI kn), .int 0, mk_, mk_, mk_] [] h Q from ?_)
  have L2 : ∀ (k2 : Nat) (z3 z4 z5 : Value) (m : Nat) (h1 : Hp), (256 - m) < k2 → (m ≤ 256) → (Fq s78 h h1) → (∀ j, j < m → rJ h1 137 j = lN (if j ≤ evr g then wtK g kn j else 0)) → Go (d + 2) true 225 2 [.ref 130, .int (nI kn), .int (nI m), z3, z4, z5] [] h1 Q := by
    intro k2
    induction k2 with
    | zero => intro z3 z4 z5 m h1 hk; exact absurd hk (Nat.not_lt_zero _)
    | succ k2 ih2 =>
      intro z3 z4 z5 m h1 hk hm q1 hw
      have ms1 := ms_fq ms (q1.mono s78_M)
      refine exf_go 3 (show (256 ≤ (nI m) → Go (d + 2) true 225 39 [.ref 130, .int (nI kn), .int (nI m), z3, z4, z5] [] h1 Q) ∧ (¬ (256 ≤ (nI m)) → Go (d + 2) true 225 9 [.ref 130, .int (nI kn), .int (nI m), z3, z4, z5] [] h1 Q) from ⟨fun c1 => ?_, fun c1 => ?_⟩)
      · skip
        have c1 : 256 ≤ m := (nI_leI (a := 256) (b := m) (by omega) (by omega)).mp c1
        refine exf_go 2 (show Go (d + 2) true 225 41 [.ref 130, .int (nI kn), .int 0, z3, z4, z5] [] h1 Q from ?_)
        have L41 : ∀ (k41 : Nat) (z3 z4 z5 : Value) (m : Nat) (h2 : Hp), (257 - m) < k41 → (m ≤ 2 ^ sC g) → (Fq s78 h h2) → (MW g kn h2) → (∀ j, j < m → rI h2 138 j = nI (rkF (wtK g kn) j (2 ^ sC g))) → Go (d + 2) true 225 41 [.ref 130, .int (nI kn), .int (nI m), z3, z4, z5] [] h2 Q := by
          intro k41
          induction k41 with
          | zero => intro z3 z4 z5 m h2 hk; exact absurd hk (Nat.not_lt_zero _)
          | succ k41 ih41 =>
            intro z3 z4 z5 m h2 hk hm2 q2 mw2 hr
            have ms2 := ms_fq ms (q2.mono s78_M)
            refine exf_go 3 (show wpC (d + 2) true 223 [.ref 130] h2 (fun r h' => Go (d + 2) true 225 46 [.ref 130, .int (nI kn), .int (nI m), z3, z4, z5] [r, .int (nI m)] h' Q) from ?_)
            refine m_every ms2 ?_
            show Go (d + 2) true 225 46 [.ref 130, .int (nI kn), .int (nI m), z3, z4, z5] [.int (nI (evr g)), .int (nI m)] h2 Q
            refine exf_go 1 (show ((nI (evr g)) < (nI m) → Go (d + 2) true 225 160 [.ref 130, .int (nI kn), .int (nI m), z3, z4, z5] [] h2 Q) ∧ (¬ ((nI (evr g)) < (nI m)) → Go (d + 2) true 225 49 [.ref 130, .int (nI kn), .int (nI m), z3, z4, z5] [] h2 Q) from ⟨fun c2 => ?_, fun c2 => ?_⟩)
            · skip
              have c2 : (evr g) < m := (nI_ltI (a := (evr g)) (b := m) (by omega) (by omega)).mp c2
              refine exf_go 1 (show Q (mk_) h2 from ?_)
              exact k h2 q2 mw2 (fun j hj => hr j (by omega))
            · skip
              have c2 : ¬ (evr g) < m := fun q => c2 ((nI_ltI (a := (evr g)) (b := m) (by omega) (by omega)).mpr q)
              refine exf_go 7 (show vp_in (nI m) 256 ∧ (Go (d + 2) true 225 58 [.ref 130, .int (nI kn), .int (nI m), .int 0, z4, z5] [] (uI h2 138 ((nI m).toNatClampNeg) 0) Q) from ⟨(vp_in_nI (by omega) (by omega)), ?_⟩)
              have L58 : ∀ (k58 : Nat) (z4 z5 : Value) (i : Nat) (h3 : Hp), (257 - i) < k58 → (i ≤ 2 ^ sC g) → (Fq s78 h h3) → (MW g kn h3) → (∀ j, j < m → rI h3 138 j = nI (rkF (wtK g kn) j (2 ^ sC g))) → (rI h3 138 m = nI (rkF (wtK g kn) m i)) → Go (d + 2) true 225 58 [.ref 130, .int (nI kn), .int (nI m), .int (nI i), z4, z5] [] h3 Q := by
                intro k58
                induction k58 with
                | zero => intro z4 z5 i h3 hk; exact absurd hk (Nat.not_lt_zero _)
                | succ k58 ih58 =>
                  intro z4 z5 i h3 hk hi q3 mw3 hr3 hrm
                  have ms3 := ms_fq ms (q3.mono s78_M)
                  have w1 := hwb i; have w2 := hwb m; have w3 := rkF_le (wtK g kn) m i
                  refine exf_go 3 (show wpC (d + 2) true 223 [.ref 130] h3 (fun r h' => Go (d + 2) true 225 63 [.ref 130, .int (nI kn), .int (nI m), .int (nI i), z4, z5] [r, .int (nI i)] h' Q) from ?_)
                  refine m_every ms3 ?_
                  show Go (d + 2) true 225 63 [.ref 130, .int (nI kn), .int (nI m), .int (nI i), z4, z5] [.int (nI (evr g)), .int (nI i)] h3 Q
                  refine exf_go 1 (show ((nI (evr g)) < (nI i) → Go (d + 2) true 225 154 [.ref 130, .int (nI kn), .int (nI m), .int (nI i), z4, z5] [] h3 Q) ∧ (¬ ((nI (evr g)) < (nI i)) → Go (d + 2) true 225 66 [.ref 130, .int (nI kn), .int (nI m), .int (nI i), z4, z5] [] h3 Q) from ⟨fun c3 => ?_, fun c3 => ?_⟩)
                  · skip
                    have c3 : (evr g) < i := (nI_ltI (a := (evr g)) (b := i) (by omega) (by omega)).mp c3
                    refine exf_go 1 (show Go (d + 2) true 225 157 [.ref 130, .int (nI kn), .int ((nI m) + 1), .int (nI i), z4, z5] [] h3 Q from ?_)
                    rw [show ((nI m) + 1 : Int32) = nI (m + 1) from nI_add m 1]
                    refine exf_go 1 (show Go (d + 2) true 225 41 [.ref 130, .int (nI kn), .int (nI (m + 1)), .int (nI i), z4, z5] [] h3 Q from ?_)
                    exact ih41 (.int (nI i)) z4 z5 (m + 1) h3 (by omega) (by omega) q3 mw3 (fun j hj => (Decidable.em (j = m)).elim (fun e => by rw [e, hrm, show i = 2 ^ sC g from by omega]) (fun e => hr3 j (by omega)))
                  · skip
                    have c3 : ¬ (evr g) < i := fun q => c3 ((nI_ltI (a := (evr g)) (b := i) (by omega) (by omega)).mpr q)
                    refine exf_go 4 (show Go (d + 2) true 225 72 [.ref 130, .int (nI kn), .int (nI m), .int (nI i), .int 1, .int 0] [] h3 Q from ?_)
                    have L72 : ∀ (k72 : Nat) (k f : Nat), (i - k) < k72 → (k ≤ i) → (f = b2n (dif (wtK g kn) i k)) → Go (d + 2) true 225 72 [.ref 130, .int (nI kn), .int (nI m), .int (nI i), .int (nI f), .int (nI k)] [] h3 Q := by
                      intro k72
                      induction k72 with
                      | zero => intro k f hk; exact absurd hk (Nat.not_lt_zero _)
                      | succ k72 ih72 =>
                        intro k f hk hk hf
                        have hf1 := b2n_le (dif (wtK g kn) i k); have w4 := hwb k
                        refine exf_go 3 (show ((nI i) ≤ (nI k) → Go (d + 2) true 225 113 [.ref 130, .int (nI kn), .int (nI m), .int (nI i), .int (nI f), .int (nI k)] [] h3 Q) ∧ (¬ ((nI i) ≤ (nI k)) → Go (d + 2) true 225 78 [.ref 130, .int (nI kn), .int (nI m), .int (nI i), .int (nI f), .int (nI k)] [] h3 Q) from ⟨fun c4 => ?_, fun c4 => ?_⟩)
                        · skip
                          have c4 : i ≤ k := (nI_leI (a := i) (b := k) (by omega) (by omega)).mp c4
                          have hD : b2n (dif (wtK g kn) i i) = f := by rw [hf, show k = i from by omega]
                          refine exf_go 5 (show vp_in (nI m) 256 ∧ (Go (d + 2) true 225 120 [.ref 130, .int (nI kn), .int (nI m), .int (nI i), .int (nI f), .int (nI k)] [.int (rI h3 138 ((nI m).toNatClampNeg)), .int (nI m), .ref 138] h3 Q) from ⟨(vp_in_nI (by omega) (by omega)), ?_⟩)
                          rw [show (rI h3 138 ((nI m).toNatClampNeg) : Int32) = nI (rkF (wtK g kn) m i) from by rw [nI_clamp (by omega)]; exact hrm]
                          refine exf_go 2 (show ((nI f) = 0 → Go (d + 2) true 225 145 [.ref 130, .int (nI kn), .int (nI m), .int (nI i), .int (nI f), .int (nI k)] [.int (nI (rkF (wtK g kn) m i)), .int (nI m), .ref 138] h3 Q) ∧ (¬ ((nI f) = 0) → Go (d + 2) true 225 125 [.ref 130, .int (nI kn), .int (nI m), .int (nI i), .int (nI f), .int (nI k)] [.int (nI (rkF (wtK g kn) m i)), .int (nI m), .ref 138] h3 Q) from ⟨fun c5 => ?_, fun c5 => ?_⟩)
                          · skip
                            have c5 : f = 0 := (nI_eq (a := f) (b := 0) (by omega) (by omega)).mp c5
                            refine exf_go 2 (show Go (d + 2) true 225 147 [.ref 130, .int (nI kn), .int (nI m), .int (nI i), .int (nI f), .int (nI k)] [.int ((nI (rkF (wtK g kn) m i)) + 0), .int (nI m), .ref 138] h3 Q from ?_)
                            rw [show ((nI (rkF (wtK g kn) m i)) + 0 : Int32) = nI ((rkF (wtK g kn) m i) + 0) from nI_add (rkF (wtK g kn) m i) 0]
                            refine exf_go 2 (show vp_in (nI m) 256 ∧ (Go (d + 2) true 225 151 [.ref 130, .int (nI kn), .int (nI m), .int ((nI i) + 1), .int (nI f), .int (nI k)] [] (uI h3 138 ((nI m).toNatClampNeg) (nI ((rkF (wtK g kn) m i) + 0))) Q) from ⟨(vp_in_nI (by omega) (by omega)), ?_⟩)
                            rw [show ((nI i) + 1 : Int32) = nI (i + 1) from nI_add i 1]
                            refine exf_go 1 (show Go (d + 2) true 225 58 [.ref 130, .int (nI kn), .int (nI m), .int (nI (i + 1)), .int (nI f), .int (nI k)] [] (uI h3 138 ((nI m).toNatClampNeg) (nI ((rkF (wtK g kn) m i) + 0))) Q from ?_)
                            exact ih58 (.int (nI f)) (.int (nI k)) (i + 1) _ (by omega) (by omega) (q3.uI' _ _ _ rfl) (mw_fq mw3 rfl) (fun j hj => by rw [nI_clamp (by omega), rI_uI_at (by omega)]; exact hr3 j hj) (by rw [nI_clamp (by omega), rI_uI_eq]; exact congrArg nI (rk_0 (b2n_0 (by omega))))
                          · skip
                            have c5 : ¬ f = 0 := fun q => c5 ((nI_eq (a := f) (b := 0) (by omega) (by omega)).mpr q)
                            refine exf_go 4 (show vp_in (nI i) 256 ∧ (Go (d + 2) true 225 131 [.ref 130, .int (nI kn), .int (nI m), .int (nI i), .int (nI f), .int (nI k)] [.long (rJ h3 137 ((nI i).toNatClampNeg)), .int (nI (rkF (wtK g kn) m i)), .int (nI m), .ref 138] h3 Q) from ⟨(vp_in_nI (by omega) (by omega)), ?_⟩)
                            rw [show (rJ h3 137 ((nI i).toNatClampNeg) : Int64) = lN (wtK g kn i) from mw_at ms3 mw3 (m := i) (by omega)]
                            refine exf_go 4 (show vp_in (nI m) 256 ∧ (Go (d + 2) true 225 137 [.ref 130, .int (nI kn), .int (nI m), .int (nI i), .int (nI f), .int (nI k)] [.long (rJ h3 137 ((nI m).toNatClampNeg)), .long (lN (wtK g kn i)), .int (nI (rkF (wtK g kn) m i)), .int (nI m), .ref 138] h3 Q) from ⟨(vp_in_nI (by omega) (by omega)), ?_⟩)
                            rw [show (rJ h3 137 ((nI m).toNatClampNeg) : Int64) = lN (wtK g kn m) from mw_at ms3 mw3 (m := m) (by omega)]
                            refine exf_go 2 (show ((lg_cmp (lN (wtK g kn i)) (lN (wtK g kn m))) ≤ 0 → Go (d + 2) true 225 145 [.ref 130, .int (nI kn), .int (nI m), .int (nI i), .int (nI f), .int (nI k)] [.int (nI (rkF (wtK g kn) m i)), .int (nI m), .ref 138] h3 Q) ∧ (¬ ((lg_cmp (lN (wtK g kn i)) (lN (wtK g kn m))) ≤ 0) → Go (d + 2) true 225 141 [.ref 130, .int (nI kn), .int (nI m), .int (nI i), .int (nI f), .int (nI k)] [.int (nI (rkF (wtK g kn) m i)), .int (nI m), .ref 138] h3 Q) from ⟨fun c6 => ?_, fun c6 => ?_⟩)
                            · skip
                              have c6 : (lN (wtK g kn i)) ≤ (lN (wtK g kn m)) := (lg_cmp_le _ _).mp c6
                              have c6 : (wtK g kn i) ≤ (wtK g kn m) := (pk_lLE (a := (wtK g kn i)) (b := (wtK g kn m)) (by omega) (by omega)).mp c6
                              refine exf_go 2 (show Go (d + 2) true 225 147 [.ref 130, .int (nI kn), .int (nI m), .int (nI i), .int (nI f), .int (nI k)] [.int ((nI (rkF (wtK g kn) m i)) + 0), .int (nI m), .ref 138] h3 Q from ?_)
                              rw [show ((nI (rkF (wtK g kn) m i)) + 0 : Int32) = nI ((rkF (wtK g kn) m i) + 0) from nI_add (rkF (wtK g kn) m i) 0]
                              refine exf_go 2 (show vp_in (nI m) 256 ∧ (Go (d + 2) true 225 151 [.ref 130, .int (nI kn), .int (nI m), .int ((nI i) + 1), .int (nI f), .int (nI k)] [] (uI h3 138 ((nI m).toNatClampNeg) (nI ((rkF (wtK g kn) m i) + 0))) Q) from ⟨(vp_in_nI (by omega) (by omega)), ?_⟩)
                              rw [show ((nI i) + 1 : Int32) = nI (i + 1) from nI_add i 1]
                              refine exf_go 1 (show Go (d + 2) true 225 58 [.ref 130, .int (nI kn), .int (nI m), .int (nI (i + 1)), .int (nI f), .int (nI k)] [] (uI h3 138 ((nI m).toNatClampNeg) (nI ((rkF (wtK g kn) m i) + 0))) Q from ?_)
                              exact ih58 (.int (nI f)) (.int (nI k)) (i + 1) _ (by omega) (by omega) (q3.uI' _ _ _ rfl) (mw_fq mw3 rfl) (fun j hj => by rw [nI_clamp (by omega), rI_uI_at (by omega)]; exact hr3 j hj) (by rw [nI_clamp (by omega), rI_uI_eq]; exact congrArg nI (rk_le (by omega)))
                            · skip
                              have c6 : ¬ ((lN (wtK g kn i)) ≤ (lN (wtK g kn m))) := fun q => c6 ((lg_cmp_le _ _).mpr q)
                              have c6 : ¬ ((wtK g kn i) ≤ (wtK g kn m)) := fun q => c6 ((pk_lLE (a := (wtK g kn i)) (b := (wtK g kn m)) (by omega) (by omega)).mpr q)
                              refine exf_go 3 (show Go (d + 2) true 225 147 [.ref 130, .int (nI kn), .int (nI m), .int (nI i), .int (nI f), .int (nI k)] [.int ((nI (rkF (wtK g kn) m i)) + 1), .int (nI m), .ref 138] h3 Q from ?_)
                              rw [show ((nI (rkF (wtK g kn) m i)) + 1 : Int32) = nI ((rkF (wtK g kn) m i) + 1) from nI_add (rkF (wtK g kn) m i) 1]
                              refine exf_go 2 (show vp_in (nI m) 256 ∧ (Go (d + 2) true 225 151 [.ref 130, .int (nI kn), .int (nI m), .int ((nI i) + 1), .int (nI f), .int (nI k)] [] (uI h3 138 ((nI m).toNatClampNeg) (nI ((rkF (wtK g kn) m i) + 1))) Q) from ⟨(vp_in_nI (by omega) (by omega)), ?_⟩)
                              rw [show ((nI i) + 1 : Int32) = nI (i + 1) from nI_add i 1]
                              refine exf_go 1 (show Go (d + 2) true 225 58 [.ref 130, .int (nI kn), .int (nI m), .int (nI (i + 1)), .int (nI f), .int (nI k)] [] (uI h3 138 ((nI m).toNatClampNeg) (nI ((rkF (wtK g kn) m i) + 1))) Q from ?_)
                              exact ih58 (.int (nI f)) (.int (nI k)) (i + 1) _ (by omega) (by omega) (q3.uI' _ _ _ rfl) (mw_fq mw3 rfl) (fun j hj => by rw [nI_clamp (by omega), rI_uI_at (by omega)]; exact hr3 j hj) (by rw [nI_clamp (by omega), rI_uI_eq]; exact congrArg nI (rk_1 (b2n_1 (by omega)) (by omega)))
                        · skip
                          have c4 : ¬ i ≤ k := fun q => c4 ((nI_leI (a := i) (b := k) (by omega) (by omega)).mpr q)
                          refine exf_go 2 (show ((nI f) = 0 → Go (d + 2) true 225 113 [.ref 130, .int (nI kn), .int (nI m), .int (nI i), .int (nI f), .int (nI k)] [] h3 Q) ∧ (¬ ((nI f) = 0) → Go (d + 2) true 225 83 [.ref 130, .int (nI kn), .int (nI m), .int (nI i), .int (nI f), .int (nI k)] [] h3 Q) from ⟨fun c7 => ?_, fun c7 => ?_⟩)
                          · skip
                            have c7 : f = 0 := (nI_eq (a := f) (b := 0) (by omega) (by omega)).mp c7
                            have hD : b2n (dif (wtK g kn) i i) = f := by rw [dif_end (b2n_0 (by omega)) hk, c7]; rfl
                            refine exf_go 5 (show vp_in (nI m) 256 ∧ (Go (d + 2) true 225 120 [.ref 130, .int (nI kn), .int (nI m), .int (nI i), .int (nI f), .int (nI k)] [.int (rI h3 138 ((nI m).toNatClampNeg)), .int (nI m), .ref 138] h3 Q) from ⟨(vp_in_nI (by omega) (by omega)), ?_⟩)
                            rw [show (rI h3 138 ((nI m).toNatClampNeg) : Int32) = nI (rkF (wtK g kn) m i) from by rw [nI_clamp (by omega)]; exact hrm]
                            refine exf_go 2 (show ((nI f) = 0 → Go (d + 2) true 225 145 [.ref 130, .int (nI kn), .int (nI m), .int (nI i), .int (nI f), .int (nI k)] [.int (nI (rkF (wtK g kn) m i)), .int (nI m), .ref 138] h3 Q) ∧ (¬ ((nI f) = 0) → Go (d + 2) true 225 125 [.ref 130, .int (nI kn), .int (nI m), .int (nI i), .int (nI f), .int (nI k)] [.int (nI (rkF (wtK g kn) m i)), .int (nI m), .ref 138] h3 Q) from ⟨fun c8 => ?_, fun c8 => ?_⟩)
                            · skip
                              have c8 : f = 0 := (nI_eq (a := f) (b := 0) (by omega) (by omega)).mp c8
                              refine exf_go 2 (show Go (d + 2) true 225 147 [.ref 130, .int (nI kn), .int (nI m), .int (nI i), .int (nI f), .int (nI k)] [.int ((nI (rkF (wtK g kn) m i)) + 0), .int (nI m), .ref 138] h3 Q from ?_)
                              rw [show ((nI (rkF (wtK g kn) m i)) + 0 : Int32) = nI ((rkF (wtK g kn) m i) + 0) from nI_add (rkF (wtK g kn) m i) 0]
                              refine exf_go 2 (show vp_in (nI m) 256 ∧ (Go (d + 2) true 225 151 [.ref 130, .int (nI kn), .int (nI m), .int ((nI i) + 1), .int (nI f), .int (nI k)] [] (uI h3 138 ((nI m).toNatClampNeg) (nI ((rkF (wtK g kn) m i) + 0))) Q) from ⟨(vp_in_nI (by omega) (by omega)), ?_⟩)
                              rw [show ((nI i) + 1 : Int32) = nI (i + 1) from nI_add i 1]
                              refine exf_go 1 (show Go (d + 2) true 225 58 [.ref 130, .int (nI kn), .int (nI m), .int (nI (i + 1)), .int (nI f), .int (nI k)] [] (uI h3 138 ((nI m).toNatClampNeg) (nI ((rkF (wtK g kn) m i) + 0))) Q from ?_)
                              exact ih58 (.int (nI f)) (.int (nI k)) (i + 1) _ (by omega) (by omega) (q3.uI' _ _ _ rfl) (mw_fq mw3 rfl) (fun j hj => by rw [nI_clamp (by omega), rI_uI_at (by omega)]; exact hr3 j hj) (by rw [nI_clamp (by omega), rI_uI_eq]; exact congrArg nI (rk_0 (b2n_0 (by omega))))
                            · skip
                              have c8 : ¬ f = 0 := fun q => c8 ((nI_eq (a := f) (b := 0) (by omega) (by omega)).mpr q)
                              refine exf_go 4 (show vp_in (nI i) 256 ∧ (Go (d + 2) true 225 131 [.ref 130, .int (nI kn), .int (nI m), .int (nI i), .int (nI f), .int (nI k)] [.long (rJ h3 137 ((nI i).toNatClampNeg)), .int (nI (rkF (wtK g kn) m i)), .int (nI m), .ref 138] h3 Q) from ⟨(vp_in_nI (by omega) (by omega)), ?_⟩)
                              rw [show (rJ h3 137 ((nI i).toNatClampNeg) : Int64) = lN (wtK g kn i) from mw_at ms3 mw3 (m := i) (by omega)]
                              refine exf_go 4 (show vp_in (nI m) 256 ∧ (Go (d + 2) true 225 137 [.ref 130, .int (nI kn), .int (nI m), .int (nI i), .int (nI f), .int (nI k)] [.long (rJ h3 137 ((nI m).toNatClampNeg)), .long (lN (wtK g kn i)), .int (nI (rkF (wtK g kn) m i)), .int (nI m), .ref 138] h3 Q) from ⟨(vp_in_nI (by omega) (by omega)), ?_⟩)
                              rw [show (rJ h3 137 ((nI m).toNatClampNeg) : Int64) = lN (wtK g kn m) from mw_at ms3 mw3 (m := m) (by omega)]
                              refine exf_go 2 (show ((lg_cmp (lN (wtK g kn i)) (lN (wtK g kn m))) ≤ 0 → Go (d + 2) true 225 145 [.ref 130, .int (nI kn), .int (nI m), .int (nI i), .int (nI f), .int (nI k)] [.int (nI (rkF (wtK g kn) m i)), .int (nI m), .ref 138] h3 Q) ∧ (¬ ((lg_cmp (lN (wtK g kn i)) (lN (wtK g kn m))) ≤ 0) → Go (d + 2) true 225 141 [.ref 130, .int (nI kn), .int (nI m), .int (nI i), .int (nI f), .int (nI k)] [.int (nI (rkF (wtK g kn) m i)), .int (nI m), .ref 138] h3 Q) from ⟨fun c9 => ?_, fun c9 => ?_⟩)
                              · skip
                                have c9 : (lN (wtK g kn i)) ≤ (lN (wtK g kn m)) := (lg_cmp_le _ _).mp c9
                                have c9 : (wtK g kn i) ≤ (wtK g kn m) := (pk_lLE (a := (wtK g kn i)) (b := (wtK g kn m)) (by omega) (by omega)).mp c9
                                refine exf_go 2 (show Go (d + 2) true 225 147 [.ref 130, .int (nI kn), .int (nI m), .int (nI i), .int (nI f), .int (nI k)] [.int ((nI (rkF (wtK g kn) m i)) + 0), .int (nI m), .ref 138] h3 Q from ?_)
                                rw [show ((nI (rkF (wtK g kn) m i)) + 0 : Int32) = nI ((rkF (wtK g kn) m i) + 0) from nI_add (rkF (wtK g kn) m i) 0]
                                refine exf_go 2 (show vp_in (nI m) 256 ∧ (Go (d + 2) true 225 151 [.ref 130, .int (nI kn), .int (nI m), .int ((nI i) + 1), .int (nI f), .int (nI k)] [] (uI h3 138 ((nI m).toNatClampNeg) (nI ((rkF (wtK g kn) m i) + 0))) Q) from ⟨(vp_in_nI (by omega) (by omega)), ?_⟩)
                                rw [show ((nI i) + 1 : Int32) = nI (i + 1) from nI_add i 1]
                                refine exf_go 1 (show Go (d + 2) true 225 58 [.ref 130, .int (nI kn), .int (nI m), .int (nI (i + 1)), .int (nI f), .int (nI k)] [] (uI h3 138 ((nI m).toNatClampNeg) (nI ((rkF (wtK g kn) m i) + 0))) Q from ?_)
                                exact ih58 (.int (nI f)) (.int (nI k)) (i + 1) _ (by omega) (by omega) (q3.uI' _ _ _ rfl) (mw_fq mw3 rfl) (fun j hj => by rw [nI_clamp (by omega), rI_uI_at (by omega)]; exact hr3 j hj) (by rw [nI_clamp (by omega), rI_uI_eq]; exact congrArg nI (rk_le (by omega)))
                              · skip
                                have c9 : ¬ ((lN (wtK g kn i)) ≤ (lN (wtK g kn m))) := fun q => c9 ((lg_cmp_le _ _).mpr q)
                                have c9 : ¬ ((wtK g kn i) ≤ (wtK g kn m)) := fun q => c9 ((pk_lLE (a := (wtK g kn i)) (b := (wtK g kn m)) (by omega) (by omega)).mpr q)
                                refine exf_go 3 (show Go (d + 2) true 225 147 [.ref 130, .int (nI kn), .int (nI m), .int (nI i), .int (nI f), .int (nI k)] [.int ((nI (rkF (wtK g kn) m i)) + 1), .int (nI m), .ref 138] h3 Q from ?_)
                                rw [show ((nI (rkF (wtK g kn) m i)) + 1 : Int32) = nI ((rkF (wtK g kn) m i) + 1) from nI_add (rkF (wtK g kn) m i) 1]
                                refine exf_go 2 (show vp_in (nI m) 256 ∧ (Go (d + 2) true 225 151 [.ref 130, .int (nI kn), .int (nI m), .int ((nI i) + 1), .int (nI f), .int (nI k)] [] (uI h3 138 ((nI m).toNatClampNeg) (nI ((rkF (wtK g kn) m i) + 1))) Q) from ⟨(vp_in_nI (by omega) (by omega)), ?_⟩)
                                rw [show ((nI i) + 1 : Int32) = nI (i + 1) from nI_add i 1]
                                refine exf_go 1 (show Go (d + 2) true 225 58 [.ref 130, .int (nI kn), .int (nI m), .int (nI (i + 1)), .int (nI f), .int (nI k)] [] (uI h3 138 ((nI m).toNatClampNeg) (nI ((rkF (wtK g kn) m i) + 1))) Q from ?_)
                                exact ih58 (.int (nI f)) (.int (nI k)) (i + 1) _ (by omega) (by omega) (q3.uI' _ _ _ rfl) (mw_fq mw3 rfl) (fun j hj => by rw [nI_clamp (by omega), rI_uI_at (by omega)]; exact hr3 j hj) (by rw [nI_clamp (by omega), rI_uI_eq]; exact congrArg nI (rk_1 (b2n_1 (by omega)) (by omega)))
                          · skip
                            have c7 : ¬ f = 0 := fun q => c7 ((nI_eq (a := f) (b := 0) (by omega) (by omega)).mpr q)
                            refine exf_go 4 (show vp_in (nI k) 256 ∧ (Go (d + 2) true 225 90 [.ref 130, .int (nI kn), .int (nI m), .int (nI i), .int (nI f), .int (nI k)] [.long (rJ h3 137 ((nI k).toNatClampNeg))] h3 Q) from ⟨(vp_in_nI (by omega) (by omega)), ?_⟩)
                            rw [show (rJ h3 137 ((nI k).toNatClampNeg) : Int64) = lN (wtK g kn k) from mw_at ms3 mw3 (m := k) (by omega)]
                            refine exf_go 4 (show vp_in (nI i) 256 ∧ (Go (d + 2) true 225 96 [.ref 130, .int (nI kn), .int (nI m), .int (nI i), .int (nI f), .int (nI k)] [.long (rJ h3 137 ((nI i).toNatClampNeg)), .long (lN (wtK g kn k))] h3 Q) from ⟨(vp_in_nI (by omega) (by omega)), ?_⟩)
                            rw [show (rJ h3 137 ((nI i).toNatClampNeg) : Int64) = lN (wtK g kn i) from mw_at ms3 mw3 (m := i) (by omega)]
                            refine exf_go 2 (show ((lg_cmp (lN (wtK g kn k)) (lN (wtK g kn i))) = 0 → Go (d + 2) true 225 104 [.ref 130, .int (nI kn), .int (nI m), .int (nI i), .int (nI f), .int (nI k)] [] h3 Q) ∧ (¬ ((lg_cmp (lN (wtK g kn k)) (lN (wtK g kn i))) = 0) → Go (d + 2) true 225 100 [.ref 130, .int (nI kn), .int (nI m), .int (nI i), .int (nI f), .int (nI k)] [] h3 Q) from ⟨fun c10 => ?_, fun c10 => ?_⟩)
                            · skip
                              have c10 : (lN (wtK g kn k)) = (lN (wtK g kn i)) := (lg_cmp_eq _ _).mp c10
                              have c10 : (wtK g kn k) = (wtK g kn i) := (pk_lEQ (a := (wtK g kn k)) (b := (wtK g kn i)) (by omega) (by omega)).mp c10
                              refine exf_go 3 (show Go (d + 2) true 225 110 [.ref 130, .int (nI kn), .int (nI m), .int (nI i), .int 0, .int ((nI k) + 1)] [] h3 Q from ?_)
                              rw [show ((nI k) + 1 : Int32) = nI (k + 1) from nI_add k 1]
                              refine exf_go 1 (show Go (d + 2) true 225 72 [.ref 130, .int (nI kn), .int (nI m), .int (nI i), .int 0, .int (nI (k + 1))] [] h3 Q from ?_)
                              exact ih72 (k + 1) 0 (by omega) (by omega) (by exact dif_n (by assumption))
                            · skip
                              have c10 : ¬ ((lN (wtK g kn k)) = (lN (wtK g kn i))) := fun q => c10 ((lg_cmp_eq _ _).mpr q)
                              have c10 : ¬ ((wtK g kn k) = (wtK g kn i)) := fun q => c10 ((pk_lEQ (a := (wtK g kn k)) (b := (wtK g kn i)) (by omega) (by omega)).mpr q)
                              refine exf_go 4 (show Go (d + 2) true 225 110 [.ref 130, .int (nI kn), .int (nI m), .int (nI i), .int 1, .int ((nI k) + 1)] [] h3 Q from ?_)
                              rw [show ((nI k) + 1 : Int32) = nI (k + 1) from nI_add k 1]
                              refine exf_go 1 (show Go (d + 2) true 225 72 [.ref 130, .int (nI kn), .int (nI m), .int (nI i), .int 1, .int (nI (k + 1))] [] h3 Q from ?_)
                              exact ih72 (k + 1) 1 (by omega) (by omega) (by exact dif_y (by omega) (by assumption))
                    exact L72 (i + 1) 0 1 (by omega) (by omega) rfl
              exact L58 (257 + 1) z4 z5 0 _ (by omega) (by omega) (q2.uI' _ _ _ rfl) (mw_fq mw2 rfl) (fun j hj => by rw [nI_clamp (by omega), rI_uI_at (by omega)]; exact hr j hj) (by rw [nI_clamp (by omega), rI_uI_eq]; rfl)
        exact L41 (257 + 1) z3 z4 z5 0 h1 (by omega) (by omega) q1 ⟨hk0, fun j hj => hw j (by omega)⟩ (fun j hj => absurd hj (Nat.not_lt_zero _))
      · skip
        have c1 : ¬ 256 ≤ m := fun q => c1 ((nI_leI (a := 256) (b := m) (by omega) (by omega)).mpr q)
        refine exf_go 6 (show wpC (d + 2) true 223 [.ref 130] h1 (fun r h' => Go (d + 2) true 225 19 [.ref 130, .int (nI kn), .int (nI m), z3, z4, z5] [r, .int (nI m), .int (nI m), .ref 137] h' Q) from ?_)
        refine m_every ms1 ?_
        show Go (d + 2) true 225 19 [.ref 130, .int (nI kn), .int (nI m), z3, z4, z5] [.int (nI (evr g)), .int (nI m), .int (nI m), .ref 137] h1 Q
        refine exf_go 1 (show ((nI (evr g)) < (nI m) → Go (d + 2) true 225 31 [.ref 130, .int (nI kn), .int (nI m), z3, z4, z5] [.int (nI m), .ref 137] h1 Q) ∧ (¬ ((nI (evr g)) < (nI m)) → Go (d + 2) true 225 22 [.ref 130, .int (nI kn), .int (nI m), z3, z4, z5] [.int (nI m), .ref 137] h1 Q) from ⟨fun c11 => ?_, fun c11 => ?_⟩)
        · skip
          have c11 : (evr g) < m := (nI_ltI (a := (evr g)) (b := m) (by omega) (by omega)).mp c11
          refine exf_go 3 (show vp_in (nI m) 256 ∧ (Go (d + 2) true 225 36 [.ref 130, .int (nI kn), .int ((nI m) + 1), z3, z4, z5] [] (uJ h1 137 ((nI m).toNatClampNeg) 0) Q) from ⟨(vp_in_nI (by omega) (by omega)), ?_⟩)
          rw [show ((nI m) + 1 : Int32) = nI (m + 1) from nI_add m 1]
          refine exf_go 1 (show Go (d + 2) true 225 2 [.ref 130, .int (nI kn), .int (nI (m + 1)), z3, z4, z5] [] (uJ h1 137 ((nI m).toNatClampNeg) 0) Q from ?_)
          exact ih2 z3 z4 z5 (m + 1) _ (by omega) (by omega) (q1.uJ' _ _ _ rfl) (fun j hj => (Decidable.em (j = m)).elim (fun e => by rw [nI_clamp (by omega), e, rJ_uJ_eq]; (first | rw [if_pos (by omega)] | (rw [if_neg (by omega)]; decide))) (fun e => by rw [nI_clamp (by omega), rJ_uJ_at e]; exact hw j (by omega)))
        · skip
          have c11 : ¬ (evr g) < m := fun q => c11 ((nI_ltI (a := (evr g)) (b := m) (by omega) (by omega)).mpr q)
          refine exf_go 4 (show wpC (d + 2) true 222 [.ref 130, .int (nI kn), .int (nI m)] h1 (fun r h' => Go (d + 2) true 225 28 [.ref 130, .int (nI kn), .int (nI m), z3, z4, z5] [r, .int (nI m), .ref 137] h' Q) from ?_)
          refine m_weightBy ms1 (by omega) (by omega) ?_
          have := wtK_b ms.1.1 kn m
          show Go (d + 2) true 225 28 [.ref 130, .int (nI kn), .int (nI m), z3, z4, z5] [.long (lN (wtK g kn m)), .int (nI m), .ref 137] h1 Q
          refine exf_go 3 (show vp_in (nI m) 256 ∧ (Go (d + 2) true 225 36 [.ref 130, .int (nI kn), .int ((nI m) + 1), z3, z4, z5] [] (uJ h1 137 ((nI m).toNatClampNeg) (lN (wtK g kn m))) Q) from ⟨(vp_in_nI (by omega) (by omega)), ?_⟩)
          rw [show ((nI m) + 1 : Int32) = nI (m + 1) from nI_add m 1]
          refine exf_go 1 (show Go (d + 2) true 225 2 [.ref 130, .int (nI kn), .int (nI (m + 1)), z3, z4, z5] [] (uJ h1 137 ((nI m).toNatClampNeg) (lN (wtK g kn m))) Q from ?_)
          exact ih2 z3 z4 z5 (m + 1) _ (by omega) (by omega) (q1.uJ' _ _ _ rfl) (fun j hj => (Decidable.em (j = m)).elim (fun e => by rw [nI_clamp (by omega), e, rJ_uJ_eq]; (first | rw [if_pos (by omega)] | (rw [if_neg (by omega)]; decide))) (fun e => by rw [nI_clamp (by omega), rJ_uJ_at e]; exact hw j (by omega)))
  exact L2 (256 + 1) mk_ mk_ mk_ 0 h (by omega) (by omega) Fq.rfl' (fun j hj => absurd hj (Nat.not_lt_zero _))
theorem mo_fq {E : Nat → Bool} {g : ShG} {kn : Nat} {s : Nat → Nat → Bool} {h h1 : Hp} (mo : MO E g kn h) (q : Fq s h h1) (h1' : s 130 22 = false) (h2 : ∀ i, s 140 i = false) : MO E g kn h1 := ⟨(q.1 130 22 h1').1.trans mo.1, fun n hn hE => by rw [q.I h2]; exact mo.2 n hn hE⟩
theorem mo_E {E : Nat → Bool} {g : ShG} {kn : Nat} {h : Hp} (hg : ShW g) (mo : MO E g kn h) {k : Nat} (hk : k < cntN E (tot g)) : ordOf h k = ordE E g kn k := ord_eq (ord_key hg (mo_ord hg mo)) (ordV_ok _ _ _) hk
theorem mo_atE {E : Nat → Bool} {g : ShG} {kn : Nat} {h : Hp} (hg : ShW g) (mo : MO E g kn h) {k : Nat} (hk : k < cntN E (tot g)) : rI h 140 (nI k).toNatClampNeg = nI (ordE E g kn k) := by rw [mo_at hg mo hk, mo_E hg mo hk]
theorem lwt_felt {g : ShG} {l : LkG} {kn n : Nat} (hg : ShW g) (hl : LkW g l) (h : elg g l kn false n = true) : lwt g l n = if agA g l n = 1 then wtA g (sH g n) else 0 := by
  unfold elg at h
  simp only [Bool.and_eq_true, decide_eq_true_eq, Bool.not_false, Bool.true_or, and_true] at h
  unfold lwt
  rw [← elg_lft hg hl n]
  unfold elg
  rw [decide_eq_true h.2]
  by_cases q : agA g l n = 1
  · rw [if_pos q, decide_eq_true q]
    by_cases q2 : 0 < wtK g (evr g) (sH g n)
    · rw [decide_eq_true q2]; rfl
    · rw [decide_eq_false q2]
      have : wtA g (sH g n) = wtK g (evr g) (sH g n) := rfl
      simp only [Bool.false_and, Bool.false_eq_true, if_false]
      omega
  · rw [if_neg q, decide_eq_false q]
    simp
theorem m_mate {d : Nat} {h : Hp} {g : ShG} {l : LkG} {x y : Int32} {Q : Po} (ms : MS g l h) (k : ∀ h1, Fq scM h h1 → Q (.int (fMate g l x y)) h1) : wpC (d + 6) true 277 [.ref 130, .int x, .int y] h Q := by
  have hN := tot_b ms.1.1
  have h4 := ms.1.1.1
  have h8 := ms.1.1.2.2.2.1
  have he := evr_b ms.1.1
  have hev : evr g = 2 ^ sC g - 1 := rfl
  have hm4 := ms.1.1.2.2.2.2.2.1
  have hkb := ms.1.1.2.2.2.2.2.2.1
  refine go_in rfl ?_
  refine exf_go 6 (show wpC (d + 5) true 276 [.ref 130, .int x] (uI h 130 0 0) (fun r h' => Go (d + 5) true 277 10 [.ref 130, .int x, .int y] [r] h' Q) from ?_)
  refine m_isMate (x := x) (ms_fq ms (Fq.uI' Fq.rfl' _ _ _ rfl)) (fun j1 e1 q1 r1 => ?_) (fun e1 => ?_)
  · skip
    subst q1
    show Go (d + 5) true 277 10 [.ref 130, .int (nI j1), .int y] [.int 1] (uI h 130 0 0) Q
    refine exf_go 1 (show (¬ (1 : Int32) = 0 → Go (d + 5) true 277 16 [.ref 130, .int (nI j1), .int y] [] (uI h 130 0 0) Q) ∧ (¬ (¬ (1 : Int32) = 0) → Go (d + 5) true 277 13 [.ref 130, .int (nI j1), .int y] [] (uI h 130 0 0) Q) from ⟨fun c2 => ?_, fun c2 => ?_⟩)
    · skip
      refine exf_go 2 (show (0 ≤ y → Go (d + 5) true 277 23 [.ref 130, .int (nI j1), .int y] [] (uI h 130 0 0) Q) ∧ (¬ (0 ≤ y) → Go (d + 5) true 277 20 [.ref 130, .int (nI j1), .int y] [] (uI h 130 0 0) Q) from ⟨fun c3 => ?_, fun c3 => ?_⟩)
      · skip
        obtain ⟨jy, e1y, e2y⟩ := nI_of (Int32.not_lt.mpr c3)
        subst e2y
        have e3y := nI_pos e1y
        refine exf_go 6 (show Go (d + 5) true 277 32 [.ref 130, .int (nI j1), .int (nI jy)] [.int (46 + (nI j1)), .ref 131, .ref 130] (uI h 130 0 0) Q from ?_)
        rw [show (46 + (nI j1) : Int32) = nI (46 + j1) from nI_add 46 j1]
        refine exf_go 1 (show vp_in (nI (46 + j1)) 41523 ∧ (Go (d + 5) true 277 33 [.ref 130, .int (nI j1), .int (nI jy)] [.int (rI h 131 ((nI (46 + j1)).toNatClampNeg)), .ref 130] (uI h 130 0 0) Q) from ⟨(vp_in_nI (by omega) (by omega)), ?_⟩)
        rw [show (rI h 131 ((nI (46 + j1)).toNatClampNeg) : Int32) = nI (sK g j1) from ms_K ms (n := j1) (by omega)]
        refine exf_go 2 (show wpC (d + 5) true 227 [.ref 130, .int (nI (sK g j1)), .int 0] (uI h 130 0 0) (fun _ h' => Go (d + 5) true 277 37 [.ref 130, .int (nI j1), .int (nI jy)] [] h' Q) from ?_)
        have hkn1 : (sK g j1) < 256 := by first | omega | (have := hkb j1; omega)
        refine m_laysOrder0 (ms_fq ms (Fq.uI' Fq.rfl' _ _ _ rfl)) hkn1 (fun h1 p1 mw1 mo1 => ?_)
        have q1 := Fq.tr (Fq.uI' Fq.rfl' _ _ _ rfl) p1
        have ms1 := ms_fq ms q1
        have hcc1 := cntN_le (elg g l (sK g j1) false) (tot g)
        show Go (d + 5) true 277 37 [.ref 130, .int (nI j1), .int (nI jy)] [] h1 Q
        refine exf_go 3 (show Go (d + 5) true 277 42 [.ref 130, .int (nI j1), .int (nI jy)] [.int (rI h1 130 22), .int (nI jy)] h1 Q from ?_)
        rw [show (rI h1 130 22 : Int32) = nI (cntN (elg g l (sK g j1) false) (tot g)) from mo1.1]
        refine exf_go 1 (show ((nI (cntN (elg g l (sK g j1) false) (tot g))) ≤ (nI jy) → Go (d + 5) true 277 54 [.ref 130, .int (nI j1), .int (nI jy)] [] h1 Q) ∧ (¬ ((nI (cntN (elg g l (sK g j1) false) (tot g))) ≤ (nI jy)) → Go (d + 5) true 277 45 [.ref 130, .int (nI j1), .int (nI jy)] [] h1 Q) from ⟨fun c4 => ?_, fun c4 => ?_⟩)
        · skip
          have c4 : (cntN (elg g l (sK g j1) false) (tot g)) ≤ jy := (nI_leI (a := (cntN (elg g l (sK g j1) false) (tot g))) (b := jy) (by omega) (by omega)).mp c4
          refine exf_go 2 (show Q (.int (-1)) h1 from ?_)
          simp only [fMate, e1] at k
          rw [if_neg e3y, nI_clamp e1y, if_neg (by omega)] at k
          exact k _ q1
        · skip
          have c4 : ¬ (cntN (elg g l (sK g j1) false) (tot g)) ≤ jy := fun q => c4 ((nI_leI (a := (cntN (elg g l (sK g j1) false) (tot g))) (b := jy) (by omega) (by omega)).mpr q)
          refine exf_go 4 (show vp_in (nI jy) 10000 ∧ (Go (d + 5) true 277 51 [.ref 130, .int (nI j1), .int (nI jy)] [.int (rI h1 140 ((nI jy).toNatClampNeg))] h1 Q) from ⟨(vp_in_nI (by omega) (by omega)), ?_⟩)
          rw [show (rI h1 140 ((nI jy).toNatClampNeg) : Int32) = nI (ordE (elg g l (sK g j1) false) g (sK g j1) jy) from mo_atE ms.1.1 mo1 (k := jy) (by omega)]
          have hoi := ordE_in (E := (elg g l (sK g j1) false)) (g := g) (kn := (sK g j1)) (k := jy) (by omega)
          refine exf_go 2 (show Q (.int (nI (ordE (elg g l (sK g j1) false) g (sK g j1) jy))) h1 from ?_)
          simp only [fMate, e1] at k
          rw [if_neg e3y, nI_clamp e1y, if_pos (by omega)] at k
          exact k _ q1
      · skip
        refine exf_go 2 (show Q (.int (-3)) (uI h 130 0 0) from ?_)
        simp only [fMate, e1] at k
        rw [if_pos (Int32.not_le.mp c3)] at k
        exact k _ (Fq.uI' Fq.rfl' _ _ _ rfl)
    · skip
      exact absurd (by decide) c2
  · skip
    show Go (d + 5) true 277 10 [.ref 130, .int x, .int y] [.int 0] (uI h 130 0 0) Q
    refine exf_go 1 (show (¬ (0 : Int32) = 0 → Go (d + 5) true 277 16 [.ref 130, .int x, .int y] [] (uI h 130 0 0) Q) ∧ (¬ (¬ (0 : Int32) = 0) → Go (d + 5) true 277 13 [.ref 130, .int x, .int y] [] (uI h 130 0 0) Q) from ⟨fun c5 => ?_, fun c5 => ?_⟩)
    · skip
      exact absurd c5 (by decide)
    · skip
      refine exf_go 2 (show Q (.int (-2)) (uI h 130 0 0) from ?_)
      simp only [fMate, *] at k
      exact k _ (Fq.uI' Fq.rfl' _ _ _ rfl)
theorem m_weightAtE {d : Nat} {h : Hp} {g : ShG} {l : LkG} {E : Nat → Bool} {kn j : Nat} {Q : Po} (ms : MS g l h) (mw : MW g (evr g) h) (mo : MO E g kn h) (hj : j < cntN E (tot g)) (k : Q (.long (lN (wtA g (sH g (ordE E g kn j))))) h) : wpC (d + 1) true 229 [.ref 130, .int (nI j)] h Q := by
  have hN := tot_b ms.1.1
  have h4 := ms.1.1.1
  have h8 := ms.1.1.2.2.2.1
  have he := evr_b ms.1.1
  have hev : evr g = 2 ^ sC g - 1 := rfl
  have hm4 := ms.1.1.2.2.2.2.2.1
  have hkb := ms.1.1.2.2.2.2.2.2.1
  have hcc := cntN_le E (tot g)
  have ho := ordE_in (E := E) (g := g) (kn := kn) hj
  have hs := sH_b ms.1.1 (ordE E g kn j)
  refine go_in rfl ?_
  refine exf_go 9 (show vp_in (nI j) 10000 ∧ (Go d true 229 17 [.ref 130, .int (nI j)] [.int (rI h 140 ((nI j).toNatClampNeg)), .int 3841, .ref 131, .ref 137] h Q) from ⟨(vp_in_nI (by omega) (by omega)), ?_⟩)
  rw [show (rI h 140 ((nI j).toNatClampNeg) : Int32) = nI (ordE E g kn j) from mo_atE ms.1.1 mo (k := j) (by omega)]
  refine exf_go 1 (show Go d true 229 18 [.ref 130, .int (nI j)] [.int (3841 + (nI (ordE E g kn j))), .ref 131, .ref 137] h Q from ?_)
  rw [show (3841 + (nI (ordE E g kn j)) : Int32) = nI (3841 + (ordE E g kn j)) from nI_add 3841 (ordE E g kn j)]
  refine exf_go 1 (show vp_in (nI (3841 + (ordE E g kn j))) 41523 ∧ (Go d true 229 19 [.ref 130, .int (nI j)] [.int (rI h 131 ((nI (3841 + (ordE E g kn j))).toNatClampNeg)), .ref 137] h Q) from ⟨(vp_in_nI (by omega) (by omega)), ?_⟩)
  rw [show (rI h 131 ((nI (3841 + (ordE E g kn j))).toNatClampNeg) : Int32) = nI (sH g (ordE E g kn j)) from ms_H ms (n := (ordE E g kn j)) (by omega)]
  have := sH_b ms.1.1 (ordE E g kn j)
  refine exf_go 1 (show vp_in (nI (sH g (ordE E g kn j))) 256 ∧ (Go d true 229 20 [.ref 130, .int (nI j)] [.long (rJ h 137 ((nI (sH g (ordE E g kn j))).toNatClampNeg))] h Q) from ⟨(vp_in_nI (by omega) (by omega)), ?_⟩)
  rw [show (rJ h 137 ((nI (sH g (ordE E g kn j))).toNatClampNeg) : Int64) = lN (wtA g (sH g (ordE E g kn j))) from mw_at ms mw (m := (sH g (ordE E g kn j))) (hH ms.1.1 _)]
  refine exf_go 1 (show Q (.long (lN (wtA g (sH g (ordE E g kn j))))) h from ?_)
  exact k
theorem m_guardedBy {d : Nat} {h : Hp} {g : ShG} {l : LkG} {m n : Nat} {Q : Po} (ms : MS g l h) (hm : m < sM g) (hn : n < 2 ^ 31) (k : ∀ h1, Fq scM h h1 → Q (.long (lN (fGrd g l n m))) h1) : wpC (d + 6) true 278 [.ref 130, .int (nI m), .int (nI n)] h Q := by
  have hN := tot_b ms.1.1
  have h4 := ms.1.1.1
  have h8 := ms.1.1.2.2.2.1
  have he := evr_b ms.1.1
  have hev : evr g = 2 ^ sC g - 1 := rfl
  have hm4 := ms.1.1.2.2.2.2.2.1
  have hkb := ms.1.1.2.2.2.2.2.2.1
  refine go_in rfl ?_
  refine exf_go 6 (show Go (d + 5) true 278 9 [.ref 130, .int (nI m), .int (nI n), mk_, mk_, mk_] [.int (46 + (nI m)), .ref 131, .ref 130] h Q from ?_)
  rw [show (46 + (nI m) : Int32) = nI (46 + m) from nI_add 46 m]
  refine exf_go 1 (show vp_in (nI (46 + m)) 41523 ∧ (Go (d + 5) true 278 10 [.ref 130, .int (nI m), .int (nI n), mk_, mk_, mk_] [.int (rI h 131 ((nI (46 + m)).toNatClampNeg)), .ref 130] h Q) from ⟨(vp_in_nI (by omega) (by omega)), ?_⟩)
  rw [show (rI h 131 ((nI (46 + m)).toNatClampNeg) : Int32) = nI (sK g m) from ms_K ms (n := m) (by omega)]
  refine exf_go 2 (show wpC (d + 5) true 227 [.ref 130, .int (nI (sK g m)), .int 0] h (fun _ h' => Go (d + 5) true 278 14 [.ref 130, .int (nI m), .int (nI n), mk_, mk_, mk_] [] h' Q) from ?_)
  have hkn1 : (sK g m) < 256 := by first | omega | (have := hkb m; omega)
  refine m_laysOrder0 ms hkn1 (fun h1 p1 mw1 mo1 => ?_)
  have q1 := Fq.tr Fq.rfl' p1
  have ms1 := ms_fq ms q1
  have hcc1 := cntN_le (elg g l (sK g m) false) (tot g)
  show Go (d + 5) true 278 14 [.ref 130, .int (nI m), .int (nI n), mk_, mk_, mk_] [] h1 Q
  refine exf_go 5 (show wpC (d + 5) true 223 [.ref 130] h1 (fun r h' => Go (d + 5) true 278 21 [.ref 130, .int (nI m), .int (nI n), .long 0, mk_, mk_] [r, .ref 130] h' Q) from ?_)
  refine m_every ms1 ?_
  show Go (d + 5) true 278 21 [.ref 130, .int (nI m), .int (nI n), .long 0, mk_, mk_] [.int (nI (evr g)), .ref 130] h1 Q
  refine exf_go 1 (show wpC (d + 5) true 225 [.ref 130, .int (nI (evr g))] h1 (fun _ h' => Go (d + 5) true 278 24 [.ref 130, .int (nI m), .int (nI n), .long 0, mk_, mk_] [] h' Q) from ?_)
  refine m_ranks ms1 (by omega) (fun h2 p2 mw2 mr2 => ?_)
  have q2 := q1.tr (p2.mono s78_M)
  have ms2 := ms_fq ms q2
  have mo2 := mo_fq mo1 p2 rfl (fun _ => rfl)
  show Go (d + 5) true 278 24 [.ref 130, .int (nI m), .int (nI n), .long 0, mk_, mk_] [] h2 Q
  refine exf_go 2 (show Go (d + 5) true 278 27 [.ref 130, .int (nI m), .int (nI n), .long 0, mk_, .int 0] [] h2 Q from ?_)
  have L27 : ∀ (k27 : Nat) (i s : Nat), (n - i) < k27 → (i ≤ cntN (elg g l (sK g m) false) (tot g)) → (i ≤ n) → (s = fstE (elg g l (sK g m) false) g l (sK g m) i) → Go (d + 5) true 278 27 [.ref 130, .int (nI m), .int (nI n), .long (lN s), mk_, .int (nI i)] [] h2 Q := by
    intro k27
    induction k27 with
    | zero => intro i s hk; exact absurd hk (Nat.not_lt_zero _)
    | succ k27 ih27 =>
      intro i s hk hi hin hs
      refine exf_go 3 (show ((nI n) ≤ (nI i) → Go (d + 5) true 278 71 [.ref 130, .int (nI m), .int (nI n), .long (lN s), mk_, .int (nI i)] [] h2 Q) ∧ (¬ ((nI n) ≤ (nI i)) → Go (d + 5) true 278 33 [.ref 130, .int (nI m), .int (nI n), .long (lN s), mk_, .int (nI i)] [] h2 Q) from ⟨fun c1 => ?_, fun c1 => ?_⟩)
      · skip
        have c1 : n ≤ i := (nI_leI (a := n) (b := i) (by omega) (by omega)).mp c1
        refine exf_go 2 (show Q (.long (lN s)) h2 from ?_)
        rw [fGrd, ← show i = min n (cntN (elg g l (sK g m) false) (tot g)) from by omega, ← hs] at k
        exact k _ q2
      · skip
        have c1 : ¬ n ≤ i := fun q => c1 ((nI_leI (a := n) (b := i) (by omega) (by omega)).mpr q)
        refine exf_go 3 (show Go (d + 5) true 278 39 [.ref 130, .int (nI m), .int (nI n), .long (lN s), mk_, .int (nI i)] [.int (rI h2 130 22), .int (nI i)] h2 Q from ?_)
        rw [show (rI h2 130 22 : Int32) = nI (cntN (elg g l (sK g m) false) (tot g)) from mo2.1]
        refine exf_go 1 (show ((nI (cntN (elg g l (sK g m) false) (tot g))) ≤ (nI i) → Go (d + 5) true 278 71 [.ref 130, .int (nI m), .int (nI n), .long (lN s), mk_, .int (nI i)] [] h2 Q) ∧ (¬ ((nI (cntN (elg g l (sK g m) false) (tot g))) ≤ (nI i)) → Go (d + 5) true 278 42 [.ref 130, .int (nI m), .int (nI n), .long (lN s), mk_, .int (nI i)] [] h2 Q) from ⟨fun c2 => ?_, fun c2 => ?_⟩)
        · skip
          have c2 : (cntN (elg g l (sK g m) false) (tot g)) ≤ i := (nI_leI (a := (cntN (elg g l (sK g m) false) (tot g))) (b := i) (by omega) (by omega)).mp c2
          refine exf_go 2 (show Q (.long (lN s)) h2 from ?_)
          rw [fGrd, ← show i = min n (cntN (elg g l (sK g m) false) (tot g)) from by omega, ← hs] at k
          exact k _ q2
        · skip
          have c2 : ¬ (cntN (elg g l (sK g m) false) (tot g)) ≤ i := fun q => c2 ((nI_leI (a := (cntN (elg g l (sK g m) false) (tot g))) (b := i) (by omega) (by omega)).mpr q)
          refine exf_go 5 (show vp_in (nI i) 10000 ∧ (Go (d + 5) true 278 50 [.ref 130, .int (nI m), .int (nI n), .long (lN s), mk_, .int (nI i)] [.int (rI h2 140 ((nI i).toNatClampNeg)), .ref 130] h2 Q) from ⟨(vp_in_nI (by omega) (by omega)), ?_⟩)
          rw [show (rI h2 140 ((nI i).toNatClampNeg) : Int32) = nI (ordE (elg g l (sK g m) false) g (sK g m) i) from mo_atE ms.1.1 mo2 (k := i) (by omega)]
          have hoi := ordE_in (E := (elg g l (sK g m) false)) (g := g) (kn := (sK g m)) (k := i) (by omega)
          refine exf_go 1 (show wpC (d + 5) true 224 [.ref 130, .int (nI (ordE (elg g l (sK g m) false) g (sK g m) i))] h2 (fun r h' => Go (d + 5) true 278 53 [.ref 130, .int (nI m), .int (nI n), .long (lN s), mk_, .int (nI i)] [r] h' Q) from ?_)
          refine m_isFelt ms2 hoi.1 (fun b3 => ?_) (fun b3 => ?_)
          · skip
            show Go (d + 5) true 278 53 [.ref 130, .int (nI m), .int (nI n), .long (lN s), mk_, .int (nI i)] [.int 1] h2 Q
            refine exf_go 1 (show ((1 : Int32) = 0 → Go (d + 5) true 278 65 [.ref 130, .int (nI m), .int (nI n), .long (lN s), mk_, .int (nI i)] [] h2 Q) ∧ (¬ ((1 : Int32) = 0) → Go (d + 5) true 278 56 [.ref 130, .int (nI m), .int (nI n), .long (lN s), mk_, .int (nI i)] [] h2 Q) from ⟨fun c4 => ?_, fun c4 => ?_⟩)
            · skip
              exact absurd c4 (by decide)
            · skip
              refine exf_go 4 (show wpC (d + 5) true 229 [.ref 130, .int (nI i)] h2 (fun r h' => Go (d + 5) true 278 63 [.ref 130, .int (nI m), .int (nI n), .long (lN s), mk_, .int (nI i)] [r, .long (lN s)] h' Q) from ?_)
              refine m_weightAtE ms2 mw2 mo2 (j := i) (by omega) ?_
              have hwb := wtA_b ms.1.1 (sH g (ordE (elg g l (sK g m) false) g (sK g m) i))
              show Go (d + 5) true 278 63 [.ref 130, .int (nI m), .int (nI n), .long (lN s), mk_, .int (nI i)] [.long (lN (wtA g (sH g (ordE (elg g l (sK g m) false) g (sK g m) i)))), .long (lN s)] h2 Q
              refine exf_go 1 (show Go (d + 5) true 278 64 [.ref 130, .int (nI m), .int (nI n), .long (lN s), mk_, .int (nI i)] [.long ((lN s) + (lN (wtA g (sH g (ordE (elg g l (sK g m) false) g (sK g m) i)))))] h2 Q from ?_)
              rw [show ((lN s) + (lN (wtA g (sH g (ordE (elg g l (sK g m) false) g (sK g m) i)))) : Int64) = lN (s + (wtA g (sH g (ordE (elg g l (sK g m) false) g (sK g m) i)))) from lN_add s (wtA g (sH g (ordE (elg g l (sK g m) false) g (sK g m) i)))]
              refine exf_go 2 (show Go (d + 5) true 278 68 [.ref 130, .int (nI m), .int (nI n), .long (lN (s + (wtA g (sH g (ordE (elg g l (sK g m) false) g (sK g m) i))))), mk_, .int ((nI i) + 1)] [] h2 Q from ?_)
              rw [show ((nI i) + 1 : Int32) = nI (i + 1) from nI_add i 1]
              refine exf_go 1 (show Go (d + 5) true 278 27 [.ref 130, .int (nI m), .int (nI n), .long (lN (s + (wtA g (sH g (ordE (elg g l (sK g m) false) g (sK g m) i))))), mk_, .int (nI (i + 1))] [] h2 Q from ?_)
              exact ih27 (i + 1) (s + (wtA g (sH g (ordE (elg g l (sK g m) false) g (sK g m) i)))) (by omega) (by omega) (by omega) (by rw [hs]; show _ = fstE (elg g l (sK g m) false) g l (sK g m) i + lwt g l (ordE (elg g l (sK g m) false) g (sK g m) i); rw [lwt_felt ms.1.1 ms.1.2 hoi.2]; first | rw [if_pos (by assumption)] | (rw [if_neg (by omega)]; rfl))
          · skip
            show Go (d + 5) true 278 53 [.ref 130, .int (nI m), .int (nI n), .long (lN s), mk_, .int (nI i)] [.int 0] h2 Q
            refine exf_go 1 (show ((0 : Int32) = 0 → Go (d + 5) true 278 65 [.ref 130, .int (nI m), .int (nI n), .long (lN s), mk_, .int (nI i)] [] h2 Q) ∧ (¬ ((0 : Int32) = 0) → Go (d + 5) true 278 56 [.ref 130, .int (nI m), .int (nI n), .long (lN s), mk_, .int (nI i)] [] h2 Q) from ⟨fun c5 => ?_, fun c5 => ?_⟩)
            · skip
              refine exf_go 1 (show Go (d + 5) true 278 68 [.ref 130, .int (nI m), .int (nI n), .long (lN s), mk_, .int ((nI i) + 1)] [] h2 Q from ?_)
              rw [show ((nI i) + 1 : Int32) = nI (i + 1) from nI_add i 1]
              refine exf_go 1 (show Go (d + 5) true 278 27 [.ref 130, .int (nI m), .int (nI n), .long (lN s), mk_, .int (nI (i + 1))] [] h2 Q from ?_)
              exact ih27 (i + 1) s (by omega) (by omega) (by omega) (by rw [hs]; show _ = fstE (elg g l (sK g m) false) g l (sK g m) i + lwt g l (ordE (elg g l (sK g m) false) g (sK g m) i); rw [lwt_felt ms.1.1 ms.1.2 hoi.2]; first | rw [if_pos (by assumption)] | (rw [if_neg (by omega)]; rfl))
            · skip
              exact absurd (by decide) c5
  exact L27 (n + 1) 0 0 (by omega) (by omega) (by omega) rfl
theorem m_guarded {d : Nat} {h : Hp} {g : ShG} {l : LkG} {x y z : Int32} {Q : Po} (ms : MS g l h) (k : ∀ h1, Fq scM h h1 → Q (.long (fGuarded g l x y z)) h1) : wpC (d + 134) true 279 [.ref 130, .int x, .int y, .int z] h Q := by
  have hN := tot_b ms.1.1
  have h4 := ms.1.1.1
  have h8 := ms.1.1.2.2.2.1
  have he := evr_b ms.1.1
  have hev : evr g = 2 ^ sC g - 1 := rfl
  have hm4 := ms.1.1.2.2.2.2.2.1
  have hkb := ms.1.1.2.2.2.2.2.2.1
  refine go_in rfl ?_
  refine exf_go 6 (show wpC (d + 133) true 276 [.ref 130, .int x] (uI h 130 0 0) (fun r h' => Go (d + 133) true 279 10 [.ref 130, .int x, .int y, .int z, mk_, mk_] [r] h' Q) from ?_)
  refine m_isMate (x := x) (ms_fq ms (Fq.uI' Fq.rfl' _ _ _ rfl)) (fun j1 e1 q1 r1 => ?_) (fun e1 => ?_)
  · skip
    subst q1
    show Go (d + 133) true 279 10 [.ref 130, .int (nI j1), .int y, .int z, mk_, mk_] [.int 1] (uI h 130 0 0) Q
    refine exf_go 1 (show ((1 : Int32) = 0 → Go (d + 133) true 279 23 [.ref 130, .int (nI j1), .int y, .int z, mk_, mk_] [] (uI h 130 0 0) Q) ∧ (¬ ((1 : Int32) = 0) → Go (d + 133) true 279 13 [.ref 130, .int (nI j1), .int y, .int z, mk_, mk_] [] (uI h 130 0 0) Q) from ⟨fun c2 => ?_, fun c2 => ?_⟩)
    · skip
      exact absurd c2 (by decide)
    · skip
      refine exf_go 5 (show wpC (d + 133) true 183 [.long z.toInt64, .long 0, .long 1] (uI h 130 0 0) (fun r h' => Go (d + 133) true 279 20 [.ref 130, .int (nI j1), .int y, .int z, mk_, mk_] [r] h' Q) from ?_)
      refine m_within (fun u3 v3 => ?_) (fun u3 => ?_)
      · skip
        obtain ⟨jy, ey, eyq, eyr⟩ := wi_in (n := 2) (by omega) u3 v3
        subst eyq
        show Go (d + 133) true 279 20 [.ref 130, .int (nI j1), .int y, .int (nI jy), mk_, mk_] [.int 1] (uI h 130 0 0) Q
        refine exf_go 1 (show (¬ (1 : Int32) = 0 → Go (d + 133) true 279 27 [.ref 130, .int (nI j1), .int y, .int (nI jy), mk_, mk_] [] (uI h 130 0 0) Q) ∧ (¬ (¬ (1 : Int32) = 0) → Go (d + 133) true 279 23 [.ref 130, .int (nI j1), .int y, .int (nI jy), mk_, mk_] [] (uI h 130 0 0) Q) from ⟨fun c4 => ?_, fun c4 => ?_⟩)
        · skip
          refine exf_go 5 (show wpC (d + 133) true 183 [.long y.toInt64, .long 0, .long 10000] (uI h 130 0 0) (fun r h' => Go (d + 133) true 279 36 [.ref 130, .int (nI j1), .int y, .int (nI jy), mk_, mk_] [r] h' Q) from ?_)
          refine m_within (fun u5 v5 => ?_) (fun u5 => ?_)
          · skip
            obtain ⟨jx, ex, exq, exr⟩ := wi_in (n := 10001) (by omega) u5 v5
            subst exq
            show Go (d + 133) true 279 36 [.ref 130, .int (nI j1), .int (nI jx), .int (nI jy), mk_, mk_] [.int 1] (uI h 130 0 0) Q
            refine exf_go 1 (show (¬ (1 : Int32) = 0 → Go (d + 133) true 279 43 [.ref 130, .int (nI j1), .int (nI jx), .int (nI jy), mk_, mk_] [] (uI h 130 0 0) Q) ∧ (¬ (¬ (1 : Int32) = 0) → Go (d + 133) true 279 39 [.ref 130, .int (nI j1), .int (nI jx), .int (nI jy), mk_, mk_] [] (uI h 130 0 0) Q) from ⟨fun c6 => ?_, fun c6 => ?_⟩)
            · skip
              refine exf_go 2 (show wpC (d + 133) true 228 [.ref 130] (uI h 130 0 0) (fun _ h' => Go (d + 133) true 279 47 [.ref 130, .int (nI j1), .int (nI jx), .int (nI jy), mk_, mk_] [] h' Q) from ?_)
              refine m_laysLeft (ms_fq ms (Fq.uI' Fq.rfl' _ _ _ rfl)) (fun h1 p1 mw1 mo1 => ?_)
              have q1 := Fq.tr (Fq.uI' Fq.rfl' _ _ _ rfl) p1
              have ms1 := ms_fq ms q1
              have hcc := cntN_le (lft g l) (tot g)
              show Go (d + 133) true 279 47 [.ref 130, .int (nI j1), .int (nI jx), .int (nI jy), mk_, mk_] [] h1 Q
              refine exf_go 2 (show Go (d + 133) true 279 51 [.ref 130, .int (nI j1), .int (nI jx), .int (nI jy), mk_, mk_] [.int (rI h1 130 22)] h1 Q from ?_)
              rw [show (rI h1 130 22 : Int32) = nI (cntN (lft g l) (tot g)) from mo1.1]
              refine exf_go 1 (show (¬ (nI (cntN (lft g l) (tot g))) = 0 → Go (d + 133) true 279 58 [.ref 130, .int (nI j1), .int (nI jx), .int (nI jy), mk_, mk_] [] h1 Q) ∧ (¬ (¬ (nI (cntN (lft g l) (tot g))) = 0) → Go (d + 133) true 279 54 [.ref 130, .int (nI j1), .int (nI jx), .int (nI jy), mk_, mk_] [] h1 Q) from ⟨fun c7 => ?_, fun c7 => ?_⟩)
              · skip
                have c7 : ¬ (cntN (lft g l) (tot g)) = 0 := fun q => c7 ((nI_eq (a := (cntN (lft g l) (tot g))) (b := 0) (by omega) (by omega)).mpr q)
                refine exf_go 2 (show wpC (d + 133) true 230 [.ref 130] h1 (fun r h' => Go (d + 133) true 279 62 [.ref 130, .int (nI j1), .int (nI jx), .int (nI jy), mk_, mk_] [r] h' Q) from ?_)
                refine m_weightAll ms1 mw1 mo1 ?_
                have hsL : sumL g l ≤ 1000000000000 := sumN_b (lwt_b ms.1.1 l) _ hN.2
                show Go (d + 133) true 279 62 [.ref 130, .int (nI j1), .int (nI jx), .int (nI jy), mk_, mk_] [.long (lN (sumL g l))] h1 Q
                refine exf_go 5 (show wpC (d + 133) true 278 [.ref 130, .int (nI j1), .int (nI jx)] h1 (fun r h' => Go (d + 133) true 279 70 [.ref 130, .int (nI j1), .int (nI jx), .int (nI jy), .long (lN (sumL g l)), mk_] [r] h' Q) from ?_)
                refine m_guardedBy ms1 (m := j1) (n := jx) (by omega) (by omega) (fun h2 p2 => ?_)
                have q2 := Fq.tr q1 p2
                have ms2 := ms_fq ms q2; have hgb := fGrd_b (l := l) ms.1.1 jx j1
                show Go (d + 133) true 279 70 [.ref 130, .int (nI j1), .int (nI jx), .int (nI jy), .long (lN (sumL g l)), mk_] [.long (lN (fGrd g l jx j1))] h2 Q
                refine exf_go 3 (show wpC (d + 133) true 236 [.long (lN (fGrd g l jx j1)), .long (lN (sumL g l)), .int (nI jy)] h2 (fun r h' => Go (d + 133) true 279 76 [.ref 130, .int (nI j1), .int (nI jx), .int (nI jy), .long (lN (sumL g l)), mk_] [r] h' Q) from ?_)
                have hsp := sumL_pos (l := l) ms.1.1 (by omega)
                refine m_part (u := (fGrd g l jx j1)) (v := (sumL g l)) (by omega) (by omega) (by omega) ?_
                show Go (d + 133) true 279 76 [.ref 130, .int (nI j1), .int (nI jx), .int (nI jy), .long (lN (sumL g l)), mk_] [.long (fPart (fGrd g l jx j1) (sumL g l) (nI jy))] h2 Q
                refine exf_go 1 (show Q (.long (fPart (fGrd g l jx j1) (sumL g l) (nI jy))) h2 from ?_)
                simp only [fGuarded, e1, ey] at k
                simp only [ex] at k; rw [if_neg (show ¬ cntL g l = 0 from c7)] at k
                exact k _ q2
              · skip
                have c7 : (cntN (lft g l) (tot g)) = 0 := (nI_eq (a := (cntN (lft g l) (tot g))) (b := 0) (by omega) (by omega)).mp (Classical.not_not.mp c7)
                refine exf_go 2 (show Q (.long (-5)) h1 from ?_)
                simp only [fGuarded, e1, ey] at k
                simp only [ex] at k; rw [if_pos (show cntL g l = 0 from c7)] at k
                exact k _ q1
            · skip
              exact absurd (by decide) c6
          · skip
            have ex : ixN y 10001 = none := u5.elim wi_neg (wi_ge (n := 10001) (by omega))
            show Go (d + 133) true 279 36 [.ref 130, .int (nI j1), .int y, .int (nI jy), mk_, mk_] [.int 0] (uI h 130 0 0) Q
            refine exf_go 1 (show (¬ (0 : Int32) = 0 → Go (d + 133) true 279 43 [.ref 130, .int (nI j1), .int y, .int (nI jy), mk_, mk_] [] (uI h 130 0 0) Q) ∧ (¬ (¬ (0 : Int32) = 0) → Go (d + 133) true 279 39 [.ref 130, .int (nI j1), .int y, .int (nI jy), mk_, mk_] [] (uI h 130 0 0) Q) from ⟨fun c8 => ?_, fun c8 => ?_⟩)
            · skip
              exact absurd c8 (by decide)
            · skip
              refine exf_go 2 (show Q (.long (-3)) (uI h 130 0 0) from ?_)
              simp only [fGuarded, e1, ey] at k
              simp only [ex] at k
              exact k _ (Fq.uI' Fq.rfl' _ _ _ rfl)
        · skip
          exact absurd (by decide) c4
      · skip
        have ey : ixN z 2 = none := u3.elim wi_neg (wi_ge (n := 2) (by omega))
        show Go (d + 133) true 279 20 [.ref 130, .int (nI j1), .int y, .int z, mk_, mk_] [.int 0] (uI h 130 0 0) Q
        refine exf_go 1 (show (¬ (0 : Int32) = 0 → Go (d + 133) true 279 27 [.ref 130, .int (nI j1), .int y, .int z, mk_, mk_] [] (uI h 130 0 0) Q) ∧ (¬ (¬ (0 : Int32) = 0) → Go (d + 133) true 279 23 [.ref 130, .int (nI j1), .int y, .int z, mk_, mk_] [] (uI h 130 0 0) Q) from ⟨fun c9 => ?_, fun c9 => ?_⟩)
        · skip
          exact absurd c9 (by decide)
        · skip
          refine exf_go 2 (show Q (.long (-2)) (uI h 130 0 0) from ?_)
          simp only [fGuarded, *] at k
          exact k _ (Fq.uI' Fq.rfl' _ _ _ rfl)
  · skip
    show Go (d + 133) true 279 10 [.ref 130, .int x, .int y, .int z, mk_, mk_] [.int 0] (uI h 130 0 0) Q
    refine exf_go 1 (show ((0 : Int32) = 0 → Go (d + 133) true 279 23 [.ref 130, .int x, .int y, .int z, mk_, mk_] [] (uI h 130 0 0) Q) ∧ (¬ ((0 : Int32) = 0) → Go (d + 133) true 279 13 [.ref 130, .int x, .int y, .int z, mk_, mk_] [] (uI h 130 0 0) Q) from ⟨fun c10 => ?_, fun c10 => ?_⟩)
    · skip
      refine exf_go 2 (show Q (.long (-2)) (uI h 130 0 0) from ?_)
      simp only [fGuarded, *] at k
      exact k _ (Fq.uI' Fq.rfl' _ _ _ rfl)
    · skip
      exact absurd (by decide) c10
theorem m_danger {d : Nat} {h : Hp} {g : ShG} {l : LkG} {x : Int32} {Q : Po} (ms : MS g l h) (k : ∀ h1, Fq scM h h1 → Q (.int (fDanger g l x)) h1) : wpC (d + 7) true 280 [.ref 130, .int x] h Q := by
  have hN := tot_b ms.1.1
  have h4 := ms.1.1.1
  have h8 := ms.1.1.2.2.2.1
  have he := evr_b ms.1.1
  have hev : evr g = 2 ^ sC g - 1 := rfl
  have hm4 := ms.1.1.2.2.2.2.2.1
  have hkb := ms.1.1.2.2.2.2.2.2.1
  refine go_in rfl ?_
  refine exf_go 8 (show wpC (d + 6) true 183 [.long x.toInt64, .long 0, .long 10000] (uI h 130 0 0) (fun r h' => Go (d + 6) true 280 14 [.ref 130, .int x, mk_, mk_, mk_, mk_, mk_, mk_] [r] h' Q) from ?_)
  refine m_within (fun u1 v1 => ?_) (fun u1 => ?_)
  · skip
    obtain ⟨jx, ex, exq, exr⟩ := wi_in (n := 10001) (by omega) u1 v1
    subst exq
    show Go (d + 6) true 280 14 [.ref 130, .int (nI jx), mk_, mk_, mk_, mk_, mk_, mk_] [.int 1] (uI h 130 0 0) Q
    refine exf_go 1 (show (¬ (1 : Int32) = 0 → Go (d + 6) true 280 20 [.ref 130, .int (nI jx), mk_, mk_, mk_, mk_, mk_, mk_] [] (uI h 130 0 0) Q) ∧ (¬ (¬ (1 : Int32) = 0) → Go (d + 6) true 280 17 [.ref 130, .int (nI jx), mk_, mk_, mk_, mk_, mk_, mk_] [] (uI h 130 0 0) Q) from ⟨fun c2 => ?_, fun c2 => ?_⟩)
    · skip
      refine exf_go 2 (show wpC (d + 6) true 228 [.ref 130] (uI h 130 0 0) (fun _ h' => Go (d + 6) true 280 24 [.ref 130, .int (nI jx), mk_, mk_, mk_, mk_, mk_, mk_] [] h' Q) from ?_)
      refine m_laysLeft (ms_fq ms (Fq.uI' Fq.rfl' _ _ _ rfl)) (fun h1 p1 mw1 mo1 => ?_)
      have q1 := Fq.tr (Fq.uI' Fq.rfl' _ _ _ rfl) p1
      have ms1 := ms_fq ms q1
      have hcc := cntN_le (lft g l) (tot g)
      show Go (d + 6) true 280 24 [.ref 130, .int (nI jx), mk_, mk_, mk_, mk_, mk_, mk_] [] h1 Q
      refine exf_go 2 (show Go (d + 6) true 280 28 [.ref 130, .int (nI jx), mk_, mk_, mk_, mk_, mk_, mk_] [.int (rI h1 130 22)] h1 Q from ?_)
      rw [show (rI h1 130 22 : Int32) = nI (cntN (lft g l) (tot g)) from mo1.1]
      refine exf_go 1 (show (¬ (nI (cntN (lft g l) (tot g))) = 0 → Go (d + 6) true 280 34 [.ref 130, .int (nI jx), mk_, mk_, mk_, mk_, mk_, mk_] [] h1 Q) ∧ (¬ (¬ (nI (cntN (lft g l) (tot g))) = 0) → Go (d + 6) true 280 31 [.ref 130, .int (nI jx), mk_, mk_, mk_, mk_, mk_, mk_] [] h1 Q) from ⟨fun c3 => ?_, fun c3 => ?_⟩)
      · skip
        have c3 : ¬ (cntN (lft g l) (tot g)) = 0 := fun q => c3 ((nI_eq (a := (cntN (lft g l) (tot g))) (b := 0) (by omega) (by omega)).mpr q)
        refine exf_go 6 (show Go (d + 6) true 280 41 [.ref 130, .int (nI jx), .int (-1), .long 0, mk_, .int 0, mk_, mk_] [] h1 Q from ?_)
        have L41 : ∀ (k41 : Nat) (z6 : Value) (n : Nat) (o : Option Nat) (m : Nat) (h2 : Hp), (sM g - n) < k41 → (n ≤ sM g) → (Fq scM h h2) → ((o, m) = mxF (fun _ => true) (fGrd g l jx) n) → Go (d + 6) true 280 41 [.ref 130, .int (nI jx), .int (oI o), .long (lN m), mk_, .int (nI n), z6, mk_] [] h2 Q := by
          intro k41
          induction k41 with
          | zero => intro z6 n o m h2 hk; exact absurd hk (Nat.not_lt_zero _)
          | succ k41 ih41 =>
            intro z6 n o m h2 hk hn q2 hs
            have hm : m ≤ 1000000000000 := by have := mxF_le (p := fun _ => true) (f := fGrd g l jx) (fun k => fGrd_b ms.1.1 jx k) n; rw [← hs] at this; exact this
            have hob : ∀ b, o = some b → b < n := by intro b e; exact (mxF_b (p := fun _ => true) (f := fGrd g l jx) n b (by rw [← hs]; exact e)).1
            have ms2 := ms_fq ms q2
            rcases o with _ | b
            · skip
              show Go (d + 6) true 280 41 [.ref 130, .int (nI jx), .int (-1), .long (lN m), mk_, .int (nI n), z6, mk_] [] h2 Q
              refine exf_go 5 (show vp_in 3 41523 ∧ (Go (d + 6) true 280 49 [.ref 130, .int (nI jx), .int (-1), .long (lN m), mk_, .int (nI n), z6, mk_] [.int (rI h2 131 3), .int (nI n)] h2 Q) from ⟨(vp_in_nI (n := 3) (by decide) (by decide)), ?_⟩)
              rw [show (rI h2 131 3 : Int32) = nI (sM g) from ms_M ms2]
              refine exf_go 1 (show ((nI (sM g)) ≤ (nI n) → Go (d + 6) true 280 88 [.ref 130, .int (nI jx), .int (-1), .long (lN m), mk_, .int (nI n), z6, mk_] [] h2 Q) ∧ (¬ ((nI (sM g)) ≤ (nI n)) → Go (d + 6) true 280 52 [.ref 130, .int (nI jx), .int (-1), .long (lN m), mk_, .int (nI n), z6, mk_] [] h2 Q) from ⟨fun c4 => ?_, fun c4 => ?_⟩)
              · skip
                have c4 : (sM g) ≤ n := (nI_leI (a := (sM g)) (b := n) (by omega) (by omega)).mp c4
                refine exf_go 2 (show Q (.int (-1)) h2 from ?_)
                simp only [fDanger, ex] at k
                have e : n = sM g := by omega
                subst e
                rw [if_neg (show ¬ cntL g l = 0 from c3), ← hs] at k
                exact k _ q2
              · skip
                have c4 : ¬ (sM g) ≤ n := fun q => c4 ((nI_leI (a := (sM g)) (b := n) (by omega) (by omega)).mpr q)
                refine exf_go 4 (show wpC (d + 6) true 278 [.ref 130, .int (nI n), .int (nI jx)] h2 (fun r h' => Go (d + 6) true 280 59 [.ref 130, .int (nI jx), .int (-1), .long (lN m), mk_, .int (nI n), z6, mk_] [r] h' Q) from ?_)
                refine m_guardedBy ms2 (m := n) (n := jx) (by omega) (by omega) (fun h3 p3 => ?_)
                have q3 := Fq.tr q2 p3
                have ms3 := ms_fq ms q3; have hgb := fGrd_b (l := l) ms.1.1 jx n
                show Go (d + 6) true 280 59 [.ref 130, .int (nI jx), .int (-1), .long (lN m), mk_, .int (nI n), z6, mk_] [.long (lN (fGrd g l jx n))] h3 Q
                refine exf_go 4 (show (((-1) : Int32) = (-1) → Go (d + 6) true 280 76 [.ref 130, .int (nI jx), .int (-1), .long (lN m), mk_, .int (nI n), .long (lN (fGrd g l jx n)), mk_] [] h3 Q) ∧ (¬ (((-1) : Int32) = (-1)) → Go (d + 6) true 280 66 [.ref 130, .int (nI jx), .int (-1), .long (lN m), mk_, .int (nI n), .long (lN (fGrd g l jx n)), mk_] [] h3 Q) from ⟨fun c5 => ?_, fun c5 => ?_⟩)
                · skip
                  refine exf_go 5 (show Go (d + 6) true 280 85 [.ref 130, .int (nI jx), .int (nI n), .long (lN (fGrd g l jx n)), mk_, .int ((nI n) + 1), .long (lN (fGrd g l jx n)), mk_] [] h3 Q from ?_)
                  rw [show ((nI n) + 1 : Int32) = nI (n + 1) from nI_add n 1]
                  refine exf_go 1 (show Go (d + 6) true 280 41 [.ref 130, .int (nI jx), .int (nI n), .long (lN (fGrd g l jx n)), mk_, .int (nI (n + 1)), .long (lN (fGrd g l jx n)), mk_] [] h3 Q from ?_)
                  exact ih41 (.long (lN (fGrd g l jx n))) (n + 1) (some n) (fGrd g l jx n) h3 (by omega) (by omega) q3 (by first | exact mx_first hs rfl | exact mx_more hs rfl (by omega) | exact mx_less hs rfl (by omega))
                · skip
                  exact absurd (by decide) c5
            · skip
              have := hob b rfl
              show Go (d + 6) true 280 41 [.ref 130, .int (nI jx), .int (nI b), .long (lN m), mk_, .int (nI n), z6, mk_] [] h2 Q
              refine exf_go 5 (show vp_in 3 41523 ∧ (Go (d + 6) true 280 49 [.ref 130, .int (nI jx), .int (nI b), .long (lN m), mk_, .int (nI n), z6, mk_] [.int (rI h2 131 3), .int (nI n)] h2 Q) from ⟨(vp_in_nI (n := 3) (by decide) (by decide)), ?_⟩)
              rw [show (rI h2 131 3 : Int32) = nI (sM g) from ms_M ms2]
              refine exf_go 1 (show ((nI (sM g)) ≤ (nI n) → Go (d + 6) true 280 88 [.ref 130, .int (nI jx), .int (nI b), .long (lN m), mk_, .int (nI n), z6, mk_] [] h2 Q) ∧ (¬ ((nI (sM g)) ≤ (nI n)) → Go (d + 6) true 280 52 [.ref 130, .int (nI jx), .int (nI b), .long (lN m), mk_, .int (nI n), z6, mk_] [] h2 Q) from ⟨fun c6 => ?_, fun c6 => ?_⟩)
              · skip
                have c6 : (sM g) ≤ n := (nI_leI (a := (sM g)) (b := n) (by omega) (by omega)).mp c6
                refine exf_go 2 (show Q (.int (nI b)) h2 from ?_)
                simp only [fDanger, ex] at k
                have e : n = sM g := by omega
                subst e
                rw [if_neg (show ¬ cntL g l = 0 from c3), ← hs] at k
                exact k _ q2
              · skip
                have c6 : ¬ (sM g) ≤ n := fun q => c6 ((nI_leI (a := (sM g)) (b := n) (by omega) (by omega)).mpr q)
                refine exf_go 4 (show wpC (d + 6) true 278 [.ref 130, .int (nI n), .int (nI jx)] h2 (fun r h' => Go (d + 6) true 280 59 [.ref 130, .int (nI jx), .int (nI b), .long (lN m), mk_, .int (nI n), z6, mk_] [r] h' Q) from ?_)
                refine m_guardedBy ms2 (m := n) (n := jx) (by omega) (by omega) (fun h3 p3 => ?_)
                have q3 := Fq.tr q2 p3
                have ms3 := ms_fq ms q3; have hgb := fGrd_b (l := l) ms.1.1 jx n
                show Go (d + 6) true 280 59 [.ref 130, .int (nI jx), .int (nI b), .long (lN m), mk_, .int (nI n), z6, mk_] [.long (lN (fGrd g l jx n))] h3 Q
                refine exf_go 4 (show ((nI b) = (-1) → Go (d + 6) true 280 76 [.ref 130, .int (nI jx), .int (nI b), .long (lN m), mk_, .int (nI n), .long (lN (fGrd g l jx n)), mk_] [] h3 Q) ∧ (¬ ((nI b) = (-1)) → Go (d + 6) true 280 66 [.ref 130, .int (nI jx), .int (nI b), .long (lN m), mk_, .int (nI n), .long (lN (fGrd g l jx n)), mk_] [] h3 Q) from ⟨fun c7 => ?_, fun c7 => ?_⟩)
                · skip
                  exact absurd c7 (ng_eq (by omega) (by decide))
                · skip
                  refine exf_go 4 (show (0 < (lg_cmp (lN (fGrd g l jx n)) (lN m)) → Go (d + 6) true 280 76 [.ref 130, .int (nI jx), .int (nI b), .long (lN m), mk_, .int (nI n), .long (lN (fGrd g l jx n)), mk_] [] h3 Q) ∧ (¬ (0 < (lg_cmp (lN (fGrd g l jx n)) (lN m))) → Go (d + 6) true 280 73 [.ref 130, .int (nI jx), .int (nI b), .long (lN m), mk_, .int (nI n), .long (lN (fGrd g l jx n)), mk_] [] h3 Q) from ⟨fun c8 => ?_, fun c8 => ?_⟩)
                  · skip
                    have c8 : (lN m) < (lN (fGrd g l jx n)) := (lg_cmp_gt _ _).mp c8
                    have c8 : m < (fGrd g l jx n) := (pk_lLT (a := m) (b := (fGrd g l jx n)) (by omega) (by omega)).mp c8
                    refine exf_go 5 (show Go (d + 6) true 280 85 [.ref 130, .int (nI jx), .int (nI n), .long (lN (fGrd g l jx n)), mk_, .int ((nI n) + 1), .long (lN (fGrd g l jx n)), mk_] [] h3 Q from ?_)
                    rw [show ((nI n) + 1 : Int32) = nI (n + 1) from nI_add n 1]
                    refine exf_go 1 (show Go (d + 6) true 280 41 [.ref 130, .int (nI jx), .int (nI n), .long (lN (fGrd g l jx n)), mk_, .int (nI (n + 1)), .long (lN (fGrd g l jx n)), mk_] [] h3 Q from ?_)
                    exact ih41 (.long (lN (fGrd g l jx n))) (n + 1) (some n) (fGrd g l jx n) h3 (by omega) (by omega) q3 (by first | exact mx_first hs rfl | exact mx_more hs rfl (by omega) | exact mx_less hs rfl (by omega))
                  · skip
                    have c8 : ¬ ((lN m) < (lN (fGrd g l jx n))) := fun q => c8 ((lg_cmp_gt _ _).mpr q)
                    have c8 : ¬ (m < (fGrd g l jx n)) := fun q => c8 ((pk_lLT (a := m) (b := (fGrd g l jx n)) (by omega) (by omega)).mpr q)
                    refine exf_go 2 (show Go (d + 6) true 280 85 [.ref 130, .int (nI jx), .int (nI b), .long (lN m), mk_, .int ((nI n) + 1), .long (lN (fGrd g l jx n)), mk_] [] h3 Q from ?_)
                    rw [show ((nI n) + 1 : Int32) = nI (n + 1) from nI_add n 1]
                    refine exf_go 1 (show Go (d + 6) true 280 41 [.ref 130, .int (nI jx), .int (nI b), .long (lN m), mk_, .int (nI (n + 1)), .long (lN (fGrd g l jx n)), mk_] [] h3 Q from ?_)
                    exact ih41 (.long (lN (fGrd g l jx n))) (n + 1) (some b) m h3 (by omega) (by omega) q3 (by first | exact mx_first hs rfl | exact mx_more hs rfl (by omega) | exact mx_less hs rfl (by omega))
        exact L41 (sM g + 1) mk_ 0 none 0 h1 (by omega) (by omega) q1 rfl
      · skip
        have c3 : (cntN (lft g l) (tot g)) = 0 := (nI_eq (a := (cntN (lft g l) (tot g))) (b := 0) (by omega) (by omega)).mp (Classical.not_not.mp c3)
        refine exf_go 2 (show Q (.int (-5)) h1 from ?_)
        simp only [fDanger, ex] at k
        rw [if_pos (show cntL g l = 0 from c3)] at k
        exact k _ q1
    · skip
      exact absurd (by decide) c2
  · skip
    have ex : ixN x 10001 = none := u1.elim wi_neg (wi_ge (n := 10001) (by omega))
    show Go (d + 6) true 280 14 [.ref 130, .int x, mk_, mk_, mk_, mk_, mk_, mk_] [.int 0] (uI h 130 0 0) Q
    refine exf_go 1 (show (¬ (0 : Int32) = 0 → Go (d + 6) true 280 20 [.ref 130, .int x, mk_, mk_, mk_, mk_, mk_, mk_] [] (uI h 130 0 0) Q) ∧ (¬ (¬ (0 : Int32) = 0) → Go (d + 6) true 280 17 [.ref 130, .int x, mk_, mk_, mk_, mk_, mk_, mk_] [] (uI h 130 0 0) Q) from ⟨fun c9 => ?_, fun c9 => ?_⟩)
    · skip
      exact absurd c9 (by decide)
    · skip
      refine exf_go 2 (show Q (.int (-3)) (uI h 130 0 0) from ?_)
      simp only [fDanger, ex] at k
      exact k _ (Fq.uI' Fq.rfl' _ _ _ rfl)
theorem m_both {d : Nat} {h : Hp} {g : ShG} {l : LkG} {x y : Int32} {Q : Po} (ms : MS g l h) (k : ∀ h1, Fq scM h h1 → Q (.int (fBoth g l x y)) h1) : wpC (d + 6) true 281 [.ref 130, .int x, .int y] h Q := by
  have hN := tot_b ms.1.1
  have h4 := ms.1.1.1
  have h8 := ms.1.1.2.2.2.1
  have he := evr_b ms.1.1
  have hev : evr g = 2 ^ sC g - 1 := rfl
  have hm4 := ms.1.1.2.2.2.2.2.1
  have hkb := ms.1.1.2.2.2.2.2.2.1
  refine go_in rfl ?_
  refine exf_go 6 (show wpC (d + 5) true 276 [.ref 130, .int x] (uI h 130 0 0) (fun r h' => Go (d + 5) true 281 10 [.ref 130, .int x, .int y] [r] h' Q) from ?_)
  refine m_isMate (x := x) (ms_fq ms (Fq.uI' Fq.rfl' _ _ _ rfl)) (fun j1 e1 q1 r1 => ?_) (fun e1 => ?_)
  · skip
    subst q1
    show Go (d + 5) true 281 10 [.ref 130, .int (nI j1), .int y] [.int 1] (uI h 130 0 0) Q
    refine exf_go 1 (show ((1 : Int32) = 0 → Go (d + 5) true 281 21 [.ref 130, .int (nI j1), .int y] [] (uI h 130 0 0) Q) ∧ (¬ ((1 : Int32) = 0) → Go (d + 5) true 281 13 [.ref 130, .int (nI j1), .int y] [] (uI h 130 0 0) Q) from ⟨fun c2 => ?_, fun c2 => ?_⟩)
    · skip
      exact absurd c2 (by decide)
    · skip
      refine exf_go 3 (show wpC (d + 5) true 276 [.ref 130, .int y] (uI h 130 0 0) (fun r h' => Go (d + 5) true 281 18 [.ref 130, .int (nI j1), .int y] [r] h' Q) from ?_)
      refine m_isMate (x := y) (ms_fq ms (Fq.uI' Fq.rfl' _ _ _ rfl)) (fun j3 e3 q3 r3 => ?_) (fun e3 => ?_)
      · skip
        subst q3
        show Go (d + 5) true 281 18 [.ref 130, .int (nI j1), .int (nI j3)] [.int 1] (uI h 130 0 0) Q
        refine exf_go 1 (show (¬ (1 : Int32) = 0 → Go (d + 5) true 281 24 [.ref 130, .int (nI j1), .int (nI j3)] [] (uI h 130 0 0) Q) ∧ (¬ (¬ (1 : Int32) = 0) → Go (d + 5) true 281 21 [.ref 130, .int (nI j1), .int (nI j3)] [] (uI h 130 0 0) Q) from ⟨fun c4 => ?_, fun c4 => ?_⟩)
        · skip
          refine exf_go 6 (show Go (d + 5) true 281 33 [.ref 130, .int (nI j1), .int (nI j3)] [.int (46 + (nI j1)), .ref 131, .ref 130] (uI h 130 0 0) Q from ?_)
          rw [show (46 + (nI j1) : Int32) = nI (46 + j1) from nI_add 46 j1]
          refine exf_go 1 (show vp_in (nI (46 + j1)) 41523 ∧ (Go (d + 5) true 281 34 [.ref 130, .int (nI j1), .int (nI j3)] [.int (rI h 131 ((nI (46 + j1)).toNatClampNeg)), .ref 130] (uI h 130 0 0) Q) from ⟨(vp_in_nI (by omega) (by omega)), ?_⟩)
          rw [show (rI h 131 ((nI (46 + j1)).toNatClampNeg) : Int32) = nI (sK g j1) from ms_K ms (n := j1) (by omega)]
          refine exf_go 5 (show Go (d + 5) true 281 42 [.ref 130, .int (nI j1), .int (nI j3)] [.int (46 + (nI j3)), .ref 131, .int (nI (sK g j1)), .ref 130] (uI h 130 0 0) Q from ?_)
          rw [show (46 + (nI j3) : Int32) = nI (46 + j3) from nI_add 46 j3]
          refine exf_go 1 (show vp_in (nI (46 + j3)) 41523 ∧ (Go (d + 5) true 281 43 [.ref 130, .int (nI j1), .int (nI j3)] [.int (rI h 131 ((nI (46 + j3)).toNatClampNeg)), .int (nI (sK g j1)), .ref 130] (uI h 130 0 0) Q) from ⟨(vp_in_nI (by omega) (by omega)), ?_⟩)
          rw [show (rI h 131 ((nI (46 + j3)).toNatClampNeg) : Int32) = nI (sK g j3) from ms_K ms (n := j3) (by omega)]
          refine exf_go 1 (show Go (d + 5) true 281 44 [.ref 130, .int (nI j1), .int (nI j3)] [.int ((nI (sK g j1)) ||| (nI (sK g j3))), .ref 130] (uI h 130 0 0) Q from ?_)
          rw [show ((nI (sK g j1)) ||| (nI (sK g j3)) : Int32) = nI ((sK g j1) ||| (sK g j3)) from nI_or (sK g j1) (sK g j3)]
          refine exf_go 2 (show wpC (d + 5) true 227 [.ref 130, .int (nI ((sK g j1) ||| (sK g j3))), .int 0] (uI h 130 0 0) (fun _ h' => Go (d + 5) true 281 48 [.ref 130, .int (nI j1), .int (nI j3)] [] h' Q) from ?_)
          have hor : sK g j1 ||| sK g j3 < 2 ^ sC g := Nat.or_lt_two_pow (hkb j1) (hkb j3)
          have hkn1 : ((sK g j1) ||| (sK g j3)) < 256 := by first | omega | (have := hkb j1; omega)
          refine m_laysOrder0 (ms_fq ms (Fq.uI' Fq.rfl' _ _ _ rfl)) hkn1 (fun h1 p1 mw1 mo1 => ?_)
          have q1 := Fq.tr (Fq.uI' Fq.rfl' _ _ _ rfl) p1
          have ms1 := ms_fq ms q1
          have hcc1 := cntN_le (elg g l ((sK g j1) ||| (sK g j3)) false) (tot g)
          show Go (d + 5) true 281 48 [.ref 130, .int (nI j1), .int (nI j3)] [] h1 Q
          refine exf_go 2 (show Go (d + 5) true 281 52 [.ref 130, .int (nI j1), .int (nI j3)] [.int (rI h1 130 22)] h1 Q from ?_)
          rw [show (rI h1 130 22 : Int32) = nI (cntN (elg g l ((sK g j1) ||| (sK g j3)) false) (tot g)) from mo1.1]
          refine exf_go 1 (show Q (.int (nI (cntN (elg g l ((sK g j1) ||| (sK g j3)) false) (tot g)))) h1 from ?_)
          simp only [fBoth, e1, e3] at k
          exact k _ q1
        · skip
          exact absurd (by decide) c4
      · skip
        show Go (d + 5) true 281 18 [.ref 130, .int (nI j1), .int y] [.int 0] (uI h 130 0 0) Q
        refine exf_go 1 (show (¬ (0 : Int32) = 0 → Go (d + 5) true 281 24 [.ref 130, .int (nI j1), .int y] [] (uI h 130 0 0) Q) ∧ (¬ (¬ (0 : Int32) = 0) → Go (d + 5) true 281 21 [.ref 130, .int (nI j1), .int y] [] (uI h 130 0 0) Q) from ⟨fun c5 => ?_, fun c5 => ?_⟩)
        · skip
          exact absurd c5 (by decide)
        · skip
          refine exf_go 2 (show Q (.int (-2)) (uI h 130 0 0) from ?_)
          simp only [fBoth, *] at k
          exact k _ (Fq.uI' Fq.rfl' _ _ _ rfl)
  · skip
    show Go (d + 5) true 281 10 [.ref 130, .int x, .int y] [.int 0] (uI h 130 0 0) Q
    refine exf_go 1 (show ((0 : Int32) = 0 → Go (d + 5) true 281 21 [.ref 130, .int x, .int y] [] (uI h 130 0 0) Q) ∧ (¬ ((0 : Int32) = 0) → Go (d + 5) true 281 13 [.ref 130, .int x, .int y] [] (uI h 130 0 0) Q) from ⟨fun c6 => ?_, fun c6 => ?_⟩)
    · skip
      refine exf_go 2 (show Q (.int (-2)) (uI h 130 0 0) from ?_)
      simp only [fBoth, *] at k
      exact k _ (Fq.uI' Fq.rfl' _ _ _ rfl)
    · skip
      exact absurd (by decide) c6
