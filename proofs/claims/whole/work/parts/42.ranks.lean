/-! The model's ranks. -/
/-- no k before differs not from i -/
def dif (f : Nat → Nat) (i : Nat) : Nat → Bool
  | 0 => true
  | k + 1 => dif f i k && decide (¬ f k = f i)
theorem dif_stay {f : Nat → Nat} {i k : Nat} (h : dif f i k = false) : ∀ j, dif f i (k + j) = false
  | 0 => h
  | j + 1 => by rw [← Nat.add_assoc, dif, dif_stay h j]; rfl
theorem dif_end {f : Nat → Nat} {i k n : Nat} (h : dif f i k = false) (hk : k ≤ n) : dif f i n = false := by
  have := dif_stay h (n - k)
  rwa [show k + (n - k) = n from by omega] at this
def b2n (b : Bool) : Nat := if b then 1 else 0
theorem b2n_le (b : Bool) : b2n b ≤ 1 := by cases b <;> decide
/-- how many unlike values of f, up to n, lie above f m -/
def rkF (f : Nat → Nat) (m n : Nat) : Nat := cntN (fun i => dif f i i && decide (f m < f i)) n
theorem b2n_0 {b : Bool} (h : b2n b = 0) : b = false := match b, h with
  | false, _ => rfl
  | true, h => absurd h (by decide)
theorem b2n_1 {b : Bool} (h : ¬ b2n b = 0) : b = true := match b, h with
  | true, _ => rfl
  | false, h => absurd rfl h
theorem rk_0 {f : Nat → Nat} {m i : Nat} (h : dif f i i = false) : rkF f m i + 0 = rkF f m (i + 1) := cn_n rfl (by show (dif f i i && _) = false; rw [h]; rfl)
theorem rk_le {f : Nat → Nat} {m i : Nat} (h : f i ≤ f m) : rkF f m i + 0 = rkF f m (i + 1) := cn_n rfl (by show (dif f i i && decide (f m < f i)) = false; rw [decide_eq_false (by omega), Bool.and_false])
theorem rk_1 {f : Nat → Nat} {m i : Nat} (h : dif f i i = true) (h2 : ¬ f i ≤ f m) : rkF f m i + 1 = rkF f m (i + 1) := cn_y rfl (by show (dif f i i && decide (f m < f i)) = true; rw [h, decide_eq_true (by omega)]; rfl)
theorem dif_y {f : Nat → Nat} {i k : Nat} (h : ¬ b2n (dif f i k) = 0) (h2 : ¬ f k = f i) : 1 = b2n (dif f i (k + 1)) := by rw [dif, b2n_1 h, decide_eq_true h2]; rfl
theorem dif_n {f : Nat → Nat} {i k : Nat} (h2 : f k = f i) : 0 = b2n (dif f i (k + 1)) := by rw [dif, decide_eq_false (fun q => q h2), Bool.and_false]; rfl
theorem rkF_le (f : Nat → Nat) (m n : Nat) : rkF f m n ≤ n := cntN_le _ n
def MR (g : ShG) (kn : Nat) (h : Hp) : Prop := ∀ m, m < 2 ^ sC g → rI h 138 m = nI (rkF (wtK g kn) m (2 ^ sC g))
theorem mw_fq {g : ShG} {kn : Nat} {h h1 : Hp} (mw : MW g kn h) (e : rJ h1 137 = rJ h 137) : MW g kn h1 := ⟨mw.1, fun m hm => by rw [e]; exact mw.2 m hm⟩
theorem m_laysRanks {d : Nat} {h : Hp} {g : ShG} {l : LkG} {kn : Nat} {Q : Po} (ms : MS g l h) (hk0 : kn < 256) (k : ∀ h1, Fq scM h h1 → MW g kn h1 → MR g kn h1 → Q mk_ h1) : wpC (d + 3) true 225 [.ref 130, .int (nI kn)] h Q := by
  have h8 := ms.1.1.2.2.2.1
  have he := evr_b ms.1.1
  have hev : evr g = 2 ^ sC g - 1 := rfl
  have hwb := fun m => wtK_b ms.1.1 kn m
  refine go_in rfl ?_
  refine exf_go 2 (show Go (d + 2) true 225 2 [.ref 130, .int (nI kn), .int 0, mk_, mk_, mk_] [] h Q from ?_)
  have L2 : ∀ (k2 : Nat) (z3 z4 z5 : Value) (m : Nat) (h1 : Hp), (256 - m) < k2 → (m ≤ 256) → (Fq scM h h1) → (∀ j, j < m → rJ h1 137 j = lN (if j ≤ evr g then wtK g kn j else 0)) → Go (d + 2) true 225 2 [.ref 130, .int (nI kn), .int (nI m), z3, z4, z5] [] h1 Q := by
    intro k2
    induction k2 with
    | zero => intro z3 z4 z5 m h1 hk; exact absurd hk (Nat.not_lt_zero _)
    | succ k2 ih2 =>
      intro z3 z4 z5 m h1 hk hm q1 hw
      have ms1 := ms_fq ms q1
      refine exf_go 3 (show (256 ≤ (nI m) → Go (d + 2) true 225 39 [.ref 130, .int (nI kn), .int (nI m), z3, z4, z5] [] h1 Q) ∧ (¬ (256 ≤ (nI m)) → Go (d + 2) true 225 9 [.ref 130, .int (nI kn), .int (nI m), z3, z4, z5] [] h1 Q) from ⟨fun c1 => ?_, fun c1 => ?_⟩)
      · skip
        have c1 : 256 ≤ m := (nI_leI (a := 256) (b := m) (by omega) (by omega)).mp c1
        refine exf_go 2 (show Go (d + 2) true 225 41 [.ref 130, .int (nI kn), .int 0, z3, z4, z5] [] h1 Q from ?_)
        have L41 : ∀ (k41 : Nat) (z3 z4 z5 : Value) (m : Nat) (h2 : Hp), (257 - m) < k41 → (m ≤ 2 ^ sC g) → (Fq scM h h2) → (MW g kn h2) → (∀ j, j < m → rI h2 138 j = nI (rkF (wtK g kn) j (2 ^ sC g))) → Go (d + 2) true 225 41 [.ref 130, .int (nI kn), .int (nI m), z3, z4, z5] [] h2 Q := by
          intro k41
          induction k41 with
          | zero => intro z3 z4 z5 m h2 hk; exact absurd hk (Nat.not_lt_zero _)
          | succ k41 ih41 =>
            intro z3 z4 z5 m h2 hk hm2 q2 mw2 hr
            have ms2 := ms_fq ms q2
            refine exf_go 3 (show wpC (d + 2) true 223 [.ref 130] h2 (fun r h' => Go (d + 2) true 225 46 [.ref 130, .int (nI kn), .int (nI m), z3, z4, z5] [r, .int (nI m)] h' Q) from ?_)
            refine m_every ms2 ?_
            show Go (d + 2) true 225 46 [.ref 130, .int (nI kn), .int (nI m), z3, z4, z5] [.int (nI (evr g)), .int (nI m)] h2 Q
            refine exf_go 1 (show ((nI (evr g)) < (nI m) → Go (d + 2) true 225 160 [.ref 130, .int (nI kn), .int (nI m), z3, z4, z5] [] h2 Q) ∧ (¬ ((nI (evr g)) < (nI m)) → Go (d + 2) true 225 49 [.ref 130, .int (nI kn), .int (nI m), z3, z4, z5] [] h2 Q) from ⟨fun c2 => ?_, fun c2 => ?_⟩)
            · skip
              have c2 : (evr g) < m := (nI_ltI (a := (evr g)) (b := m) (by omega) (by omega)).mp c2
              refine exf_go 1 (show Q (mk_) h2 from ?_)
              exact k h2 q2 mw2 (fun j hj => hr j (by omega))
            · skip
              have c2 : ¬ (evr g) < m := fun q => c2 ((nI_ltI (a := (evr g)) (b := m) (by omega) (by omega)).mpr q)
              refine exf_go 7 (show vp_in (nI m) 256 ∧ (Go (d + 2) true 225 58 [.ref 130, .int (nI kn), .int (nI m), .int 0, z4, z5] [] (uI h2 138 ((nI m).toNatClampNeg) 0) Q) from ⟨(vp_in_nI (by omega) (by omega)), ?_⟩)
              have L58 : ∀ (k58 : Nat) (z4 z5 : Value) (i : Nat) (h3 : Hp), (257 - i) < k58 → (i ≤ 2 ^ sC g) → (Fq scM h h3) → (MW g kn h3) → (∀ j, j < m → rI h3 138 j = nI (rkF (wtK g kn) j (2 ^ sC g))) → (rI h3 138 m = nI (rkF (wtK g kn) m i)) → Go (d + 2) true 225 58 [.ref 130, .int (nI kn), .int (nI m), .int (nI i), z4, z5] [] h3 Q := by
                intro k58
                induction k58 with
                | zero => intro z4 z5 i h3 hk; exact absurd hk (Nat.not_lt_zero _)
                | succ k58 ih58 =>
                  intro z4 z5 i h3 hk hi q3 mw3 hr3 hrm
                  have ms3 := ms_fq ms q3
                  have w1 := hwb i; have w2 := hwb m; have w3 := rkF_le (wtK g kn) m i
                  refine exf_go 3 (show wpC (d + 2) true 223 [.ref 130] h3 (fun r h' => Go (d + 2) true 225 63 [.ref 130, .int (nI kn), .int (nI m), .int (nI i), z4, z5] [r, .int (nI i)] h' Q) from ?_)
                  refine m_every ms3 ?_
                  show Go (d + 2) true 225 63 [.ref 130, .int (nI kn), .int (nI m), .int (nI i), z4, z5] [.int (nI (evr g)), .int (nI i)] h3 Q
                  refine exf_go 1 (show ((nI (evr g)) < (nI i) → Go (d + 2) true 225 154 [.ref 130, .int (nI kn), .int (nI m), .int (nI i), z4, z5] [] h3 Q) ∧ (¬ ((nI (evr g)) < (nI i)) → Go (d + 2) true 225 66 [.ref 130, .int (nI kn), .int (nI m), .int (nI i), z4, z5] [] h3 Q) from ⟨fun c3 => ?_, fun c3 => ?_⟩)
                  · skip
                    have c3 : (evr g) < i := (nI_ltI (a := (evr g)) (b := i) (by omega) (by omega)).mp c3
                    refine exf_go 1 (show Go (d + 2) true 225 157 [.ref 130, .int (nI kn), .int ((nI m) + 1), .int (nI i), z4, z5] [] h3 Q from ?_)
                    rw [show ((nI m) + 1 : Int32) = nI (m + 1) from nI_add m 1]
                    refine exf_go 1 (show Go (d + 2) true 225 41 [.ref 130, .int (nI kn), .int (nI (m + 1)), .int (nI i), z4, z5] [] h3 Q from ?_)
                    exact ih41 (.int (nI i)) z4 z5 (m + 1) h3 (by omega) (by omega) q3 mw3 (fun j hj => (Decidable.em (j = m)).elim (fun e => by rw [e, hrm, show i = 2 ^ sC g from by omega]) (fun e => hr3 j (by omega)))
                  · skip
                    have c3 : ¬ (evr g) < i := fun q => c3 ((nI_ltI (a := (evr g)) (b := i) (by omega) (by omega)).mpr q)
                    refine exf_go 4 (show Go (d + 2) true 225 72 [.ref 130, .int (nI kn), .int (nI m), .int (nI i), .int 1, .int 0] [] h3 Q from ?_)
                    have L72 : ∀ (k72 : Nat) (k f : Nat), (i - k) < k72 → (k ≤ i) → (f = b2n (dif (wtK g kn) i k)) → Go (d + 2) true 225 72 [.ref 130, .int (nI kn), .int (nI m), .int (nI i), .int (nI f), .int (nI k)] [] h3 Q := by
                      intro k72
                      induction k72 with
                      | zero => intro k f hk; exact absurd hk (Nat.not_lt_zero _)
                      | succ k72 ih72 =>
                        intro k f hk hk hf
                        have hf1 := b2n_le (dif (wtK g kn) i k); have w4 := hwb k
                        refine exf_go 3 (show ((nI i) ≤ (nI k) → Go (d + 2) true 225 113 [.ref 130, .int (nI kn), .int (nI m), .int (nI i), .int (nI f), .int (nI k)] [] h3 Q) ∧ (¬ ((nI i) ≤ (nI k)) → Go (d + 2) true 225 78 [.ref 130, .int (nI kn), .int (nI m), .int (nI i), .int (nI f), .int (nI k)] [] h3 Q) from ⟨fun c4 => ?_, fun c4 => ?_⟩)
                        · skip
                          have c4 : i ≤ k := (nI_leI (a := i) (b := k) (by omega) (by omega)).mp c4
                          have hD : b2n (dif (wtK g kn) i i) = f := by rw [hf, show k = i from by omega]
                          refine exf_go 5 (show vp_in (nI m) 256 ∧ (Go (d + 2) true 225 120 [.ref 130, .int (nI kn), .int (nI m), .int (nI i), .int (nI f), .int (nI k)] [.int (rI h3 138 ((nI m).toNatClampNeg)), .int (nI m), .ref 138] h3 Q) from ⟨(vp_in_nI (by omega) (by omega)), ?_⟩)
                          rw [show (rI h3 138 ((nI m).toNatClampNeg) : Int32) = nI (rkF (wtK g kn) m i) from by rw [nI_clamp (by omega)]; exact hrm]
                          refine exf_go 2 (show ((nI f) = 0 → Go (d + 2) true 225 145 [.ref 130, .int (nI kn), .int (nI m), .int (nI i), .int (nI f), .int (nI k)] [.int (nI (rkF (wtK g kn) m i)), .int (nI m), .ref 138] h3 Q) ∧ (¬ ((nI f) = 0) → Go (d + 2) true 225 125 [.ref 130, .int (nI kn), .int (nI m), .int (nI i), .int (nI f), .int (nI k)] [.int (nI (rkF (wtK g kn) m i)), .int (nI m), .ref 138] h3 Q) from ⟨fun c5 => ?_, fun c5 => ?_⟩)
                          · skip
                            have c5 : f = 0 := (nI_eq (a := f) (b := 0) (by omega) (by omega)).mp c5
                            refine exf_go 2 (show Go (d + 2) true 225 147 [.ref 130, .int (nI kn), .int (nI m), .int (nI i), .int (nI f), .int (nI k)] [.int ((nI (rkF (wtK g kn) m i)) + 0), .int (nI m), .ref 138] h3 Q from ?_)
                            rw [show ((nI (rkF (wtK g kn) m i)) + 0 : Int32) = nI ((rkF (wtK g kn) m i) + 0) from nI_add (rkF (wtK g kn) m i) 0]
                            refine exf_go 2 (show vp_in (nI m) 256 ∧ (Go (d + 2) true 225 151 [.ref 130, .int (nI kn), .int (nI m), .int ((nI i) + 1), .int (nI f), .int (nI k)] [] (uI h3 138 ((nI m).toNatClampNeg) (nI ((rkF (wtK g kn) m i) + 0))) Q) from ⟨(vp_in_nI (by omega) (by omega)), ?_⟩)
                            rw [show ((nI i) + 1 : Int32) = nI (i + 1) from nI_add i 1]
                            refine exf_go 1 (show Go (d + 2) true 225 58 [.ref 130, .int (nI kn), .int (nI m), .int (nI (i + 1)), .int (nI f), .int (nI k)] [] (uI h3 138 ((nI m).toNatClampNeg) (nI ((rkF (wtK g kn) m i) + 0))) Q from ?_)
                            exact ih58 (.int (nI f)) (.int (nI k)) (i + 1) _ (by omega) (by omega) (q3.uI' _ _ _ rfl) (mw_fq mw3 rfl) (fun j hj => by rw [nI_clamp (by omega), rI_uI_at (by omega)]; exact hr3 j hj) (by rw [nI_clamp (by omega), rI_uI_eq]; exact congrArg nI (rk_0 (b2n_0 (by omega))))
                          · skip
                            have c5 : ¬ f = 0 := fun q => c5 ((nI_eq (a := f) (b := 0) (by omega) (by omega)).mpr q)
                            refine exf_go 4 (show vp_in (nI i) 256 ∧ (Go (d + 2) true 225 131 [.ref 130, .int (nI kn), .int (nI m), .int (nI i), .int (nI f), .int (nI k)] [.long (rJ h3 137 ((nI i).toNatClampNeg)), .int (nI (rkF (wtK g kn) m i)), .int (nI m), .ref 138] h3 Q) from ⟨(vp_in_nI (by omega) (by omega)), ?_⟩)
                            rw [show (rJ h3 137 ((nI i).toNatClampNeg) : Int64) = lN (wtK g kn i) from mw_at ms3 mw3 (m := i) (by omega)]
                            refine exf_go 4 (show vp_in (nI m) 256 ∧ (Go (d + 2) true 225 137 [.ref 130, .int (nI kn), .int (nI m), .int (nI i), .int (nI f), .int (nI k)] [.long (rJ h3 137 ((nI m).toNatClampNeg)), .long (lN (wtK g kn i)), .int (nI (rkF (wtK g kn) m i)), .int (nI m), .ref 138] h3 Q) from ⟨(vp_in_nI (by omega) (by omega)), ?_⟩)
                            rw [show (rJ h3 137 ((nI m).toNatClampNeg) : Int64) = lN (wtK g kn m) from mw_at ms3 mw3 (m := m) (by omega)]
                            refine exf_go 2 (show ((lg_cmp (lN (wtK g kn i)) (lN (wtK g kn m))) ≤ 0 → Go (d + 2) true 225 145 [.ref 130, .int (nI kn), .int (nI m), .int (nI i), .int (nI f), .int (nI k)] [.int (nI (rkF (wtK g kn) m i)), .int (nI m), .ref 138] h3 Q) ∧ (¬ ((lg_cmp (lN (wtK g kn i)) (lN (wtK g kn m))) ≤ 0) → Go (d + 2) true 225 141 [.ref 130, .int (nI kn), .int (nI m), .int (nI i), .int (nI f), .int (nI k)] [.int (nI (rkF (wtK g kn) m i)), .int (nI m), .ref 138] h3 Q) from ⟨fun c6 => ?_, fun c6 => ?_⟩)
                            · skip
                              have c6 : (lN (wtK g kn i)) ≤ (lN (wtK g kn m)) := (lg_cmp_le _ _).mp c6
                              have c6 : (wtK g kn i) ≤ (wtK g kn m) := (pk_lLE (a := (wtK g kn i)) (b := (wtK g kn m)) (by omega) (by omega)).mp c6
                              refine exf_go 2 (show Go (d + 2) true 225 147 [.ref 130, .int (nI kn), .int (nI m), .int (nI i), .int (nI f), .int (nI k)] [.int ((nI (rkF (wtK g kn) m i)) + 0), .int (nI m), .ref 138] h3 Q from ?_)
                              rw [show ((nI (rkF (wtK g kn) m i)) + 0 : Int32) = nI ((rkF (wtK g kn) m i) + 0) from nI_add (rkF (wtK g kn) m i) 0]
                              refine exf_go 2 (show vp_in (nI m) 256 ∧ (Go (d + 2) true 225 151 [.ref 130, .int (nI kn), .int (nI m), .int ((nI i) + 1), .int (nI f), .int (nI k)] [] (uI h3 138 ((nI m).toNatClampNeg) (nI ((rkF (wtK g kn) m i) + 0))) Q) from ⟨(vp_in_nI (by omega) (by omega)), ?_⟩)
                              rw [show ((nI i) + 1 : Int32) = nI (i + 1) from nI_add i 1]
                              refine exf_go 1 (show Go (d + 2) true 225 58 [.ref 130, .int (nI kn), .int (nI m), .int (nI (i + 1)), .int (nI f), .int (nI k)] [] (uI h3 138 ((nI m).toNatClampNeg) (nI ((rkF (wtK g kn) m i) + 0))) Q from ?_)
                              exact ih58 (.int (nI f)) (.int (nI k)) (i + 1) _ (by omega) (by omega) (q3.uI' _ _ _ rfl) (mw_fq mw3 rfl) (fun j hj => by rw [nI_clamp (by omega), rI_uI_at (by omega)]; exact hr3 j hj) (by rw [nI_clamp (by omega), rI_uI_eq]; exact congrArg nI (rk_le (by omega)))
                            · skip
                              have c6 : ¬ ((lN (wtK g kn i)) ≤ (lN (wtK g kn m))) := fun q => c6 ((lg_cmp_le _ _).mpr q)
                              have c6 : ¬ ((wtK g kn i) ≤ (wtK g kn m)) := fun q => c6 ((pk_lLE (a := (wtK g kn i)) (b := (wtK g kn m)) (by omega) (by omega)).mpr q)
                              refine exf_go 3 (show Go (d + 2) true 225 147 [.ref 130, .int (nI kn), .int (nI m), .int (nI i), .int (nI f), .int (nI k)] [.int ((nI (rkF (wtK g kn) m i)) + 1), .int (nI m), .ref 138] h3 Q from ?_)
                              rw [show ((nI (rkF (wtK g kn) m i)) + 1 : Int32) = nI ((rkF (wtK g kn) m i) + 1) from nI_add (rkF (wtK g kn) m i) 1]
                              refine exf_go 2 (show vp_in (nI m) 256 ∧ (Go (d + 2) true 225 151 [.ref 130, .int (nI kn), .int (nI m), .int ((nI i) + 1), .int (nI f), .int (nI k)] [] (uI h3 138 ((nI m).toNatClampNeg) (nI ((rkF (wtK g kn) m i) + 1))) Q) from ⟨(vp_in_nI (by omega) (by omega)), ?_⟩)
                              rw [show ((nI i) + 1 : Int32) = nI (i + 1) from nI_add i 1]
                              refine exf_go 1 (show Go (d + 2) true 225 58 [.ref 130, .int (nI kn), .int (nI m), .int (nI (i + 1)), .int (nI f), .int (nI k)] [] (uI h3 138 ((nI m).toNatClampNeg) (nI ((rkF (wtK g kn) m i) + 1))) Q from ?_)
                              exact ih58 (.int (nI f)) (.int (nI k)) (i + 1) _ (by omega) (by omega) (q3.uI' _ _ _ rfl) (mw_fq mw3 rfl) (fun j hj => by rw [nI_clamp (by omega), rI_uI_at (by omega)]; exact hr3 j hj) (by rw [nI_clamp (by omega), rI_uI_eq]; exact congrArg nI (rk_1 (b2n_1 (by omega)) (by omega)))
                        · skip
                          have c4 : ¬ i ≤ k := fun q => c4 ((nI_leI (a := i) (b := k) (by omega) (by omega)).mpr q)
                          refine exf_go 2 (show ((nI f) = 0 → Go (d + 2) true 225 113 [.ref 130, .int (nI kn), .int (nI m), .int (nI i), .int (nI f), .int (nI k)] [] h3 Q) ∧ (¬ ((nI f) = 0) → Go (d + 2) true 225 83 [.ref 130, .int (nI kn), .int (nI m), .int (nI i), .int (nI f), .int (nI k)] [] h3 Q) from ⟨fun c7 => ?_, fun c7 => ?_⟩)
                          · skip
                            have c7 : f = 0 := (nI_eq (a := f) (b := 0) (by omega) (by omega)).mp c7
                            have hD : b2n (dif (wtK g kn) i i) = f := by rw [dif_end (b2n_0 (by omega)) hk, c7]; rfl
                            refine exf_go 5 (show vp_in (nI m) 256 ∧ (Go (d + 2) true 225 120 [.ref 130, .int (nI kn), .int (nI m), .int (nI i), .int (nI f), .int (nI k)] [.int (rI h3 138 ((nI m).toNatClampNeg)), .int (nI m), .ref 138] h3 Q) from ⟨(vp_in_nI (by omega) (by omega)), ?_⟩)
                            rw [show (rI h3 138 ((nI m).toNatClampNeg) : Int32) = nI (rkF (wtK g kn) m i) from by rw [nI_clamp (by omega)]; exact hrm]
                            refine exf_go 2 (show ((nI f) = 0 → Go (d + 2) true 225 145 [.ref 130, .int (nI kn), .int (nI m), .int (nI i), .int (nI f), .int (nI k)] [.int (nI (rkF (wtK g kn) m i)), .int (nI m), .ref 138] h3 Q) ∧ (¬ ((nI f) = 0) → Go (d + 2) true 225 125 [.ref 130, .int (nI kn), .int (nI m), .int (nI i), .int (nI f), .int (nI k)] [.int (nI (rkF (wtK g kn) m i)), .int (nI m), .ref 138] h3 Q) from ⟨fun c8 => ?_, fun c8 => ?_⟩)
                            · skip
                              have c8 : f = 0 := (nI_eq (a := f) (b := 0) (by omega) (by omega)).mp c8
                              refine exf_go 2 (show Go (d + 2) true 225 147 [.ref 130, .int (nI kn), .int (nI m), .int (nI i), .int (nI f), .int (nI k)] [.int ((nI (rkF (wtK g kn) m i)) + 0), .int (nI m), .ref 138] h3 Q from ?_)
                              rw [show ((nI (rkF (wtK g kn) m i)) + 0 : Int32) = nI ((rkF (wtK g kn) m i) + 0) from nI_add (rkF (wtK g kn) m i) 0]
                              refine exf_go 2 (show vp_in (nI m) 256 ∧ (Go (d + 2) true 225 151 [.ref 130, .int (nI kn), .int (nI m), .int ((nI i) + 1), .int (nI f), .int (nI k)] [] (uI h3 138 ((nI m).toNatClampNeg) (nI ((rkF (wtK g kn) m i) + 0))) Q) from ⟨(vp_in_nI (by omega) (by omega)), ?_⟩)
                              rw [show ((nI i) + 1 : Int32) = nI (i + 1) from nI_add i 1]
                              refine exf_go 1 (show Go (d + 2) true 225 58 [.ref 130, .int (nI kn), .int (nI m), .int (nI (i + 1)), .int (nI f), .int (nI k)] [] (uI h3 138 ((nI m).toNatClampNeg) (nI ((rkF (wtK g kn) m i) + 0))) Q from ?_)
                              exact ih58 (.int (nI f)) (.int (nI k)) (i + 1) _ (by omega) (by omega) (q3.uI' _ _ _ rfl) (mw_fq mw3 rfl) (fun j hj => by rw [nI_clamp (by omega), rI_uI_at (by omega)]; exact hr3 j hj) (by rw [nI_clamp (by omega), rI_uI_eq]; exact congrArg nI (rk_0 (b2n_0 (by omega))))
                            · skip
                              have c8 : ¬ f = 0 := fun q => c8 ((nI_eq (a := f) (b := 0) (by omega) (by omega)).mpr q)
                              refine exf_go 4 (show vp_in (nI i) 256 ∧ (Go (d + 2) true 225 131 [.ref 130, .int (nI kn), .int (nI m), .int (nI i), .int (nI f), .int (nI k)] [.long (rJ h3 137 ((nI i).toNatClampNeg)), .int (nI (rkF (wtK g kn) m i)), .int (nI m), .ref 138] h3 Q) from ⟨(vp_in_nI (by omega) (by omega)), ?_⟩)
                              rw [show (rJ h3 137 ((nI i).toNatClampNeg) : Int64) = lN (wtK g kn i) from mw_at ms3 mw3 (m := i) (by omega)]
                              refine exf_go 4 (show vp_in (nI m) 256 ∧ (Go (d + 2) true 225 137 [.ref 130, .int (nI kn), .int (nI m), .int (nI i), .int (nI f), .int (nI k)] [.long (rJ h3 137 ((nI m).toNatClampNeg)), .long (lN (wtK g kn i)), .int (nI (rkF (wtK g kn) m i)), .int (nI m), .ref 138] h3 Q) from ⟨(vp_in_nI (by omega) (by omega)), ?_⟩)
                              rw [show (rJ h3 137 ((nI m).toNatClampNeg) : Int64) = lN (wtK g kn m) from mw_at ms3 mw3 (m := m) (by omega)]
                              refine exf_go 2 (show ((lg_cmp (lN (wtK g kn i)) (lN (wtK g kn m))) ≤ 0 → Go (d + 2) true 225 145 [.ref 130, .int (nI kn), .int (nI m), .int (nI i), .int (nI f), .int (nI k)] [.int (nI (rkF (wtK g kn) m i)), .int (nI m), .ref 138] h3 Q) ∧ (¬ ((lg_cmp (lN (wtK g kn i)) (lN (wtK g kn m))) ≤ 0) → Go (d + 2) true 225 141 [.ref 130, .int (nI kn), .int (nI m), .int (nI i), .int (nI f), .int (nI k)] [.int (nI (rkF (wtK g kn) m i)), .int (nI m), .ref 138] h3 Q) from ⟨fun c9 => ?_, fun c9 => ?_⟩)
                              · skip
                                have c9 : (lN (wtK g kn i)) ≤ (lN (wtK g kn m)) := (lg_cmp_le _ _).mp c9
                                have c9 : (wtK g kn i) ≤ (wtK g kn m) := (pk_lLE (a := (wtK g kn i)) (b := (wtK g kn m)) (by omega) (by omega)).mp c9
                                refine exf_go 2 (show Go (d + 2) true 225 147 [.ref 130, .int (nI kn), .int (nI m), .int (nI i), .int (nI f), .int (nI k)] [.int ((nI (rkF (wtK g kn) m i)) + 0), .int (nI m), .ref 138] h3 Q from ?_)
                                rw [show ((nI (rkF (wtK g kn) m i)) + 0 : Int32) = nI ((rkF (wtK g kn) m i) + 0) from nI_add (rkF (wtK g kn) m i) 0]
                                refine exf_go 2 (show vp_in (nI m) 256 ∧ (Go (d + 2) true 225 151 [.ref 130, .int (nI kn), .int (nI m), .int ((nI i) + 1), .int (nI f), .int (nI k)] [] (uI h3 138 ((nI m).toNatClampNeg) (nI ((rkF (wtK g kn) m i) + 0))) Q) from ⟨(vp_in_nI (by omega) (by omega)), ?_⟩)
                                rw [show ((nI i) + 1 : Int32) = nI (i + 1) from nI_add i 1]
                                refine exf_go 1 (show Go (d + 2) true 225 58 [.ref 130, .int (nI kn), .int (nI m), .int (nI (i + 1)), .int (nI f), .int (nI k)] [] (uI h3 138 ((nI m).toNatClampNeg) (nI ((rkF (wtK g kn) m i) + 0))) Q from ?_)
                                exact ih58 (.int (nI f)) (.int (nI k)) (i + 1) _ (by omega) (by omega) (q3.uI' _ _ _ rfl) (mw_fq mw3 rfl) (fun j hj => by rw [nI_clamp (by omega), rI_uI_at (by omega)]; exact hr3 j hj) (by rw [nI_clamp (by omega), rI_uI_eq]; exact congrArg nI (rk_le (by omega)))
                              · skip
                                have c9 : ¬ ((lN (wtK g kn i)) ≤ (lN (wtK g kn m))) := fun q => c9 ((lg_cmp_le _ _).mpr q)
                                have c9 : ¬ ((wtK g kn i) ≤ (wtK g kn m)) := fun q => c9 ((pk_lLE (a := (wtK g kn i)) (b := (wtK g kn m)) (by omega) (by omega)).mpr q)
                                refine exf_go 3 (show Go (d + 2) true 225 147 [.ref 130, .int (nI kn), .int (nI m), .int (nI i), .int (nI f), .int (nI k)] [.int ((nI (rkF (wtK g kn) m i)) + 1), .int (nI m), .ref 138] h3 Q from ?_)
                                rw [show ((nI (rkF (wtK g kn) m i)) + 1 : Int32) = nI ((rkF (wtK g kn) m i) + 1) from nI_add (rkF (wtK g kn) m i) 1]
                                refine exf_go 2 (show vp_in (nI m) 256 ∧ (Go (d + 2) true 225 151 [.ref 130, .int (nI kn), .int (nI m), .int ((nI i) + 1), .int (nI f), .int (nI k)] [] (uI h3 138 ((nI m).toNatClampNeg) (nI ((rkF (wtK g kn) m i) + 1))) Q) from ⟨(vp_in_nI (by omega) (by omega)), ?_⟩)
                                rw [show ((nI i) + 1 : Int32) = nI (i + 1) from nI_add i 1]
                                refine exf_go 1 (show Go (d + 2) true 225 58 [.ref 130, .int (nI kn), .int (nI m), .int (nI (i + 1)), .int (nI f), .int (nI k)] [] (uI h3 138 ((nI m).toNatClampNeg) (nI ((rkF (wtK g kn) m i) + 1))) Q from ?_)
                                exact ih58 (.int (nI f)) (.int (nI k)) (i + 1) _ (by omega) (by omega) (q3.uI' _ _ _ rfl) (mw_fq mw3 rfl) (fun j hj => by rw [nI_clamp (by omega), rI_uI_at (by omega)]; exact hr3 j hj) (by rw [nI_clamp (by omega), rI_uI_eq]; exact congrArg nI (rk_1 (b2n_1 (by omega)) (by omega)))
                          · skip
                            have c7 : ¬ f = 0 := fun q => c7 ((nI_eq (a := f) (b := 0) (by omega) (by omega)).mpr q)
                            refine exf_go 4 (show vp_in (nI k) 256 ∧ (Go (d + 2) true 225 90 [.ref 130, .int (nI kn), .int (nI m), .int (nI i), .int (nI f), .int (nI k)] [.long (rJ h3 137 ((nI k).toNatClampNeg))] h3 Q) from ⟨(vp_in_nI (by omega) (by omega)), ?_⟩)
                            rw [show (rJ h3 137 ((nI k).toNatClampNeg) : Int64) = lN (wtK g kn k) from mw_at ms3 mw3 (m := k) (by omega)]
                            refine exf_go 4 (show vp_in (nI i) 256 ∧ (Go (d + 2) true 225 96 [.ref 130, .int (nI kn), .int (nI m), .int (nI i), .int (nI f), .int (nI k)] [.long (rJ h3 137 ((nI i).toNatClampNeg)), .long (lN (wtK g kn k))] h3 Q) from ⟨(vp_in_nI (by omega) (by omega)), ?_⟩)
                            rw [show (rJ h3 137 ((nI i).toNatClampNeg) : Int64) = lN (wtK g kn i) from mw_at ms3 mw3 (m := i) (by omega)]
                            refine exf_go 2 (show ((lg_cmp (lN (wtK g kn k)) (lN (wtK g kn i))) = 0 → Go (d + 2) true 225 104 [.ref 130, .int (nI kn), .int (nI m), .int (nI i), .int (nI f), .int (nI k)] [] h3 Q) ∧ (¬ ((lg_cmp (lN (wtK g kn k)) (lN (wtK g kn i))) = 0) → Go (d + 2) true 225 100 [.ref 130, .int (nI kn), .int (nI m), .int (nI i), .int (nI f), .int (nI k)] [] h3 Q) from ⟨fun c10 => ?_, fun c10 => ?_⟩)
                            · skip
                              have c10 : (lN (wtK g kn k)) = (lN (wtK g kn i)) := (lg_cmp_eq _ _).mp c10
                              have c10 : (wtK g kn k) = (wtK g kn i) := (pk_lEQ (a := (wtK g kn k)) (b := (wtK g kn i)) (by omega) (by omega)).mp c10
                              refine exf_go 3 (show Go (d + 2) true 225 110 [.ref 130, .int (nI kn), .int (nI m), .int (nI i), .int 0, .int ((nI k) + 1)] [] h3 Q from ?_)
                              rw [show ((nI k) + 1 : Int32) = nI (k + 1) from nI_add k 1]
                              refine exf_go 1 (show Go (d + 2) true 225 72 [.ref 130, .int (nI kn), .int (nI m), .int (nI i), .int 0, .int (nI (k + 1))] [] h3 Q from ?_)
                              exact ih72 (k + 1) 0 (by omega) (by omega) (by exact dif_n (by assumption))
                            · skip
                              have c10 : ¬ ((lN (wtK g kn k)) = (lN (wtK g kn i))) := fun q => c10 ((lg_cmp_eq _ _).mpr q)
                              have c10 : ¬ ((wtK g kn k) = (wtK g kn i)) := fun q => c10 ((pk_lEQ (a := (wtK g kn k)) (b := (wtK g kn i)) (by omega) (by omega)).mpr q)
                              refine exf_go 4 (show Go (d + 2) true 225 110 [.ref 130, .int (nI kn), .int (nI m), .int (nI i), .int 1, .int ((nI k) + 1)] [] h3 Q from ?_)
                              rw [show ((nI k) + 1 : Int32) = nI (k + 1) from nI_add k 1]
                              refine exf_go 1 (show Go (d + 2) true 225 72 [.ref 130, .int (nI kn), .int (nI m), .int (nI i), .int 1, .int (nI (k + 1))] [] h3 Q from ?_)
                              exact ih72 (k + 1) 1 (by omega) (by omega) (by exact dif_y (by omega) (by assumption))
                    exact L72 (i + 1) 0 1 (by omega) (by omega) rfl
              exact L58 (257 + 1) z4 z5 0 _ (by omega) (by omega) (q2.uI' _ _ _ rfl) (mw_fq mw2 rfl) (fun j hj => by rw [nI_clamp (by omega), rI_uI_at (by omega)]; exact hr j hj) (by rw [nI_clamp (by omega), rI_uI_eq]; rfl)
        exact L41 (257 + 1) z3 z4 z5 0 h1 (by omega) (by omega) q1 ⟨hk0, fun j hj => hw j (by omega)⟩ (fun j hj => absurd hj (Nat.not_lt_zero _))
      · skip
        have c1 : ¬ 256 ≤ m := fun q => c1 ((nI_leI (a := 256) (b := m) (by omega) (by omega)).mpr q)
        refine exf_go 6 (show wpC (d + 2) true 223 [.ref 130] h1 (fun r h' => Go (d + 2) true 225 19 [.ref 130, .int (nI kn), .int (nI m), z3, z4, z5] [r, .int (nI m), .int (nI m), .ref 137] h' Q) from ?_)
        refine m_every ms1 ?_
        show Go (d + 2) true 225 19 [.ref 130, .int (nI kn), .int (nI m), z3, z4, z5] [.int (nI (evr g)), .int (nI m), .int (nI m), .ref 137] h1 Q
        refine exf_go 1 (show ((nI (evr g)) < (nI m) → Go (d + 2) true 225 31 [.ref 130, .int (nI kn), .int (nI m), z3, z4, z5] [.int (nI m), .ref 137] h1 Q) ∧ (¬ ((nI (evr g)) < (nI m)) → Go (d + 2) true 225 22 [.ref 130, .int (nI kn), .int (nI m), z3, z4, z5] [.int (nI m), .ref 137] h1 Q) from ⟨fun c11 => ?_, fun c11 => ?_⟩)
        · skip
          have c11 : (evr g) < m := (nI_ltI (a := (evr g)) (b := m) (by omega) (by omega)).mp c11
          refine exf_go 3 (show vp_in (nI m) 256 ∧ (Go (d + 2) true 225 36 [.ref 130, .int (nI kn), .int ((nI m) + 1), z3, z4, z5] [] (uJ h1 137 ((nI m).toNatClampNeg) 0) Q) from ⟨(vp_in_nI (by omega) (by omega)), ?_⟩)
          rw [show ((nI m) + 1 : Int32) = nI (m + 1) from nI_add m 1]
          refine exf_go 1 (show Go (d + 2) true 225 2 [.ref 130, .int (nI kn), .int (nI (m + 1)), z3, z4, z5] [] (uJ h1 137 ((nI m).toNatClampNeg) 0) Q from ?_)
          exact ih2 z3 z4 z5 (m + 1) _ (by omega) (by omega) (q1.uJ' _ _ _ rfl) (fun j hj => (Decidable.em (j = m)).elim (fun e => by rw [nI_clamp (by omega), e, rJ_uJ_eq]; (first | rw [if_pos (by omega)] | (rw [if_neg (by omega)]; decide))) (fun e => by rw [nI_clamp (by omega), rJ_uJ_at e]; exact hw j (by omega)))
        · skip
          have c11 : ¬ (evr g) < m := fun q => c11 ((nI_ltI (a := (evr g)) (b := m) (by omega) (by omega)).mpr q)
          refine exf_go 4 (show wpC (d + 2) true 222 [.ref 130, .int (nI kn), .int (nI m)] h1 (fun r h' => Go (d + 2) true 225 28 [.ref 130, .int (nI kn), .int (nI m), z3, z4, z5] [r, .int (nI m), .ref 137] h' Q) from ?_)
          refine m_weightBy ms1 (by omega) (by omega) ?_
          have := wtK_b ms.1.1 kn m
          show Go (d + 2) true 225 28 [.ref 130, .int (nI kn), .int (nI m), z3, z4, z5] [.long (lN (wtK g kn m)), .int (nI m), .ref 137] h1 Q
          refine exf_go 3 (show vp_in (nI m) 256 ∧ (Go (d + 2) true 225 36 [.ref 130, .int (nI kn), .int ((nI m) + 1), z3, z4, z5] [] (uJ h1 137 ((nI m).toNatClampNeg) (lN (wtK g kn m))) Q) from ⟨(vp_in_nI (by omega) (by omega)), ?_⟩)
          rw [show ((nI m) + 1 : Int32) = nI (m + 1) from nI_add m 1]
          refine exf_go 1 (show Go (d + 2) true 225 2 [.ref 130, .int (nI kn), .int (nI (m + 1)), z3, z4, z5] [] (uJ h1 137 ((nI m).toNatClampNeg) (lN (wtK g kn m))) Q from ?_)
          exact ih2 z3 z4 z5 (m + 1) _ (by omega) (by omega) (q1.uJ' _ _ _ rfl) (fun j hj => (Decidable.em (j = m)).elim (fun e => by rw [nI_clamp (by omega), e, rJ_uJ_eq]; (first | rw [if_pos (by omega)] | (rw [if_neg (by omega)]; decide))) (fun e => by rw [nI_clamp (by omega), rJ_uJ_at e]; exact hw j (by omega)))
  exact L2 (256 + 1) mk_ mk_ mk_ 0 h (by omega) (by omega) Fq.rfl' (fun j hj => absurd hj (Nat.not_lt_zero _))
