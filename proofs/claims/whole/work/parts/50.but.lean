/-! The model: how many but some clues; the count of what was tried. -/
theorem m_bitsOf {d : Nat} {h : Hp} {m : Nat} {Q : Po} (hm : m < 256) (k : Q (.int (nI (popc m))) h) : wpC (d + 1) true 246 [.int (nI m)] h Q := by
  refine go_in rfl ?_
  refine exf_go 4 (show Go d true 246 4 [.int (nI m), .int 0, .int 0] [] h Q from ?_)
  have L4 : ∀ (k4 : Nat) (j s : Nat), (8 - j) < k4 → (j ≤ 8) → (s = sumN (btn m) j) → Go d true 246 4 [.int (nI m), .int (nI s), .int (nI j)] [] h Q := by
    intro k4
    induction k4 with
    | zero => intro j s hk; exact absurd hk (Nat.not_lt_zero _)
    | succ k4 ih4 =>
      intro j s hk hj hs
      refine exf_go 3 (show (8 ≤ (nI j) → Go d true 246 24 [.int (nI m), .int (nI s), .int (nI j)] [] h Q) ∧ (¬ (8 ≤ (nI j)) → Go d true 246 10 [.int (nI m), .int (nI s), .int (nI j)] [] h Q) from ⟨fun c1 => ?_, fun c1 => ?_⟩)
      · skip
        have c1 : 8 ≤ j := (nI_leI (a := 8) (b := j) (by omega) (by omega)).mp c1
        refine exf_go 2 (show Q (.int (nI s)) h from ?_)
        rw [hs, show j = 8 from by omega]; exact k
      · skip
        have c1 : ¬ 8 ≤ j := fun q => c1 ((nI_leI (a := 8) (b := j) (by omega) (by omega)).mpr q)
        refine exf_go 4 (show Go d true 246 14 [.int (nI m), .int (nI s), .int (nI j)] [.int ((nI m) >>> ((nI j) &&& 31)), .int (nI s)] h Q from ?_)
        rw [show ((nI m) >>> ((nI j) &&& 31) : Int32) = nI (m / 2 ^ j) from nI_shr (a := m) (k := j) (by omega) (by omega)]
        refine exf_go 2 (show Go d true 246 16 [.int (nI m), .int (nI s), .int (nI j)] [.int ((nI (m / 2 ^ j)) &&& 1), .int (nI s)] h Q from ?_)
        rw [show ((nI (m / 2 ^ j)) &&& 1 : Int32) = nI (btn m j) from nI_low1 (Nat.lt_of_le_of_lt (Nat.div_le_self _ _) (by omega))]
        refine exf_go 1 (show Go d true 246 17 [.int (nI m), .int (nI s), .int (nI j)] [.int ((nI s) + (nI (btn m j)))] h Q from ?_)
        rw [show ((nI s) + (nI (btn m j)) : Int32) = nI (s + (btn m j)) from nI_add s (btn m j)]
        refine exf_go 2 (show Go d true 246 21 [.int (nI m), .int (nI (s + (btn m j))), .int ((nI j) + 1)] [] h Q from ?_)
        rw [show ((nI j) + 1 : Int32) = nI (j + 1) from nI_add j 1]
        refine exf_go 1 (show Go d true 246 4 [.int (nI m), .int (nI (s + (btn m j))), .int (nI (j + 1))] [] h Q from ?_)
        exact ih4 (j + 1) (s + (btn m j)) (by omega) (by omega) (by rw [hs, sumN])
  exact L4 (8 + 1) 0 0 (by omega) (by omega) rfl
theorem m_but {d : Nat} {h : Hp} {g : ShG} {l : LkG} {x : Int32} {Q : Po} (ms : MS g l h) (k : ∀ h1, Fq scM h h1 → Q (.int (fBut g l x)) h1) : wpC (d + 6) true 247 [.ref 130, .int x] h Q := by
  have hN := tot_b ms.1.1
  have h4 := ms.1.1.1
  have h8 := ms.1.1.2.2.2.1
  have he := evr_b ms.1.1
  have hev : evr g = 2 ^ sC g - 1 := rfl
  refine go_in rfl ?_
  refine exf_go 8 (show wpC (d + 5) true 183 [.long x.toInt64, .long 0, .long 8] (uI h 130 0 0) (fun r h' => Go (d + 5) true 247 14 [.ref 130, .int x, mk_, mk_] [r] h' Q) from ?_)
  refine m_within (fun u1 v1 => ?_) (fun u1 => ?_)
  · skip
    obtain ⟨j, e1, e1q, e1r⟩ := wi_in (n := 9) (by omega) u1 v1
    subst e1q
    show Go (d + 5) true 247 14 [.ref 130, .int (nI j), mk_, mk_] [.int 1] (uI h 130 0 0) Q
    refine exf_go 1 (show (¬ (1 : Int32) = 0 → Go (d + 5) true 247 20 [.ref 130, .int (nI j), mk_, mk_] [] (uI h 130 0 0) Q) ∧ (¬ (¬ (1 : Int32) = 0) → Go (d + 5) true 247 17 [.ref 130, .int (nI j), mk_, mk_] [] (uI h 130 0 0) Q) from ⟨fun c2 => ?_, fun c2 => ?_⟩)
    · skip
      refine exf_go 2 (show wpC (d + 5) true 228 [.ref 130] (uI h 130 0 0) (fun _ h' => Go (d + 5) true 247 24 [.ref 130, .int (nI j), mk_, mk_] [] h' Q) from ?_)
      refine m_laysLeft (ms_fq ms (Fq.uI' Fq.rfl' _ _ _ rfl)) (fun h1 p1 mw1 mo1 => ?_)
      have q1 := Fq.tr (Fq.uI' Fq.rfl' _ _ _ rfl) p1
      have ms1 := ms_fq ms q1
      have hcc := cntN_le (lft g l) (tot g)
      show Go (d + 5) true 247 24 [.ref 130, .int (nI j), mk_, mk_] [] h1 Q
      refine exf_go 4 (show Go (d + 5) true 247 28 [.ref 130, .int (nI j), .int 0, .int 0] [] h1 Q from ?_)
      have L28 : ∀ (k28 : Nat) (i s : Nat), (cntN (lft g l) (tot g) - i) < k28 → (i ≤ cntN (lft g l) (tot g)) → (s = cntN (fun i => decide (sC g - popc (sH g (ordOf h1 i)) ≤ j)) i) → Go (d + 5) true 247 28 [.ref 130, .int (nI j), .int (nI s), .int (nI i)] [] h1 Q := by
        intro k28
        induction k28 with
        | zero => intro i s hk; exact absurd hk (Nat.not_lt_zero _)
        | succ k28 ih28 =>
          intro i s hk hi hs
          refine exf_go 3 (show Go (d + 5) true 247 33 [.ref 130, .int (nI j), .int (nI s), .int (nI i)] [.int (rI h1 130 22), .int (nI i)] h1 Q from ?_)
          rw [show (rI h1 130 22 : Int32) = nI (cntN (lft g l) (tot g)) from mo1.1]
          refine exf_go 1 (show ((nI (cntN (lft g l) (tot g))) ≤ (nI i) → Go (d + 5) true 247 79 [.ref 130, .int (nI j), .int (nI s), .int (nI i)] [] h1 Q) ∧ (¬ ((nI (cntN (lft g l) (tot g))) ≤ (nI i)) → Go (d + 5) true 247 36 [.ref 130, .int (nI j), .int (nI s), .int (nI i)] [] h1 Q) from ⟨fun c3 => ?_, fun c3 => ?_⟩)
          · skip
            have c3 : (cntN (lft g l) (tot g)) ≤ i := (nI_leI (a := (cntN (lft g l) (tot g))) (b := i) (by omega) (by omega)).mp c3
            refine exf_go 2 (show Q (.int (nI s)) h1 from ?_)
            simp only [fBut, e1] at k
            rw [← ord_cnt (mo_ord ms.1.1 mo1) (fun n => decide (sC g - popc (sH g n) ≤ j))] at k
            rw [hs, show i = cntN (lft g l) (tot g) from by omega]
            exact k _ q1
          · skip
            have c3 : ¬ (cntN (lft g l) (tot g)) ≤ i := fun q => c3 ((nI_leI (a := (cntN (lft g l) (tot g))) (b := i) (by omega) (by omega)).mpr q)
            refine exf_go 5 (show vp_in 2 41523 ∧ (Go (d + 5) true 247 43 [.ref 130, .int (nI j), .int (nI s), .int (nI i)] [.int (rI h1 131 2), .int (nI s)] h1 Q) from ⟨(vp_in_nI (n := 2) (by decide) (by decide)), ?_⟩)
            rw [show (rI h1 131 2 : Int32) = nI (sC g) from ms_C ms1]
            refine exf_go 7 (show vp_in (nI i) 10000 ∧ (Go (d + 5) true 247 56 [.ref 130, .int (nI j), .int (nI s), .int (nI i)] [.int (rI h1 140 ((nI i).toNatClampNeg)), .int 3841, .ref 131, .int (nI (sC g)), .int (nI s)] h1 Q) from ⟨(vp_in_nI (by omega) (by omega)), ?_⟩)
            rw [show (rI h1 140 ((nI i).toNatClampNeg) : Int32) = nI (ordOf h1 i) from mo_at ms.1.1 mo1 (k := i) (by omega)]
            have hoi := (ord_in (mo_ord ms.1.1 mo1) (k := i) (by omega)).1
            refine exf_go 1 (show Go (d + 5) true 247 57 [.ref 130, .int (nI j), .int (nI s), .int (nI i)] [.int (3841 + (nI (ordOf h1 i))), .ref 131, .int (nI (sC g)), .int (nI s)] h1 Q from ?_)
            rw [show (3841 + (nI (ordOf h1 i)) : Int32) = nI (3841 + (ordOf h1 i)) from nI_add 3841 (ordOf h1 i)]
            refine exf_go 1 (show vp_in (nI (3841 + (ordOf h1 i))) 41523 ∧ (Go (d + 5) true 247 58 [.ref 130, .int (nI j), .int (nI s), .int (nI i)] [.int (rI h1 131 ((nI (3841 + (ordOf h1 i))).toNatClampNeg)), .int (nI (sC g)), .int (nI s)] h1 Q) from ⟨(vp_in_nI (by omega) (by omega)), ?_⟩)
            rw [show (rI h1 131 ((nI (3841 + (ordOf h1 i))).toNatClampNeg) : Int32) = nI (sH g (ordOf h1 i)) from ms_H ms1 (n := (ordOf h1 i)) (by omega)]
            have := sH_b ms1.1.1 (ordOf h1 i)
            refine exf_go 1 (show wpC (d + 5) true 246 [.int (nI (sH g (ordOf h1 i)))] h1 (fun r h' => Go (d + 5) true 247 61 [.ref 130, .int (nI j), .int (nI s), .int (nI i)] [r, .int (nI (sC g)), .int (nI s)] h' Q) from ?_)
            refine m_bitsOf (by omega) ?_
            have hpo : popc (sH g (ordOf h1 i)) ≤ sC g := popc_b ms.1.1 _
            show Go (d + 5) true 247 61 [.ref 130, .int (nI j), .int (nI s), .int (nI i)] [.int (nI (popc (sH g (ordOf h1 i)))), .int (nI (sC g)), .int (nI s)] h1 Q
            refine exf_go 1 (show Go (d + 5) true 247 62 [.ref 130, .int (nI j), .int (nI s), .int (nI i)] [.int ((nI (sC g)) - (nI (popc (sH g (ordOf h1 i))))), .int (nI s)] h1 Q from ?_)
            rw [show ((nI (sC g)) - (nI (popc (sH g (ordOf h1 i)))) : Int32) = nI ((sC g) - (popc (sH g (ordOf h1 i)))) from pk_sub (a := (sC g)) (b := (popc (sH g (ordOf h1 i)))) (by omega)]
            refine exf_go 2 (show ((nI j) < (nI ((sC g) - (popc (sH g (ordOf h1 i))))) → Go (d + 5) true 247 70 [.ref 130, .int (nI j), .int (nI s), .int (nI i)] [.int (nI s)] h1 Q) ∧ (¬ ((nI j) < (nI ((sC g) - (popc (sH g (ordOf h1 i)))))) → Go (d + 5) true 247 66 [.ref 130, .int (nI j), .int (nI s), .int (nI i)] [.int (nI s)] h1 Q) from ⟨fun c4 => ?_, fun c4 => ?_⟩)
            · skip
              have c4 : j < ((sC g) - (popc (sH g (ordOf h1 i)))) := (nI_ltI (a := j) (b := ((sC g) - (popc (sH g (ordOf h1 i))))) (by omega) (by omega)).mp c4
              refine exf_go 2 (show Go (d + 5) true 247 72 [.ref 130, .int (nI j), .int (nI s), .int (nI i)] [.int ((nI s) + 0)] h1 Q from ?_)
              rw [show ((nI s) + 0 : Int32) = nI (s + 0) from nI_add s 0]
              refine exf_go 2 (show Go (d + 5) true 247 76 [.ref 130, .int (nI j), .int (nI (s + 0)), .int ((nI i) + 1)] [] h1 Q from ?_)
              rw [show ((nI i) + 1 : Int32) = nI (i + 1) from nI_add i 1]
              refine exf_go 1 (show Go (d + 5) true 247 28 [.ref 130, .int (nI j), .int (nI (s + 0)), .int (nI (i + 1))] [] h1 Q from ?_)
              exact ih28 (i + 1) (s + 0) (by omega) (by omega) (by exact (Nat.add_zero s).trans (cn_n hs (decide_eq_false (by omega))))
            · skip
              have c4 : ¬ j < ((sC g) - (popc (sH g (ordOf h1 i)))) := fun q => c4 ((nI_ltI (a := j) (b := ((sC g) - (popc (sH g (ordOf h1 i))))) (by omega) (by omega)).mpr q)
              refine exf_go 3 (show Go (d + 5) true 247 72 [.ref 130, .int (nI j), .int (nI s), .int (nI i)] [.int ((nI s) + 1)] h1 Q from ?_)
              rw [show ((nI s) + 1 : Int32) = nI (s + 1) from nI_add s 1]
              refine exf_go 2 (show Go (d + 5) true 247 76 [.ref 130, .int (nI j), .int (nI (s + 1)), .int ((nI i) + 1)] [] h1 Q from ?_)
              rw [show ((nI i) + 1 : Int32) = nI (i + 1) from nI_add i 1]
              refine exf_go 1 (show Go (d + 5) true 247 28 [.ref 130, .int (nI j), .int (nI (s + 1)), .int (nI (i + 1))] [] h1 Q from ?_)
              exact ih28 (i + 1) (s + 1) (by omega) (by omega) (by exact cn_y hs (decide_eq_true (by omega)))
      exact L28 (cntN (lft g l) (tot g) + 1) 0 0 (by omega) (by omega) rfl
    · skip
      exact absurd (by decide) c2
  · skip
    have e1 : ixN x 9 = none := u1.elim wi_neg (wi_ge (n := 9) (by omega))
    show Go (d + 5) true 247 14 [.ref 130, .int x, mk_, mk_] [.int 0] (uI h 130 0 0) Q
    refine exf_go 1 (show (¬ (0 : Int32) = 0 → Go (d + 5) true 247 20 [.ref 130, .int x, mk_, mk_] [] (uI h 130 0 0) Q) ∧ (¬ (¬ (0 : Int32) = 0) → Go (d + 5) true 247 17 [.ref 130, .int x, mk_, mk_] [] (uI h 130 0 0) Q) from ⟨fun c5 => ?_, fun c5 => ?_⟩)
    · skip
      exact absurd c5 (by decide)
    · skip
      refine exf_go 2 (show Q (.int (-3)) (uI h 130 0 0) from ?_)
      simp only [fBut, e1] at k
      exact k _ (Fq.uI' Fq.rfl' _ _ _ rfl)
theorem m_triedMany {d : Nat} {h : Hp} {g : ShG} {l : LkG} {Q : Po} (ms : MS g l h) (k : Q (.int (nI (cntN (fun n => lT l n == 1) (tot g)))) h) : wpC (d + 2) true 298 [.ref 130] h Q := by
  have hN := tot_b ms.1.1
  have h4 := ms.1.1.1
  have h8 := ms.1.1.2.2.2.1
  have he := evr_b ms.1.1
  have hev : evr g = 2 ^ sC g - 1 := rfl
  refine go_in rfl ?_
  refine exf_go 4 (show Go (d + 1) true 298 4 [.ref 130, .int 0, .int 0] [] h Q from ?_)
  have L4 : ∀ (k4 : Nat) (n s : Nat), (tot g - n) < k4 → (n ≤ tot g) → (s = cntN (fun n => lT l n == 1) n) → Go (d + 1) true 298 4 [.ref 130, .int (nI s), .int (nI n)] [] h Q := by
    intro k4
    induction k4 with
    | zero => intro n s hk; exact absurd hk (Nat.not_lt_zero _)
    | succ k4 ih4 =>
      intro n s hk hn hs
      refine exf_go 5 (show vp_in 4 41523 ∧ (Go (d + 1) true 298 11 [.ref 130, .int (nI s), .int (nI n)] [.int (rI h 131 4), .int (nI n)] h Q) from ⟨(vp_in_nI (n := 4) (by decide) (by decide)), ?_⟩)
      rw [show (rI h 131 4 : Int32) = nI (tot g) from ms_N ms]
      refine exf_go 1 (show ((nI (tot g)) ≤ (nI n) → Go (d + 1) true 298 36 [.ref 130, .int (nI s), .int (nI n)] [] h Q) ∧ (¬ ((nI (tot g)) ≤ (nI n)) → Go (d + 1) true 298 14 [.ref 130, .int (nI s), .int (nI n)] [] h Q) from ⟨fun c1 => ?_, fun c1 => ?_⟩)
      · skip
        have c1 : (tot g) ≤ n := (nI_leI (a := (tot g)) (b := n) (by omega) (by omega)).mp c1
        refine exf_go 2 (show Q (.int (nI s)) h from ?_)
        rw [hs, show n = tot g from by omega]; exact k
      · skip
        have c1 : ¬ (tot g) ≤ n := fun q => c1 ((nI_leI (a := (tot g)) (b := n) (by omega) (by omega)).mpr q)
        refine exf_go 4 (show wpC (d + 1) true 221 [.ref 130, .int (nI n)] h (fun r h' => Go (d + 1) true 298 20 [.ref 130, .int (nI s), .int (nI n)] [r, .int (nI s)] h' Q) from ?_)
        refine m_isTried ms (by omega) (fun b2 => ?_) (fun b2 => ?_)
        · skip
          show Go (d + 1) true 298 20 [.ref 130, .int (nI s), .int (nI n)] [.int 1, .int (nI s)] h Q
          refine exf_go 1 (show ((1 : Int32) = 0 → Go (d + 1) true 298 27 [.ref 130, .int (nI s), .int (nI n)] [.int (nI s)] h Q) ∧ (¬ ((1 : Int32) = 0) → Go (d + 1) true 298 23 [.ref 130, .int (nI s), .int (nI n)] [.int (nI s)] h Q) from ⟨fun c3 => ?_, fun c3 => ?_⟩)
          · skip
            exact absurd c3 (by decide)
          · skip
            refine exf_go 3 (show Go (d + 1) true 298 29 [.ref 130, .int (nI s), .int (nI n)] [.int ((nI s) + 1)] h Q from ?_)
            rw [show ((nI s) + 1 : Int32) = nI (s + 1) from nI_add s 1]
            refine exf_go 2 (show Go (d + 1) true 298 33 [.ref 130, .int (nI (s + 1)), .int ((nI n) + 1)] [] h Q from ?_)
            rw [show ((nI n) + 1 : Int32) = nI (n + 1) from nI_add n 1]
            refine exf_go 1 (show Go (d + 1) true 298 4 [.ref 130, .int (nI (s + 1)), .int (nI (n + 1))] [] h Q from ?_)
            exact ih4 (n + 1) (s + 1) (by omega) (by omega) (by first | (refine cn_y hs ?_; simp [*]; done) | (refine (Nat.add_zero s).trans (cn_n hs ?_); simp [*]; done))
        · skip
          show Go (d + 1) true 298 20 [.ref 130, .int (nI s), .int (nI n)] [.int 0, .int (nI s)] h Q
          refine exf_go 1 (show ((0 : Int32) = 0 → Go (d + 1) true 298 27 [.ref 130, .int (nI s), .int (nI n)] [.int (nI s)] h Q) ∧ (¬ ((0 : Int32) = 0) → Go (d + 1) true 298 23 [.ref 130, .int (nI s), .int (nI n)] [.int (nI s)] h Q) from ⟨fun c4 => ?_, fun c4 => ?_⟩)
          · skip
            refine exf_go 2 (show Go (d + 1) true 298 29 [.ref 130, .int (nI s), .int (nI n)] [.int ((nI s) + 0)] h Q from ?_)
            rw [show ((nI s) + 0 : Int32) = nI (s + 0) from nI_add s 0]
            refine exf_go 2 (show Go (d + 1) true 298 33 [.ref 130, .int (nI (s + 0)), .int ((nI n) + 1)] [] h Q from ?_)
            rw [show ((nI n) + 1 : Int32) = nI (n + 1) from nI_add n 1]
            refine exf_go 1 (show Go (d + 1) true 298 4 [.ref 130, .int (nI (s + 0)), .int (nI (n + 1))] [] h Q from ?_)
            exact ih4 (n + 1) (s + 0) (by omega) (by omega) (by first | (refine cn_y hs ?_; simp [*]; done) | (refine (Nat.add_zero s).trans (cn_n hs ?_); simp [*]; done))
          · skip
            exact absurd (by decide) c4
  exact L4 (tot g + 1) 0 0 (by omega) (by omega) rfl
