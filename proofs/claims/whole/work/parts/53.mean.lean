/-! The model: the mean. -/
def trsL (g : ShG) (l : LkG) (j : Nat) : Nat := sumN (fun k => (k + 1) * wtA g (sH g (ordL g l k))) j
theorem trs_b {g : ShG} (hg : ShW g) (o : Nat → Nat) {j : Nat} (hj : j ≤ 10000) : sumN (fun k => (k + 1) * wtA g (sH g (o k))) j ≤ 10000000000000000 := by
  have h1 := sumN_le (f := fun k => (k + 1) * wtA g (sH g (o k))) (c := 1000000000000) j (fun k hk => Nat.le_trans (Nat.mul_le_mul (show k + 1 ≤ 10000 by omega) (wtA_b hg _)) (by decide))
  exact Nat.le_trans h1 (Nat.le_trans (Nat.mul_le_mul_right _ hj) (by decide))
theorem trs_of {g : ShG} {l : LkG} {h : Hp} (hg : ShW g) (mo : MO (lft g l) g (evr g) h) {j : Nat} (hj : j ≤ cntN (lft g l) (tot g)) : sumN (fun k => (k + 1) * wtA g (sH g (ordOf h k))) j = trsL g l j := sumN_cg j (fun k hk => by rw [mo_L hg mo (by omega)])
def fMean (g : ShG) (l : LkG) (y : Int32) : Int64 := match ixN y 2 with
  | none => -2
  | some _ => if cntL g l = 0 then -5 else fPart (trsL g l (cntL g l)) (sumL g l) y
theorem m_mean {d : Nat} {h : Hp} {g : ShG} {l : LkG} {y : Int32} {Q : Po} (ms : MS g l h) (k : ∀ h1, Fq scM h h1 → Q (.long (fMean g l y)) h1) : wpC (d + 134) true 243 [.ref 130, .int y] h Q := by
  have hN := tot_b ms.1.1
  have h4 := ms.1.1.1
  have h8 := ms.1.1.2.2.2.1
  have he := evr_b ms.1.1
  have hev : evr g = 2 ^ sC g - 1 := rfl
  refine go_in rfl ?_
  refine exf_go 8 (show wpC (d + 133) true 183 [.long y.toInt64, .long 0, .long 1] (uI h 130 0 0) (fun r h' => Go (d + 133) true 243 12 [.ref 130, .int y, mk_, mk_, mk_] [r] h' Q) from ?_)
  refine m_within (fun u1 v1 => ?_) (fun u1 => ?_)
  · skip
    obtain ⟨jy, ey, eyq, eyr⟩ := wi_in (n := 2) (by omega) u1 v1
    subst eyq
    show Go (d + 133) true 243 12 [.ref 130, .int (nI jy), mk_, mk_, mk_] [.int 1] (uI h 130 0 0) Q
    refine exf_go 1 (show (¬ (1 : Int32) = 0 → Go (d + 133) true 243 19 [.ref 130, .int (nI jy), mk_, mk_, mk_] [] (uI h 130 0 0) Q) ∧ (¬ (¬ (1 : Int32) = 0) → Go (d + 133) true 243 15 [.ref 130, .int (nI jy), mk_, mk_, mk_] [] (uI h 130 0 0) Q) from ⟨fun c2 => ?_, fun c2 => ?_⟩)
    · skip
      refine exf_go 2 (show wpC (d + 133) true 228 [.ref 130] (uI h 130 0 0) (fun _ h' => Go (d + 133) true 243 23 [.ref 130, .int (nI jy), mk_, mk_, mk_] [] h' Q) from ?_)
      refine m_laysLeft (ms_fq ms (Fq.uI' Fq.rfl' _ _ _ rfl)) (fun h1 p1 mw1 mo1 => ?_)
      have q1 := Fq.tr (Fq.uI' Fq.rfl' _ _ _ rfl) p1
      have ms1 := ms_fq ms q1
      have hcc := cntN_le (lft g l) (tot g)
      show Go (d + 133) true 243 23 [.ref 130, .int (nI jy), mk_, mk_, mk_] [] h1 Q
      refine exf_go 2 (show Go (d + 133) true 243 27 [.ref 130, .int (nI jy), mk_, mk_, mk_] [.int (rI h1 130 22)] h1 Q from ?_)
      rw [show (rI h1 130 22 : Int32) = nI (cntN (lft g l) (tot g)) from mo1.1]
      refine exf_go 1 (show (¬ (nI (cntN (lft g l) (tot g))) = 0 → Go (d + 133) true 243 34 [.ref 130, .int (nI jy), mk_, mk_, mk_] [] h1 Q) ∧ (¬ (¬ (nI (cntN (lft g l) (tot g))) = 0) → Go (d + 133) true 243 30 [.ref 130, .int (nI jy), mk_, mk_, mk_] [] h1 Q) from ⟨fun c3 => ?_, fun c3 => ?_⟩)
      · skip
        have c3 : ¬ (cntN (lft g l) (tot g)) = 0 := fun q => c3 ((nI_eq (a := (cntN (lft g l) (tot g))) (b := 0) (by omega) (by omega)).mpr q)
        refine exf_go 4 (show Go (d + 133) true 243 39 [.ref 130, .int (nI jy), .long 0, mk_, .int 0] [] h1 Q from ?_)
        have L39 : ∀ (k39 : Nat) (i s : Nat), (cntN (lft g l) (tot g) - i) < k39 → (i ≤ cntN (lft g l) (tot g)) → (s = sumN (fun k => (k + 1) * wtA g (sH g (ordOf h1 k))) i) → Go (d + 133) true 243 39 [.ref 130, .int (nI jy), .long (lN s), mk_, .int (nI i)] [] h1 Q := by
          intro k39
          induction k39 with
          | zero => intro i s hk; exact absurd hk (Nat.not_lt_zero _)
          | succ k39 ih39 =>
            intro i s hk hi hs
            have hsb := trs_b ms.1.1 (ordOf h1) (j := i) (by omega)
            refine exf_go 3 (show Go (d + 133) true 243 45 [.ref 130, .int (nI jy), .long (lN s), mk_, .int (nI i)] [.int (rI h1 130 22), .int (nI i)] h1 Q from ?_)
            rw [show (rI h1 130 22 : Int32) = nI (cntN (lft g l) (tot g)) from mo1.1]
            refine exf_go 1 (show ((nI (cntN (lft g l) (tot g))) ≤ (nI i) → Go (d + 133) true 243 69 [.ref 130, .int (nI jy), .long (lN s), mk_, .int (nI i)] [] h1 Q) ∧ (¬ ((nI (cntN (lft g l) (tot g))) ≤ (nI i)) → Go (d + 133) true 243 48 [.ref 130, .int (nI jy), .long (lN s), mk_, .int (nI i)] [] h1 Q) from ⟨fun c4 => ?_, fun c4 => ?_⟩)
            · skip
              have c4 : (cntN (lft g l) (tot g)) ≤ i := (nI_leI (a := (cntN (lft g l) (tot g))) (b := i) (by omega) (by omega)).mp c4
              refine exf_go 3 (show wpC (d + 133) true 230 [.ref 130] h1 (fun r h' => Go (d + 133) true 243 74 [.ref 130, .int (nI jy), .long (lN s), mk_, .int (nI i)] [r, .long (lN s)] h' Q) from ?_)
              refine m_weightAll ms1 mw1 mo1 ?_
              have hsL : sumL g l ≤ 1000000000000 := sumN_b (lwt_b ms.1.1 l) _ hN.2
              show Go (d + 133) true 243 74 [.ref 130, .int (nI jy), .long (lN s), mk_, .int (nI i)] [.long (lN (sumL g l)), .long (lN s)] h1 Q
              refine exf_go 2 (show wpC (d + 133) true 236 [.long (lN s), .long (lN (sumL g l)), .int (nI jy)] h1 (fun r h' => Go (d + 133) true 243 78 [.ref 130, .int (nI jy), .long (lN s), mk_, .int (nI i)] [r] h' Q) from ?_)
              have hsp := sumL_pos (l := l) ms.1.1 (by omega)
              refine m_part (u := s) (v := (sumL g l)) (by omega) (by omega) (by omega) ?_
              show Go (d + 133) true 243 78 [.ref 130, .int (nI jy), .long (lN s), mk_, .int (nI i)] [.long (fPart s (sumL g l) (nI jy))] h1 Q
              refine exf_go 1 (show Q (.long (fPart s (sumL g l) (nI jy))) h1 from ?_)
              simp only [fMean, ey] at k
              rw [if_neg (show ¬ cntL g l = 0 from c3), cntL, ← trs_of ms.1.1 mo1 (Nat.le_refl _), ← show i = cntN (lft g l) (tot g) from by omega, ← hs] at k
              exact k _ q1
            · skip
              have c4 : ¬ (cntN (lft g l) (tot g)) ≤ i := fun q => c4 ((nI_leI (a := (cntN (lft g l) (tot g))) (b := i) (by omega) (by omega)).mpr q)
              refine exf_go 3 (show Go (d + 133) true 243 52 [.ref 130, .int (nI jy), .long (lN s), mk_, .int (nI i)] [.long ((nI i).toInt64), .long (lN s)] h1 Q from ?_)
              rw [show ((nI i).toInt64 : Int64) = lN i from nI_l (n := i) (by omega)]
              refine exf_go 2 (show Go (d + 133) true 243 54 [.ref 130, .int (nI jy), .long (lN s), mk_, .int (nI i)] [.long ((lN i) + 1), .long (lN s)] h1 Q from ?_)
              rw [show ((lN i) + 1 : Int64) = lN (i + 1) from lN_add i 1]
              refine exf_go 3 (show wpC (d + 133) true 229 [.ref 130, .int (nI i)] h1 (fun r h' => Go (d + 133) true 243 60 [.ref 130, .int (nI jy), .long (lN s), mk_, .int (nI i)] [r, .long (lN (i + 1)), .long (lN s)] h' Q) from ?_)
              refine m_weightAt ms1 mw1 mo1 (by omega) ?_
              have := wtA_b ms.1.1 (sH g (ordOf h1 i))
              show Go (d + 133) true 243 60 [.ref 130, .int (nI jy), .long (lN s), mk_, .int (nI i)] [.long (lN (wtA g (sH g (ordOf h1 i)))), .long (lN (i + 1)), .long (lN s)] h1 Q
              refine exf_go 1 (show Go (d + 133) true 243 61 [.ref 130, .int (nI jy), .long (lN s), mk_, .int (nI i)] [.long ((lN (i + 1)) * (lN (wtA g (sH g (ordOf h1 i))))), .long (lN s)] h1 Q from ?_)
              rw [show ((lN (i + 1)) * (lN (wtA g (sH g (ordOf h1 i)))) : Int64) = lN ((i + 1) * (wtA g (sH g (ordOf h1 i)))) from lN_mul (i + 1) (wtA g (sH g (ordOf h1 i)))]
              refine exf_go 1 (show Go (d + 133) true 243 62 [.ref 130, .int (nI jy), .long (lN s), mk_, .int (nI i)] [.long ((lN s) + (lN ((i + 1) * (wtA g (sH g (ordOf h1 i))))))] h1 Q from ?_)
              rw [show ((lN s) + (lN ((i + 1) * (wtA g (sH g (ordOf h1 i))))) : Int64) = lN (s + ((i + 1) * (wtA g (sH g (ordOf h1 i))))) from lN_add s ((i + 1) * (wtA g (sH g (ordOf h1 i))))]
              refine exf_go 2 (show Go (d + 133) true 243 66 [.ref 130, .int (nI jy), .long (lN (s + ((i + 1) * (wtA g (sH g (ordOf h1 i)))))), mk_, .int ((nI i) + 1)] [] h1 Q from ?_)
              rw [show ((nI i) + 1 : Int32) = nI (i + 1) from nI_add i 1]
              refine exf_go 1 (show Go (d + 133) true 243 39 [.ref 130, .int (nI jy), .long (lN (s + ((i + 1) * (wtA g (sH g (ordOf h1 i)))))), mk_, .int (nI (i + 1))] [] h1 Q from ?_)
              exact ih39 (i + 1) (s + ((i + 1) * (wtA g (sH g (ordOf h1 i))))) (by omega) (by omega) (by rw [hs, sumN])
        exact L39 (cntN (lft g l) (tot g) + 1) 0 0 (by omega) (by omega) rfl
      · skip
        have c3 : (cntN (lft g l) (tot g)) = 0 := (nI_eq (a := (cntN (lft g l) (tot g))) (b := 0) (by omega) (by omega)).mp (Classical.not_not.mp c3)
        refine exf_go 2 (show Q (.long (-5)) h1 from ?_)
        simp only [fMean, ey] at k
        rw [if_pos (show cntL g l = 0 from c3)] at k
        exact k _ q1
    · skip
      exact absurd (by decide) c2
  · skip
    have ey : ixN y 2 = none := u1.elim wi_neg (wi_ge (n := 2) (by omega))
    show Go (d + 133) true 243 12 [.ref 130, .int y, mk_, mk_, mk_] [.int 0] (uI h 130 0 0) Q
    refine exf_go 1 (show (¬ (0 : Int32) = 0 → Go (d + 133) true 243 19 [.ref 130, .int y, mk_, mk_, mk_] [] (uI h 130 0 0) Q) ∧ (¬ (¬ (0 : Int32) = 0) → Go (d + 133) true 243 15 [.ref 130, .int y, mk_, mk_, mk_] [] (uI h 130 0 0) Q) from ⟨fun c5 => ?_, fun c5 => ?_⟩)
    · skip
      exact absurd c5 (by decide)
    · skip
      refine exf_go 2 (show Q (.long (-2)) (uI h 130 0 0) from ?_)
      simp only [fMean, ey] at k
      exact k _ (Fq.uI' Fq.rfl' _ _ _ rfl)
