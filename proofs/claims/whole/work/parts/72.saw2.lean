/-! When to saw: the calls. -/
theorem swR_s {g : ShG} {l : LkG} (k : Nat) : swR g l k + 1 = swC g l (k + 1) := rfl
theorem swR_n {g : ShG} {l : LkG} {k : Nat} (h : ¬ (0 < sBA g ∧ sBA g ≤ swC g l k)) : swC g l k = swR g l k ∧ 0 = swB g l k := by
  unfold swR swB
  rw [if_neg h, if_neg h]; exact ⟨rfl, rfl⟩
theorem swR_y {g : ShG} {l : LkG} {k : Nat} (h : 0 < sBA g ∧ sBA g ≤ swC g l k) : 0 = swR g l k ∧ sBS g = swB g l k := by
  unfold swR swB
  rw [if_pos h, if_pos h]; exact ⟨rfl, rfl⟩
theorem sw_00 {g : ShG} {l : LkG} (bw : BarW g l) : ¬ (0 < sBA g ∧ sBA g ≤ swC g l 0) := fun q => by
  have h := (bw q.1).1
  have h2 : sBA g ≤ lW l := q.2
  omega
theorem c_saw {d : Nat} {h : Hp} {g : ShG} {l : LkG} {x : Int32} {Q : Po} (wf : WF h) (cs : CS 31 g h) (cl : CL 39 g l h) (bw : BarW g l) (k : ∀ h1, Gq scC h h1 → Q (.long (fSaw g l x)) h1) : wpC (d + 7) true 140 [.ref 10, .int x] h Q := by
  have hN := tot_b cs.1
  have he := evr_b cs.1
  have h8 := cs.1.2.2.2.1
  have h4 := cs.1.2.2.2.2.2.1
  have hO1 := cl.1.2.1
  have hw9 := cs.1.2.2.2.2.2.2.2.2.2.2.1
  refine go_in rfl ?_
  refine exf_go 2 (show (x < 0 → Go (d + 6) true 140 9 [.ref 10, .int x] [] h Q) ∧ (¬ (x < 0) → Go (d + 6) true 140 4 [.ref 10, .int x] [] h Q) from ⟨fun c1 => ?_, fun c1 => ?_⟩)
  · skip
    have e1 : ixN x 3 = none := ix_neg c1
    refine exf_go 2 (show Q (.long (-2)) h from ?_)
    simp only [fSaw, e1] at k
    exact k _ Gq.rfl'
  · skip
    refine exf_go 3 (show (x ≤ 2 → Go (d + 6) true 140 13 [.ref 10, .int x] [] h Q) ∧ (¬ (x ≤ 2) → Go (d + 6) true 140 9 [.ref 10, .int x] [] h Q) from ⟨fun c2 => ?_, fun c2 => ?_⟩)
    · skip
      obtain ⟨j, e1, e2, e3⟩ := ix_le (n := 2) (by omega) c1 c2
      subst e2
      refine exf_go 3 (show Go (d + 6) true 140 20 [.ref 10, .int (nI j)] [.int (rI h 31 12)] h Q from ?_)
      rw [show (rI h 31 12 : Int32) = nI (sSw g) from cs_Sw cs]
      refine exf_go 1 (show ((nI (sSw g)) = 0 → Go (d + 6) true 140 43 [.ref 10, .int (nI j)] [] h Q) ∧ (¬ ((nI (sSw g)) = 0) → Go (d + 6) true 140 23 [.ref 10, .int (nI j)] [] h Q) from ⟨fun c3 => ?_, fun c3 => ?_⟩)
      · skip
        have c3 : (sSw g) = 0 := (nI_eq (a := (sSw g)) (b := 0) (by omega) (by omega)).mp c3
        refine exf_go 2 (show Q (.long (-5)) h from ?_)
        simp only [fSaw, e1] at k
        rw [if_pos (show sSw g = 0 ∨ cntL g l = 0 ∨ lO l = 1 from by unfold cntL; omega)] at k
        exact k _ Gq.rfl'
      · skip
        have c3 : ¬ (sSw g) = 0 := fun q => c3 ((nI_eq (a := (sSw g)) (b := 0) (by omega) (by omega)).mpr q)
        refine exf_go 3 (show wpC (d + 6) true 33 [.ref 39] h (fun r h' => Go (d + 6) true 140 30 [.ref 10, .int (nI j)] [r] h' Q) from ?_)
        refine c_leftOnes cs cl ?_
        have := cntN_le (lft g l) (tot g)
        show Go (d + 6) true 140 30 [.ref 10, .int (nI j)] [.int (nI (cntN (lft g l) (tot g)))] h Q
        refine exf_go 1 (show ((nI (cntN (lft g l) (tot g))) = 0 → Go (d + 6) true 140 43 [.ref 10, .int (nI j)] [] h Q) ∧ (¬ ((nI (cntN (lft g l) (tot g))) = 0) → Go (d + 6) true 140 33 [.ref 10, .int (nI j)] [] h Q) from ⟨fun c4 => ?_, fun c4 => ?_⟩)
        · skip
          have c4 : (cntN (lft g l) (tot g)) = 0 := (nI_eq (a := (cntN (lft g l) (tot g))) (b := 0) (by omega) (by omega)).mp c4
          refine exf_go 2 (show Q (.long (-5)) h from ?_)
          simp only [fSaw, e1] at k
          rw [if_pos (show sSw g = 0 ∨ cntL g l = 0 ∨ lO l = 1 from by unfold cntL; omega)] at k
          exact k _ Gq.rfl'
        · skip
          have c4 : ¬ (cntN (lft g l) (tot g)) = 0 := fun q => c4 ((nI_eq (a := (cntN (lft g l) (tot g))) (b := 0) (by omega) (by omega)).mpr q)
          refine exf_go 3 (show Go (d + 6) true 140 40 [.ref 10, .int (nI j)] [.int (rI h 39 7)] h Q from ?_)
          rw [show (rI h 39 7 : Int32) = nI (lO l) from cl_O cl]
          refine exf_go 1 (show ((nI (lO l)) = 0 → Go (d + 6) true 140 47 [.ref 10, .int (nI j)] [] h Q) ∧ (¬ ((nI (lO l)) = 0) → Go (d + 6) true 140 43 [.ref 10, .int (nI j)] [] h Q) from ⟨fun c5 => ?_, fun c5 => ?_⟩)
          · skip
            have c5 : (lO l) = 0 := (nI_eq (a := (lO l)) (b := 0) (by omega) (by omega)).mp c5
            refine exf_go 3 (show wpC (d + 6) true 180 [.ref 10, .int (nI j)] h (fun r h' => Go (d + 6) true 140 52 [.ref 10, .int (nI j)] [r] h' Q) from ?_)
            refine c_plan wf cs cl bw (j := j) (by omega) (show ¬ cntL g l = 0 from by unfold cntL; omega) (fun h1 p1 => ?_)
            show Go (d + 6) true 140 52 [.ref 10, .int (nI j)] [.long (if j = 0 then lN (swM g l (min (cntL g l) 200)).1 else fPart (swM g l (min (cntL g l) 200)).2 (sumL g l) (nI j - 1))] h1 Q
            refine exf_go 1 (show Q (.long (if j = 0 then lN (swM g l (min (cntL g l) 200)).1 else fPart (swM g l (min (cntL g l) 200)).2 (sumL g l) (nI j - 1))) h1 from ?_)
            simp only [fSaw, e1] at k
            rw [if_neg (show ¬ (sSw g = 0 ∨ cntL g l = 0 ∨ lO l = 1) from by unfold cntL; omega)] at k
            exact k _ p1
          · skip
            have c5 : ¬ (lO l) = 0 := fun q => c5 ((nI_eq (a := (lO l)) (b := 0) (by omega) (by omega)).mpr q)
            refine exf_go 2 (show Q (.long (-5)) h from ?_)
            simp only [fSaw, e1] at k
            rw [if_pos (show sSw g = 0 ∨ cntL g l = 0 ∨ lO l = 1 from by unfold cntL; omega)] at k
            exact k _ Gq.rfl'
    · skip
      have e1 : ixN x 3 = none := ix_gt (n := 2) (by omega) c2
      refine exf_go 2 (show Q (.long (-2)) h from ?_)
      simp only [fSaw, e1] at k
      exact k _ Gq.rfl'
theorem m_saw {d : Nat} {h : Hp} {g : ShG} {l : LkG} {x : Int32} {Q : Po} (ms : MS g l h) (bw : BarW g l) (k : ∀ h1, Fq scM h h1 → Q (.long (fSaw g l x)) h1) : wpC (d + 134) true 275 [.ref 130, .int x] h Q := by
  have hN := tot_b ms.1.1
  have h4 := ms.1.1.1
  have h8 := ms.1.1.2.2.2.1
  have he := evr_b ms.1.1
  have hev : evr g = 2 ^ sC g - 1 := rfl
  have hm4 := ms.1.1.2.2.2.2.2.1
  have hkb := ms.1.1.2.2.2.2.2.2.1
  have hO1 := ms.1.2.2.1
  have hb9 := ms.1.1.2.2.2.2.2.2.2.2.1
  have hs9 := ms.1.1.2.2.2.2.2.2.2.2.2.1
  have hw9 := ms.1.1.2.2.2.2.2.2.2.2.2.2.1
  have hp6 := ms.1.1.2.2.2.2.2.2.2.1
  refine go_in rfl ?_
  refine exf_go 8 (show wpC (d + 133) true 183 [.long x.toInt64, .long 0, .long 2] (uI h 130 0 0) (fun r h' => Go (d + 133) true 275 14 [.ref 130, .int x, mk_, mk_, mk_, mk_, mk_, mk_, mk_, mk_, mk_, mk_, mk_, mk_, mk_, mk_, mk_, mk_, mk_, mk_, mk_] [r] h' Q) from ?_)
  refine m_within (fun u1 v1 => ?_) (fun u1 => ?_)
  · skip
    obtain ⟨j1, e1, e1q, e1r⟩ := wi_in (n := 3) (by omega) u1 v1
    subst e1q
    show Go (d + 133) true 275 14 [.ref 130, .int (nI j1), mk_, mk_, mk_, mk_, mk_, mk_, mk_, mk_, mk_, mk_, mk_, mk_, mk_, mk_, mk_, mk_, mk_, mk_, mk_] [.int 1] (uI h 130 0 0) Q
    refine exf_go 1 (show (¬ (1 : Int32) = 0 → Go (d + 133) true 275 21 [.ref 130, .int (nI j1), mk_, mk_, mk_, mk_, mk_, mk_, mk_, mk_, mk_, mk_, mk_, mk_, mk_, mk_, mk_, mk_, mk_, mk_, mk_] [] (uI h 130 0 0) Q) ∧ (¬ (¬ (1 : Int32) = 0) → Go (d + 133) true 275 17 [.ref 130, .int (nI j1), mk_, mk_, mk_, mk_, mk_, mk_, mk_, mk_, mk_, mk_, mk_, mk_, mk_, mk_, mk_, mk_, mk_, mk_, mk_] [] (uI h 130 0 0) Q) from ⟨fun c2 => ?_, fun c2 => ?_⟩)
    · skip
      refine exf_go 2 (show wpC (d + 133) true 228 [.ref 130] (uI h 130 0 0) (fun _ h' => Go (d + 133) true 275 25 [.ref 130, .int (nI j1), mk_, mk_, mk_, mk_, mk_, mk_, mk_, mk_, mk_, mk_, mk_, mk_, mk_, mk_, mk_, mk_, mk_, mk_, mk_] [] h' Q) from ?_)
      refine m_laysLeft (ms_fq ms (Fq.uI' Fq.rfl' _ _ _ rfl)) (fun h1 p1 mw1 mo1 => ?_)
      have q1 := Fq.tr (Fq.uI' Fq.rfl' _ _ _ rfl) p1
      have ms1 := ms_fq ms q1
      have hcc := cntN_le (lft g l) (tot g)
      show Go (d + 133) true 275 25 [.ref 130, .int (nI j1), mk_, mk_, mk_, mk_, mk_, mk_, mk_, mk_, mk_, mk_, mk_, mk_, mk_, mk_, mk_, mk_, mk_, mk_, mk_] [] h1 Q
      refine exf_go 4 (show vp_in 8 41523 ∧ (Go (d + 133) true 275 32 [.ref 130, .int (nI j1), mk_, mk_, mk_, mk_, mk_, mk_, mk_, mk_, mk_, mk_, mk_, mk_, mk_, mk_, mk_, mk_, mk_, mk_, mk_] [.int (rI h1 131 8)] h1 Q) from ⟨(vp_in_nI (n := 8) (by decide) (by decide)), ?_⟩)
      rw [show (rI h1 131 8 : Int32) = nI (sSw g) from ms_Sw ms1]
      refine exf_go 1 (show ((nI (sSw g)) = 0 → Go (d + 133) true 275 53 [.ref 130, .int (nI j1), mk_, mk_, mk_, mk_, mk_, mk_, mk_, mk_, mk_, mk_, mk_, mk_, mk_, mk_, mk_, mk_, mk_, mk_, mk_] [] h1 Q) ∧ (¬ ((nI (sSw g)) = 0) → Go (d + 133) true 275 35 [.ref 130, .int (nI j1), mk_, mk_, mk_, mk_, mk_, mk_, mk_, mk_, mk_, mk_, mk_, mk_, mk_, mk_, mk_, mk_, mk_, mk_, mk_] [] h1 Q) from ⟨fun c3 => ?_, fun c3 => ?_⟩)
      · skip
        have c3 : (sSw g) = 0 := (nI_eq (a := (sSw g)) (b := 0) (by omega) (by omega)).mp c3
        refine exf_go 2 (show Q (.long (-5)) h1 from ?_)
        simp only [fSaw, e1] at k
        rw [if_pos (show sSw g = 0 ∨ cntL g l = 0 ∨ lO l = 1 from by unfold cntL; omega)] at k
        exact k _ q1
      · skip
        have c3 : ¬ (sSw g) = 0 := fun q => c3 ((nI_eq (a := (sSw g)) (b := 0) (by omega) (by omega)).mpr q)
        refine exf_go 2 (show Go (d + 133) true 275 39 [.ref 130, .int (nI j1), mk_, mk_, mk_, mk_, mk_, mk_, mk_, mk_, mk_, mk_, mk_, mk_, mk_, mk_, mk_, mk_, mk_, mk_, mk_] [.int (rI h1 130 22)] h1 Q from ?_)
        rw [show (rI h1 130 22 : Int32) = nI (cntN (lft g l) (tot g)) from mo1.1]
        refine exf_go 1 (show ((nI (cntN (lft g l) (tot g))) = 0 → Go (d + 133) true 275 53 [.ref 130, .int (nI j1), mk_, mk_, mk_, mk_, mk_, mk_, mk_, mk_, mk_, mk_, mk_, mk_, mk_, mk_, mk_, mk_, mk_, mk_, mk_] [] h1 Q) ∧ (¬ ((nI (cntN (lft g l) (tot g))) = 0) → Go (d + 133) true 275 42 [.ref 130, .int (nI j1), mk_, mk_, mk_, mk_, mk_, mk_, mk_, mk_, mk_, mk_, mk_, mk_, mk_, mk_, mk_, mk_, mk_, mk_, mk_] [] h1 Q) from ⟨fun c4 => ?_, fun c4 => ?_⟩)
        · skip
          have c4 : (cntN (lft g l) (tot g)) = 0 := (nI_eq (a := (cntN (lft g l) (tot g))) (b := 0) (by omega) (by omega)).mp c4
          refine exf_go 2 (show Q (.long (-5)) h1 from ?_)
          simp only [fSaw, e1] at k
          rw [if_pos (show sSw g = 0 ∨ cntL g l = 0 ∨ lO l = 1 from by unfold cntL; omega)] at k
          exact k _ q1
        · skip
          have c4 : ¬ (cntN (lft g l) (tot g)) = 0 := fun q => c4 ((nI_eq (a := (cntN (lft g l) (tot g))) (b := 0) (by omega) (by omega)).mpr q)
          refine exf_go 4 (show vp_in 53 41523 ∧ (Go (d + 133) true 275 49 [.ref 130, .int (nI j1), mk_, mk_, mk_, mk_, mk_, mk_, mk_, mk_, mk_, mk_, mk_, mk_, mk_, mk_, mk_, mk_, mk_, mk_, mk_] [.int (rI h1 131 53)] h1 Q) from ⟨(vp_in_nI (n := 53) (by decide) (by decide)), ?_⟩)
          rw [show (rI h1 131 53 : Int32) = nI (lO l) from ms_Op ms1]
          refine exf_go 2 (show (¬ (nI (lO l)) = 1 → Go (d + 133) true 275 57 [.ref 130, .int (nI j1), mk_, mk_, mk_, mk_, mk_, mk_, mk_, mk_, mk_, mk_, mk_, mk_, mk_, mk_, mk_, mk_, mk_, mk_, mk_] [] h1 Q) ∧ (¬ (¬ (nI (lO l)) = 1) → Go (d + 133) true 275 53 [.ref 130, .int (nI j1), mk_, mk_, mk_, mk_, mk_, mk_, mk_, mk_, mk_, mk_, mk_, mk_, mk_, mk_, mk_, mk_, mk_, mk_, mk_] [] h1 Q) from ⟨fun c5 => ?_, fun c5 => ?_⟩)
          · skip
            have c5 : ¬ (lO l) = 1 := fun q => c5 ((nI_eq (a := (lO l)) (b := 1) (by omega) (by omega)).mpr q)
            refine exf_go 2 (show wpC (d + 133) true 230 [.ref 130] h1 (fun r h' => Go (d + 133) true 275 61 [.ref 130, .int (nI j1), mk_, mk_, mk_, mk_, mk_, mk_, mk_, mk_, mk_, mk_, mk_, mk_, mk_, mk_, mk_, mk_, mk_, mk_, mk_] [r] h' Q) from ?_)
            refine m_weightAll ms1 mw1 mo1 ?_
            have hsL : sumL g l ≤ 1000000000000 := sumN_b (lwt_b ms.1.1 l) _ hN.2
            show Go (d + 133) true 275 61 [.ref 130, .int (nI j1), mk_, mk_, mk_, mk_, mk_, mk_, mk_, mk_, mk_, mk_, mk_, mk_, mk_, mk_, mk_, mk_, mk_, mk_, mk_] [.long (lN (sumL g l))] h1 Q
            refine exf_go 10 (show vp_in 8 41523 ∧ (Go (d + 133) true 275 76 [.ref 130, .int (nI j1), .long (lN (sumL g l)), mk_, .long (lN (sumL g l)), mk_, .long 0, mk_, mk_, mk_, mk_, mk_, mk_, mk_, mk_, mk_, mk_, mk_, mk_, mk_, mk_] [.int (rI h1 131 8), .long (lN (sumL g l))] h1 Q) from ⟨(vp_in_nI (n := 8) (by decide) (by decide)), ?_⟩)
            rw [show (rI h1 131 8 : Int32) = nI (sSw g) from ms_Sw ms1]
            refine exf_go 1 (show Go (d + 133) true 275 77 [.ref 130, .int (nI j1), .long (lN (sumL g l)), mk_, .long (lN (sumL g l)), mk_, .long 0, mk_, mk_, mk_, mk_, mk_, mk_, mk_, mk_, mk_, mk_, mk_, mk_, mk_, mk_] [.long ((nI (sSw g)).toInt64), .long (lN (sumL g l))] h1 Q from ?_)
            rw [show ((nI (sSw g)).toInt64 : Int64) = lN (sSw g) from nI_l (n := (sSw g)) (by omega)]
            refine exf_go 1 (show Go (d + 133) true 275 78 [.ref 130, .int (nI j1), .long (lN (sumL g l)), mk_, .long (lN (sumL g l)), mk_, .long 0, mk_, mk_, mk_, mk_, mk_, mk_, mk_, mk_, mk_, mk_, mk_, mk_, mk_, mk_] [.long ((lN (sumL g l)) * (lN (sSw g)))] h1 Q from ?_)
            rw [show ((lN (sumL g l)) * (lN (sSw g)) : Int64) = lN ((sumL g l) * (sSw g)) from lN_mul (sumL g l) (sSw g)]
            refine exf_go 7 (show vp_in 50 41523 ∧ (Go (d + 133) true 275 90 [.ref 130, .int (nI j1), .long (lN (sumL g l)), mk_, .long (lN (sumL g l)), mk_, .long 0, mk_, .long (lN ((sumL g l) * (sSw g))), mk_, .int 0, mk_, mk_, mk_, mk_, mk_, mk_, mk_, mk_, mk_, mk_] [.int (rI h1 131 50)] h1 Q) from ⟨(vp_in_nI (n := 50) (by decide) (by decide)), ?_⟩)
            rw [show (rI h1 131 50 : Int32) = nI (lA l) from ms_A ms1]
            refine exf_go 5 (show vp_in 52 41523 ∧ (Go (d + 133) true 275 99 [.ref 130, .int (nI j1), .long (lN (sumL g l)), mk_, .long (lN (sumL g l)), mk_, .long 0, mk_, .long (lN ((sumL g l) * (sSw g))), mk_, .int 0, .int (nI (lA l)), mk_, mk_, mk_, mk_, mk_, mk_, mk_, mk_, mk_] [.int (rI h1 131 52)] h1 Q) from ⟨(vp_in_nI (n := 52) (by decide) (by decide)), ?_⟩)
            rw [show (rI h1 131 52 : Int32) = nI (lW l) from (ms_G ms1).trans (lW_n l)]
            refine exf_go 7 (show Go (d + 133) true 275 110 [.ref 130, .int (nI j1), .long (lN (sumL g l)), mk_, .long (lN (sumL g l)), mk_, .long 0, mk_, .long (lN ((sumL g l) * (sSw g))), mk_, .int 0, .int (nI (lA l)), .int (nI (lW l)), .long 0, mk_, .long 0, mk_, .int 1, mk_, mk_, mk_] [] h1 Q from ?_)
            have L110 : ∀ (k110 : Nat) (z18 z19 : Value) (i rr o x c br f b m : Nat), (min (cntN (lft g l) (tot g)) 200 - i) < k110 → (i ≤ min (cntN (lft g l) (tot g)) 200) → (rr = sumL g l - fstL g l i) → (o = swO g l i) → (x = swX g l i) → (c = swR g l i) → (br = swB g l i) → (f = swA g l i) → ((b, m) = swM g l i) → Go (d + 133) true 275 110 [.ref 130, .int (nI j1), .long (lN (sumL g l)), mk_, .long (lN rr), mk_, .long (lN o), mk_, .long (lN m), mk_, .int (nI b), .int (nI f), .int (nI c), .long (lN x), mk_, .long (lN br), mk_, .int (nI (i + 1)), z18, z19, mk_] [] h1 Q := by
              intro k110
              induction k110 with
              | zero => intro z18 z19 i rr o x c br f b m hk; exact absurd hk (Nat.not_lt_zero _)
              | succ k110 ih110 =>
                intro z18 z19 i rr o x c br f b m hk hi hR hO hX hC hB hA hs
                have hfl : f < tot g := by rw [hA]; cases i with | zero => exact ms.1.2.1 | succ i => exact (ordE_in (E := lft g l) (g := g) (kn := evr g) (k := i) (by omega)).1
                have hfs : fstL g l (i + 1) ≤ sumL g l ∨ i = min (cntN (lft g l) (tot g)) 200 := by rcases Nat.lt_or_ge i (min (cntN (lft g l) (tot g)) 200) with q | q; exact Or.inl (fst_le (by omega)); exact Or.inr (by omega)
                have hfss := fst_s g l i
                have hBb := swB_b ms.1.1 l i
                have hXb := swX_b ms.1.1 l i
                have hOb := swO_b ms.1.1 l i (by omega)
                have hCb := swC_b ms.1.1 bw
                have hmb := swM_b ms.1.1 l i (by omega)
                rw [← hs] at hmb
                have hmb1 : b ≤ i := hmb.1
                have hmb2 : m ≤ 1000000000000000000 := hmb.2
                have hWb : swW g l i ≤ 100000000 := wtA_b ms.1.1 _
                have hbw2 := bw
                refine exf_go 3 (show Go (d + 133) true 275 116 [.ref 130, .int (nI j1), .long (lN (sumL g l)), mk_, .long (lN rr), mk_, .long (lN o), mk_, .long (lN m), mk_, .int (nI b), .int (nI f), .int (nI c), .long (lN x), mk_, .long (lN br), mk_, .int (nI (i + 1)), z18, z19, mk_] [.int (rI h1 130 22), .int (nI (i + 1))] h1 Q from ?_)
                rw [show (rI h1 130 22 : Int32) = nI (cntN (lft g l) (tot g)) from mo1.1]
                refine exf_go 1 (show ((nI (cntN (lft g l) (tot g))) < (nI (i + 1)) → Go (d + 133) true 275 294 [.ref 130, .int (nI j1), .long (lN (sumL g l)), mk_, .long (lN rr), mk_, .long (lN o), mk_, .long (lN m), mk_, .int (nI b), .int (nI f), .int (nI c), .long (lN x), mk_, .long (lN br), mk_, .int (nI (i + 1)), z18, z19, mk_] [] h1 Q) ∧ (¬ ((nI (cntN (lft g l) (tot g))) < (nI (i + 1))) → Go (d + 133) true 275 119 [.ref 130, .int (nI j1), .long (lN (sumL g l)), mk_, .long (lN rr), mk_, .long (lN o), mk_, .long (lN m), mk_, .int (nI b), .int (nI f), .int (nI c), .long (lN x), mk_, .long (lN br), mk_, .int (nI (i + 1)), z18, z19, mk_] [] h1 Q) from ⟨fun c6 => ?_, fun c6 => ?_⟩)
                · skip
                  have c6 : (cntN (lft g l) (tot g)) < (i + 1) := (nI_ltI (a := (cntN (lft g l) (tot g))) (b := (i + 1)) (by omega) (by omega)).mp c6
                  refine exf_go 2 (show (¬ (nI j1) = 0 → Go (d + 133) true 275 304 [.ref 130, .int (nI j1), .long (lN (sumL g l)), mk_, .long (lN rr), mk_, .long (lN o), mk_, .long (lN m), mk_, .int (nI b), .int (nI f), .int (nI c), .long (lN x), mk_, .long (lN br), mk_, .int (nI (i + 1)), z18, z19, mk_] [] h1 Q) ∧ (¬ (¬ (nI j1) = 0) → Go (d + 133) true 275 298 [.ref 130, .int (nI j1), .long (lN (sumL g l)), mk_, .long (lN rr), mk_, .long (lN o), mk_, .long (lN m), mk_, .int (nI b), .int (nI f), .int (nI c), .long (lN x), mk_, .long (lN br), mk_, .int (nI (i + 1)), z18, z19, mk_] [] h1 Q) from ⟨fun c7 => ?_, fun c7 => ?_⟩)
                  · skip
                    have c7 : ¬ j1 = 0 := fun q => c7 ((nI_eq (a := j1) (b := 0) (by omega) (by omega)).mpr q)
                    refine exf_go 6 (show wpC (d + 133) true 236 [.long (lN m), .long (lN (sumL g l)), .int ((nI j1) - 1)] h1 (fun r h' => Go (d + 133) true 275 313 [.ref 130, .int (nI j1), .long (lN (sumL g l)), mk_, .long (lN rr), mk_, .long (lN o), mk_, .long (lN m), mk_, .int (nI b), .int (nI f), .int (nI c), .long (lN x), mk_, .long (lN br), mk_, .int (nI (i + 1)), z18, z19, mk_] [r] h' Q) from ?_)
                    have hsp := sumL_pos (l := l) ms.1.1 (by omega)
                    refine m_part (u := m) (v := (sumL g l)) (by omega) (by omega) (by omega) ?_
                    show Go (d + 133) true 275 313 [.ref 130, .int (nI j1), .long (lN (sumL g l)), mk_, .long (lN rr), mk_, .long (lN o), mk_, .long (lN m), mk_, .int (nI b), .int (nI f), .int (nI c), .long (lN x), mk_, .long (lN br), mk_, .int (nI (i + 1)), z18, z19, mk_] [.long (fPart m (sumL g l) ((nI j1) - 1))] h1 Q
                    refine exf_go 1 (show Q (.long (fPart m (sumL g l) ((nI j1) - 1))) h1 from ?_)
                    simp only [fSaw, e1] at k
                    rw [if_neg (show ¬ (sSw g = 0 ∨ cntL g l = 0 ∨ lO l = 1) from by unfold cntL; omega)] at k
                    rw [show i = min (cntN (lft g l) (tot g)) 200 from by omega] at hs
                    rw [if_neg (by omega), cntL, ← hs] at k
                    exact k _ q1
                  · skip
                    have c7 : j1 = 0 := (nI_eq (a := j1) (b := 0) (by omega) (by omega)).mp (Classical.not_not.mp c7)
                    refine exf_go 2 (show Go (d + 133) true 275 301 [.ref 130, .int (nI j1), .long (lN (sumL g l)), mk_, .long (lN rr), mk_, .long (lN o), mk_, .long (lN m), mk_, .int (nI b), .int (nI f), .int (nI c), .long (lN x), mk_, .long (lN br), mk_, .int (nI (i + 1)), z18, z19, mk_] [.long ((nI b).toInt64)] h1 Q from ?_)
                    rw [show ((nI b).toInt64 : Int64) = lN b from nI_l (n := b) (by omega)]
                    refine exf_go 2 (show Q (.long (lN b)) h1 from ?_)
                    simp only [fSaw, e1] at k
                    rw [if_neg (show ¬ (sSw g = 0 ∨ cntL g l = 0 ∨ lO l = 1) from by unfold cntL; omega)] at k
                    rw [show i = min (cntN (lft g l) (tot g)) 200 from by omega] at hs
                    rw [if_pos (by omega), cntL, ← hs] at k
                    exact k _ q1
                · skip
                  have c6 : ¬ (cntN (lft g l) (tot g)) < (i + 1) := fun q => c6 ((nI_ltI (a := (cntN (lft g l) (tot g))) (b := (i + 1)) (by omega) (by omega)).mpr q)
                  refine exf_go 3 (show (200 < (nI (i + 1)) → Go (d + 133) true 275 294 [.ref 130, .int (nI j1), .long (lN (sumL g l)), mk_, .long (lN rr), mk_, .long (lN o), mk_, .long (lN m), mk_, .int (nI b), .int (nI f), .int (nI c), .long (lN x), mk_, .long (lN br), mk_, .int (nI (i + 1)), z18, z19, mk_] [] h1 Q) ∧ (¬ (200 < (nI (i + 1))) → Go (d + 133) true 275 127 [.ref 130, .int (nI j1), .long (lN (sumL g l)), mk_, .long (lN rr), mk_, .long (lN o), mk_, .long (lN m), mk_, .int (nI b), .int (nI f), .int (nI c), .long (lN x), mk_, .long (lN br), mk_, .int (nI (i + 1)), z18, z19, mk_] [] h1 Q) from ⟨fun c8 => ?_, fun c8 => ?_⟩)
                  · skip
                    have c8 : 200 < (i + 1) := (nI_ltI (a := 200) (b := (i + 1)) (by omega) (by omega)).mp c8
                    refine exf_go 2 (show (¬ (nI j1) = 0 → Go (d + 133) true 275 304 [.ref 130, .int (nI j1), .long (lN (sumL g l)), mk_, .long (lN rr), mk_, .long (lN o), mk_, .long (lN m), mk_, .int (nI b), .int (nI f), .int (nI c), .long (lN x), mk_, .long (lN br), mk_, .int (nI (i + 1)), z18, z19, mk_] [] h1 Q) ∧ (¬ (¬ (nI j1) = 0) → Go (d + 133) true 275 298 [.ref 130, .int (nI j1), .long (lN (sumL g l)), mk_, .long (lN rr), mk_, .long (lN o), mk_, .long (lN m), mk_, .int (nI b), .int (nI f), .int (nI c), .long (lN x), mk_, .long (lN br), mk_, .int (nI (i + 1)), z18, z19, mk_] [] h1 Q) from ⟨fun c9 => ?_, fun c9 => ?_⟩)
                    · skip
                      have c9 : ¬ j1 = 0 := fun q => c9 ((nI_eq (a := j1) (b := 0) (by omega) (by omega)).mpr q)
                      refine exf_go 6 (show wpC (d + 133) true 236 [.long (lN m), .long (lN (sumL g l)), .int ((nI j1) - 1)] h1 (fun r h' => Go (d + 133) true 275 313 [.ref 130, .int (nI j1), .long (lN (sumL g l)), mk_, .long (lN rr), mk_, .long (lN o), mk_, .long (lN m), mk_, .int (nI b), .int (nI f), .int (nI c), .long (lN x), mk_, .long (lN br), mk_, .int (nI (i + 1)), z18, z19, mk_] [r] h' Q) from ?_)
                      have hsp := sumL_pos (l := l) ms.1.1 (by omega)
                      refine m_part (u := m) (v := (sumL g l)) (by omega) (by omega) (by omega) ?_
                      show Go (d + 133) true 275 313 [.ref 130, .int (nI j1), .long (lN (sumL g l)), mk_, .long (lN rr), mk_, .long (lN o), mk_, .long (lN m), mk_, .int (nI b), .int (nI f), .int (nI c), .long (lN x), mk_, .long (lN br), mk_, .int (nI (i + 1)), z18, z19, mk_] [.long (fPart m (sumL g l) ((nI j1) - 1))] h1 Q
                      refine exf_go 1 (show Q (.long (fPart m (sumL g l) ((nI j1) - 1))) h1 from ?_)
                      simp only [fSaw, e1] at k
                      rw [if_neg (show ¬ (sSw g = 0 ∨ cntL g l = 0 ∨ lO l = 1) from by unfold cntL; omega)] at k
                      rw [show i = min (cntN (lft g l) (tot g)) 200 from by omega] at hs
                      rw [if_neg (by omega), cntL, ← hs] at k
                      exact k _ q1
                    · skip
                      have c9 : j1 = 0 := (nI_eq (a := j1) (b := 0) (by omega) (by omega)).mp (Classical.not_not.mp c9)
                      refine exf_go 2 (show Go (d + 133) true 275 301 [.ref 130, .int (nI j1), .long (lN (sumL g l)), mk_, .long (lN rr), mk_, .long (lN o), mk_, .long (lN m), mk_, .int (nI b), .int (nI f), .int (nI c), .long (lN x), mk_, .long (lN br), mk_, .int (nI (i + 1)), z18, z19, mk_] [.long ((nI b).toInt64)] h1 Q from ?_)
                      rw [show ((nI b).toInt64 : Int64) = lN b from nI_l (n := b) (by omega)]
                      refine exf_go 2 (show Q (.long (lN b)) h1 from ?_)
                      simp only [fSaw, e1] at k
                      rw [if_neg (show ¬ (sSw g = 0 ∨ cntL g l = 0 ∨ lO l = 1) from by unfold cntL; omega)] at k
                      rw [show i = min (cntN (lft g l) (tot g)) 200 from by omega] at hs
                      rw [if_pos (by omega), cntL, ← hs] at k
                      exact k _ q1
                  · skip
                    have c8 : ¬ 200 < (i + 1) := fun q => c8 ((nI_ltI (a := 200) (b := (i + 1)) (by omega) (by omega)).mpr q)
                    refine exf_go 5 (show Go (d + 133) true 275 135 [.ref 130, .int (nI j1), .long (lN (sumL g l)), mk_, .long (lN rr), mk_, .long (lN o), mk_, .long (lN m), mk_, .int (nI b), .int (nI f), .int (nI c), .long (lN x), mk_, .long (lN br), mk_, .int (nI (i + 1)), z18, z19, mk_] [.int ((nI (i + 1)) - 1), .ref 140] h1 Q from ?_)
                    rw [show ((nI (i + 1)) - 1 : Int32) = nI i from nI_pred i]
                    refine exf_go 1 (show vp_in (nI i) 10000 ∧ (Go (d + 133) true 275 136 [.ref 130, .int (nI j1), .long (lN (sumL g l)), mk_, .long (lN rr), mk_, .long (lN o), mk_, .long (lN m), mk_, .int (nI b), .int (nI f), .int (nI c), .long (lN x), mk_, .long (lN br), mk_, .int (nI (i + 1)), z18, z19, mk_] [.int (rI h1 140 ((nI i).toNatClampNeg))] h1 Q) from ⟨(vp_in_nI (by omega) (by omega)), ?_⟩)
                    rw [show (rI h1 140 ((nI i).toNatClampNeg) : Int32) = nI (ordE (lft g l) g (evr g) i) from mo_atE ms.1.1 mo1 (k := i) (by omega)]
                    have hoi := ordE_in (E := (lft g l)) (g := g) (kn := (evr g)) (k := i) (by omega)
                    refine exf_go 7 (show wpC (d + 133) true 251 [.ref 130, .int (nI f), .int (nI (ordE (lft g l) g (evr g) i))] h1 (fun r h' => Go (d + 133) true 275 150 [.ref 130, .int (nI j1), .long (lN (sumL g l)), mk_, .long (lN rr), mk_, .long (lN o), mk_, .long (lN m), mk_, .int (nI b), .int (nI f), .int (nI c), .long (lN x), mk_, .long (lN br), mk_, .int (nI (i + 1)), .int (nI (ordE (lft g l) g (evr g) i)), z19, mk_] [r, .long (lN br), .long (lN x)] h' Q) from ?_)
                    refine m_turns ms1 (by omega) (by omega) ?_
                    have := trn_b ms.1.1 f (ordE (lft g l) g (evr g) i)
                    show Go (d + 133) true 275 150 [.ref 130, .int (nI j1), .long (lN (sumL g l)), mk_, .long (lN rr), mk_, .long (lN o), mk_, .long (lN m), mk_, .int (nI b), .int (nI f), .int (nI c), .long (lN x), mk_, .long (lN br), mk_, .int (nI (i + 1)), .int (nI (ordE (lft g l) g (evr g) i)), z19, mk_] [.int (nI (trn g f (ordE (lft g l) g (evr g) i))), .long (lN br), .long (lN x)] h1 Q
                    refine exf_go 1 (show Go (d + 133) true 275 151 [.ref 130, .int (nI j1), .long (lN (sumL g l)), mk_, .long (lN rr), mk_, .long (lN o), mk_, .long (lN m), mk_, .int (nI b), .int (nI f), .int (nI c), .long (lN x), mk_, .long (lN br), mk_, .int (nI (i + 1)), .int (nI (ordE (lft g l) g (evr g) i)), z19, mk_] [.long ((nI (trn g f (ordE (lft g l) g (evr g) i))).toInt64), .long (lN br), .long (lN x)] h1 Q from ?_)
                    rw [show ((nI (trn g f (ordE (lft g l) g (evr g) i))).toInt64 : Int64) = lN (trn g f (ordE (lft g l) g (evr g) i)) from nI_l (n := (trn g f (ordE (lft g l) g (evr g) i))) (by omega)]
                    refine exf_go 1 (show Go (d + 133) true 275 152 [.ref 130, .int (nI j1), .long (lN (sumL g l)), mk_, .long (lN rr), mk_, .long (lN o), mk_, .long (lN m), mk_, .int (nI b), .int (nI f), .int (nI c), .long (lN x), mk_, .long (lN br), mk_, .int (nI (i + 1)), .int (nI (ordE (lft g l) g (evr g) i)), z19, mk_] [.long ((lN br) + (lN (trn g f (ordE (lft g l) g (evr g) i)))), .long (lN x)] h1 Q from ?_)
                    rw [show ((lN br) + (lN (trn g f (ordE (lft g l) g (evr g) i))) : Int64) = lN (br + (trn g f (ordE (lft g l) g (evr g) i))) from lN_add br (trn g f (ordE (lft g l) g (evr g) i))]
                    refine exf_go 4 (show vp_in 5 41523 ∧ (Go (d + 133) true 275 158 [.ref 130, .int (nI j1), .long (lN (sumL g l)), mk_, .long (lN rr), mk_, .long (lN o), mk_, .long (lN m), mk_, .int (nI b), .int (nI f), .int (nI c), .long (lN x), mk_, .long (lN br), mk_, .int (nI (i + 1)), .int (nI (ordE (lft g l) g (evr g) i)), z19, mk_] [.int (rI h1 131 5), .long (lN (br + (trn g f (ordE (lft g l) g (evr g) i)))), .long (lN x)] h1 Q) from ⟨(vp_in_nI (n := 5) (by decide) (by decide)), ?_⟩)
                    rw [show (rI h1 131 5 : Int32) = nI (sP g) from ms_P ms1]
                    refine exf_go 1 (show Go (d + 133) true 275 159 [.ref 130, .int (nI j1), .long (lN (sumL g l)), mk_, .long (lN rr), mk_, .long (lN o), mk_, .long (lN m), mk_, .int (nI b), .int (nI f), .int (nI c), .long (lN x), mk_, .long (lN br), mk_, .int (nI (i + 1)), .int (nI (ordE (lft g l) g (evr g) i)), z19, mk_] [.long ((nI (sP g)).toInt64), .long (lN (br + (trn g f (ordE (lft g l) g (evr g) i)))), .long (lN x)] h1 Q from ?_)
                    rw [show ((nI (sP g)).toInt64 : Int64) = lN (sP g) from nI_l (n := (sP g)) (by omega)]
                    refine exf_go 1 (show Go (d + 133) true 275 160 [.ref 130, .int (nI j1), .long (lN (sumL g l)), mk_, .long (lN rr), mk_, .long (lN o), mk_, .long (lN m), mk_, .int (nI b), .int (nI f), .int (nI c), .long (lN x), mk_, .long (lN br), mk_, .int (nI (i + 1)), .int (nI (ordE (lft g l) g (evr g) i)), z19, mk_] [.long ((lN (br + (trn g f (ordE (lft g l) g (evr g) i)))) + (lN (sP g))), .long (lN x)] h1 Q from ?_)
                    rw [show ((lN (br + (trn g f (ordE (lft g l) g (evr g) i)))) + (lN (sP g)) : Int64) = lN ((br + (trn g f (ordE (lft g l) g (evr g) i))) + (sP g)) from lN_add (br + (trn g f (ordE (lft g l) g (evr g) i))) (sP g)]
                    refine exf_go 1 (show Go (d + 133) true 275 161 [.ref 130, .int (nI j1), .long (lN (sumL g l)), mk_, .long (lN rr), mk_, .long (lN o), mk_, .long (lN m), mk_, .int (nI b), .int (nI f), .int (nI c), .long (lN x), mk_, .long (lN br), mk_, .int (nI (i + 1)), .int (nI (ordE (lft g l) g (evr g) i)), z19, mk_] [.long ((lN x) + (lN ((br + (trn g f (ordE (lft g l) g (evr g) i))) + (sP g))))] h1 Q from ?_)
                    rw [show ((lN x) + (lN ((br + (trn g f (ordE (lft g l) g (evr g) i))) + (sP g))) : Int64) = lN (swX g l (i + 1)) from (lN_add _ _).trans (congrArg lN (by rw [swX, ← hB, ← hX, ← hA]; show _ = _ + trn g f (ordE (lft g l) g (evr g) i) + sP g; omega))]
                    have hXb2 := swX_b ms.1.1 l (i + 1)
                    refine exf_go 8 (show Go (d + 133) true 275 174 [.ref 130, .int (nI j1), .long (lN (sumL g l)), mk_, .long (lN rr), mk_, .long (lN o), mk_, .long (lN m), mk_, .int (nI b), .int (nI (ordE (lft g l) g (evr g) i)), .int (nI c), .long (lN (swX g l (i + 1))), mk_, .long (lN br), mk_, .int (nI (i + 1)), .int (nI (ordE (lft g l) g (evr g) i)), z19, mk_] [.int ((nI (i + 1)) - 1), .ref 130, .long (lN o)] h1 Q from ?_)
                    rw [show ((nI (i + 1)) - 1 : Int32) = nI i from nI_pred i]
                    refine exf_go 1 (show wpC (d + 133) true 229 [.ref 130, .int (nI i)] h1 (fun r h' => Go (d + 133) true 275 177 [.ref 130, .int (nI j1), .long (lN (sumL g l)), mk_, .long (lN rr), mk_, .long (lN o), mk_, .long (lN m), mk_, .int (nI b), .int (nI (ordE (lft g l) g (evr g) i)), .int (nI c), .long (lN (swX g l (i + 1))), mk_, .long (lN br), mk_, .int (nI (i + 1)), .int (nI (ordE (lft g l) g (evr g) i)), z19, mk_] [r, .long (lN o)] h' Q) from ?_)
                    refine m_weightAtE ms1 mw1 mo1 (j := i) (by omega) ?_
                    show Go (d + 133) true 275 177 [.ref 130, .int (nI j1), .long (lN (sumL g l)), mk_, .long (lN rr), mk_, .long (lN o), mk_, .long (lN m), mk_, .int (nI b), .int (nI (ordE (lft g l) g (evr g) i)), .int (nI c), .long (lN (swX g l (i + 1))), mk_, .long (lN br), mk_, .int (nI (i + 1)), .int (nI (ordE (lft g l) g (evr g) i)), z19, mk_] [.long (lN (swW g l i)), .long (lN o)] h1 Q
                    refine exf_go 2 (show Go (d + 133) true 275 180 [.ref 130, .int (nI j1), .long (lN (sumL g l)), mk_, .long (lN rr), mk_, .long (lN o), mk_, .long (lN m), mk_, .int (nI b), .int (nI (ordE (lft g l) g (evr g) i)), .int (nI c), .long (lN (swX g l (i + 1))), mk_, .long (lN br), mk_, .int (nI (i + 1)), .int (nI (ordE (lft g l) g (evr g) i)), z19, mk_] [.long ((lN (swW g l i)) * (lN (swX g l (i + 1)))), .long (lN o)] h1 Q from ?_)
                    rw [show ((lN (swW g l i)) * (lN (swX g l (i + 1))) : Int64) = lN ((swW g l i) * (swX g l (i + 1))) from lN_mul (swW g l i) (swX g l (i + 1))]
                    refine exf_go 1 (show Go (d + 133) true 275 181 [.ref 130, .int (nI j1), .long (lN (sumL g l)), mk_, .long (lN rr), mk_, .long (lN o), mk_, .long (lN m), mk_, .int (nI b), .int (nI (ordE (lft g l) g (evr g) i)), .int (nI c), .long (lN (swX g l (i + 1))), mk_, .long (lN br), mk_, .int (nI (i + 1)), .int (nI (ordE (lft g l) g (evr g) i)), z19, mk_] [.long ((lN o) + (lN ((swW g l i) * (swX g l (i + 1)))))] h1 Q from ?_)
                    rw [show ((lN o) + (lN ((swW g l i) * (swX g l (i + 1)))) : Int64) = lN (swO g l (i + 1)) from (lN_add _ _).trans (congrArg lN (by rw [hO]; rfl))]
                    have hOb2 := swO_b ms.1.1 l (i + 1) (by omega)
                    refine exf_go 6 (show Go (d + 133) true 275 190 [.ref 130, .int (nI j1), .long (lN (sumL g l)), mk_, .long (lN rr), mk_, .long (lN (swO g l (i + 1))), mk_, .long (lN m), mk_, .int (nI b), .int (nI (ordE (lft g l) g (evr g) i)), .int (nI c), .long (lN (swX g l (i + 1))), mk_, .long (lN br), mk_, .int (nI (i + 1)), .int (nI (ordE (lft g l) g (evr g) i)), z19, mk_] [.int ((nI (i + 1)) - 1), .ref 130, .long (lN rr)] h1 Q from ?_)
                    rw [show ((nI (i + 1)) - 1 : Int32) = nI i from nI_pred i]
                    refine exf_go 1 (show wpC (d + 133) true 229 [.ref 130, .int (nI i)] h1 (fun r h' => Go (d + 133) true 275 193 [.ref 130, .int (nI j1), .long (lN (sumL g l)), mk_, .long (lN rr), mk_, .long (lN (swO g l (i + 1))), mk_, .long (lN m), mk_, .int (nI b), .int (nI (ordE (lft g l) g (evr g) i)), .int (nI c), .long (lN (swX g l (i + 1))), mk_, .long (lN br), mk_, .int (nI (i + 1)), .int (nI (ordE (lft g l) g (evr g) i)), z19, mk_] [r, .long (lN rr)] h' Q) from ?_)
                    refine m_weightAtE ms1 mw1 mo1 (j := i) (by omega) ?_
                    show Go (d + 133) true 275 193 [.ref 130, .int (nI j1), .long (lN (sumL g l)), mk_, .long (lN rr), mk_, .long (lN (swO g l (i + 1))), mk_, .long (lN m), mk_, .int (nI b), .int (nI (ordE (lft g l) g (evr g) i)), .int (nI c), .long (lN (swX g l (i + 1))), mk_, .long (lN br), mk_, .int (nI (i + 1)), .int (nI (ordE (lft g l) g (evr g) i)), z19, mk_] [.long (lN (swW g l i)), .long (lN rr)] h1 Q
                    refine exf_go 1 (show Go (d + 133) true 275 194 [.ref 130, .int (nI j1), .long (lN (sumL g l)), mk_, .long (lN rr), mk_, .long (lN (swO g l (i + 1))), mk_, .long (lN m), mk_, .int (nI b), .int (nI (ordE (lft g l) g (evr g) i)), .int (nI c), .long (lN (swX g l (i + 1))), mk_, .long (lN br), mk_, .int (nI (i + 1)), .int (nI (ordE (lft g l) g (evr g) i)), z19, mk_] [.long ((lN rr) - (lN (swW g l i)))] h1 Q from ?_)
                    rw [show ((lN rr) - (lN (swW g l i)) : Int64) = lN (sumL g l - fstL g l (i + 1)) from (lN_sub (a := rr) (b := swW g l i) (by omega)).trans (congrArg lN (by omega))]
                    refine exf_go 2 (show Go (d + 133) true 275 199 [.ref 130, .int (nI j1), .long (lN (sumL g l)), mk_, .long (lN (sumL g l - fstL g l (i + 1))), mk_, .long (lN (swO g l (i + 1))), mk_, .long (lN m), mk_, .int (nI b), .int (nI (ordE (lft g l) g (evr g) i)), .int ((nI c) + 1), .long (lN (swX g l (i + 1))), mk_, .long (lN br), mk_, .int (nI (i + 1)), .int (nI (ordE (lft g l) g (evr g) i)), z19, mk_] [] h1 Q from ?_)
                    rw [show ((nI c) + 1 : Int32) = nI (swC g l (i + 1)) from (nI_add c 1).trans (congrArg nI (by rw [hC]; exact swR_s i))]
                    refine exf_go 4 (show vp_in 6 41523 ∧ (Go (d + 133) true 275 206 [.ref 130, .int (nI j1), .long (lN (sumL g l)), mk_, .long (lN (sumL g l - fstL g l (i + 1))), mk_, .long (lN (swO g l (i + 1))), mk_, .long (lN m), mk_, .int (nI b), .int (nI (ordE (lft g l) g (evr g) i)), .int (nI (swC g l (i + 1))), .long (lN (swX g l (i + 1))), mk_, .long (lN br), mk_, .int (nI (i + 1)), .int (nI (ordE (lft g l) g (evr g) i)), z19, mk_] [.int (rI h1 131 6)] h1 Q) from ⟨(vp_in_nI (n := 6) (by decide) (by decide)), ?_⟩)
                    rw [show (rI h1 131 6 : Int32) = nI (sBA g) from ms_BA ms1]
                    refine exf_go 1 (show ((nI (sBA g)) ≤ 0 → Go (d + 133) true 275 232 [.ref 130, .int (nI j1), .long (lN (sumL g l)), mk_, .long (lN (sumL g l - fstL g l (i + 1))), mk_, .long (lN (swO g l (i + 1))), mk_, .long (lN m), mk_, .int (nI b), .int (nI (ordE (lft g l) g (evr g) i)), .int (nI (swC g l (i + 1))), .long (lN (swX g l (i + 1))), mk_, .long (lN br), mk_, .int (nI (i + 1)), .int (nI (ordE (lft g l) g (evr g) i)), z19, mk_] [] h1 Q) ∧ (¬ ((nI (sBA g)) ≤ 0) → Go (d + 133) true 275 209 [.ref 130, .int (nI j1), .long (lN (sumL g l)), mk_, .long (lN (sumL g l - fstL g l (i + 1))), mk_, .long (lN (swO g l (i + 1))), mk_, .long (lN m), mk_, .int (nI b), .int (nI (ordE (lft g l) g (evr g) i)), .int (nI (swC g l (i + 1))), .long (lN (swX g l (i + 1))), mk_, .long (lN br), mk_, .int (nI (i + 1)), .int (nI (ordE (lft g l) g (evr g) i)), z19, mk_] [] h1 Q) from ⟨fun c10 => ?_, fun c10 => ?_⟩)
                    · skip
                      have c10 : (sBA g) ≤ 0 := (nI_leI (a := (sBA g)) (b := 0) (by omega) (by omega)).mp c10
                      have hbr := swR_n (g := g) (l := l) (k := i + 1) (fun q => by omega)
                      refine exf_go 6 (show ((lg_cmp 0 0) ≤ 0 → Go (d + 133) true 275 246 [.ref 130, .int (nI j1), .long (lN (sumL g l)), mk_, .long (lN (sumL g l - fstL g l (i + 1))), mk_, .long (lN (swO g l (i + 1))), mk_, .long (lN m), mk_, .int (nI b), .int (nI (ordE (lft g l) g (evr g) i)), .int (nI (swC g l (i + 1))), .long (lN (swX g l (i + 1))), mk_, .long 0, mk_, .int (nI (i + 1)), .int (nI (ordE (lft g l) g (evr g) i)), z19, mk_] [] h1 Q) ∧ (¬ ((lg_cmp 0 0) ≤ 0) → Go (d + 133) true 275 242 [.ref 130, .int (nI j1), .long (lN (sumL g l)), mk_, .long (lN (sumL g l - fstL g l (i + 1))), mk_, .long (lN (swO g l (i + 1))), mk_, .long (lN m), mk_, .int (nI b), .int (nI (ordE (lft g l) g (evr g) i)), .int (nI (swC g l (i + 1))), .long (lN (swX g l (i + 1))), mk_, .long 0, mk_, .int (nI (i + 1)), .int (nI (ordE (lft g l) g (evr g) i)), z19, mk_] [] h1 Q) from ⟨fun c11 => ?_, fun c11 => ?_⟩)
                      · skip
                        have c11 : (0 : Int64) ≤ 0 := (lg_cmp_le _ _).mp c11
                        have c11 : 0 ≤ 0 := (pk_lLE (a := 0) (b := 0) (by omega) (by omega)).mp c11
                        refine exf_go 9 (show vp_in 8 41523 ∧ (Go (d + 133) true 275 263 [.ref 130, .int (nI j1), .long (lN (sumL g l)), mk_, .long (lN (sumL g l - fstL g l (i + 1))), mk_, .long (lN (swO g l (i + 1))), mk_, .long (lN m), mk_, .int (nI b), .int (nI (ordE (lft g l) g (evr g) i)), .int (nI (swC g l (i + 1))), .long (lN (swX g l (i + 1))), mk_, .long 0, mk_, .int (nI (i + 1)), .int (nI (ordE (lft g l) g (evr g) i)), z19, mk_] [.int (rI h1 131 8), .long (lN (swX g l (i + 1))), .long (lN (sumL g l - fstL g l (i + 1))), .long (lN (swO g l (i + 1)))] h1 Q) from ⟨(vp_in_nI (n := 8) (by decide) (by decide)), ?_⟩)
                        rw [show (rI h1 131 8 : Int32) = nI (sSw g) from ms_Sw ms1]
                        refine exf_go 1 (show Go (d + 133) true 275 264 [.ref 130, .int (nI j1), .long (lN (sumL g l)), mk_, .long (lN (sumL g l - fstL g l (i + 1))), mk_, .long (lN (swO g l (i + 1))), mk_, .long (lN m), mk_, .int (nI b), .int (nI (ordE (lft g l) g (evr g) i)), .int (nI (swC g l (i + 1))), .long (lN (swX g l (i + 1))), mk_, .long 0, mk_, .int (nI (i + 1)), .int (nI (ordE (lft g l) g (evr g) i)), z19, mk_] [.long ((nI (sSw g)).toInt64), .long (lN (swX g l (i + 1))), .long (lN (sumL g l - fstL g l (i + 1))), .long (lN (swO g l (i + 1)))] h1 Q from ?_)
                        rw [show ((nI (sSw g)).toInt64 : Int64) = lN (sSw g) from nI_l (n := (sSw g)) (by omega)]
                        refine exf_go 1 (show Go (d + 133) true 275 265 [.ref 130, .int (nI j1), .long (lN (sumL g l)), mk_, .long (lN (sumL g l - fstL g l (i + 1))), mk_, .long (lN (swO g l (i + 1))), mk_, .long (lN m), mk_, .int (nI b), .int (nI (ordE (lft g l) g (evr g) i)), .int (nI (swC g l (i + 1))), .long (lN (swX g l (i + 1))), mk_, .long 0, mk_, .int (nI (i + 1)), .int (nI (ordE (lft g l) g (evr g) i)), z19, mk_] [.long ((lN (swX g l (i + 1))) + (lN (sSw g))), .long (lN (sumL g l - fstL g l (i + 1))), .long (lN (swO g l (i + 1)))] h1 Q from ?_)
                        rw [show ((lN (swX g l (i + 1))) + (lN (sSw g)) : Int64) = lN ((swX g l (i + 1)) + (sSw g)) from lN_add (swX g l (i + 1)) (sSw g)]
                        refine exf_go 1 (show Go (d + 133) true 275 266 [.ref 130, .int (nI j1), .long (lN (sumL g l)), mk_, .long (lN (sumL g l - fstL g l (i + 1))), mk_, .long (lN (swO g l (i + 1))), mk_, .long (lN m), mk_, .int (nI b), .int (nI (ordE (lft g l) g (evr g) i)), .int (nI (swC g l (i + 1))), .long (lN (swX g l (i + 1))), mk_, .long 0, mk_, .int (nI (i + 1)), .int (nI (ordE (lft g l) g (evr g) i)), z19, mk_] [.long ((lN (sumL g l - fstL g l (i + 1))) * (lN ((swX g l (i + 1)) + (sSw g)))), .long (lN (swO g l (i + 1)))] h1 Q from ?_)
                        rw [show ((lN (sumL g l - fstL g l (i + 1))) * (lN ((swX g l (i + 1)) + (sSw g))) : Int64) = lN ((sumL g l - fstL g l (i + 1)) * ((swX g l (i + 1)) + (sSw g))) from lN_mul (sumL g l - fstL g l (i + 1)) ((swX g l (i + 1)) + (sSw g))]
                        refine exf_go 1 (show Go (d + 133) true 275 267 [.ref 130, .int (nI j1), .long (lN (sumL g l)), mk_, .long (lN (sumL g l - fstL g l (i + 1))), mk_, .long (lN (swO g l (i + 1))), mk_, .long (lN m), mk_, .int (nI b), .int (nI (ordE (lft g l) g (evr g) i)), .int (nI (swC g l (i + 1))), .long (lN (swX g l (i + 1))), mk_, .long 0, mk_, .int (nI (i + 1)), .int (nI (ordE (lft g l) g (evr g) i)), z19, mk_] [.long ((lN (swO g l (i + 1))) + (lN ((sumL g l - fstL g l (i + 1)) * ((swX g l (i + 1)) + (sSw g)))))] h1 Q from ?_)
                        rw [show ((lN (swO g l (i + 1))) + (lN ((sumL g l - fstL g l (i + 1)) * ((swX g l (i + 1)) + (sSw g)))) : Int64) = lN (swI g l (i + 1)) from lN_add _ _]
                        have hIb := swI_b ms.1.1 l (k := i + 1) (by omega)
                        refine exf_go 5 (show ((lg_cmp (lN (swI g l (i + 1))) (lN m)) < 0 → Go (d + 133) true 275 280 [.ref 130, .int (nI j1), .long (lN (sumL g l)), mk_, .long (lN (sumL g l - fstL g l (i + 1))), mk_, .long (lN (swO g l (i + 1))), mk_, .long (lN m), mk_, .int (nI b), .int (nI (ordE (lft g l) g (evr g) i)), .int (nI (swC g l (i + 1))), .long (lN (swX g l (i + 1))), mk_, .long 0, mk_, .int (nI (i + 1)), .int (nI (ordE (lft g l) g (evr g) i)), .long (lN (swI g l (i + 1))), mk_] [] h1 Q) ∧ (¬ ((lg_cmp (lN (swI g l (i + 1))) (lN m)) < 0) → Go (d + 133) true 275 277 [.ref 130, .int (nI j1), .long (lN (sumL g l)), mk_, .long (lN (sumL g l - fstL g l (i + 1))), mk_, .long (lN (swO g l (i + 1))), mk_, .long (lN m), mk_, .int (nI b), .int (nI (ordE (lft g l) g (evr g) i)), .int (nI (swC g l (i + 1))), .long (lN (swX g l (i + 1))), mk_, .long 0, mk_, .int (nI (i + 1)), .int (nI (ordE (lft g l) g (evr g) i)), .long (lN (swI g l (i + 1))), mk_] [] h1 Q) from ⟨fun c12 => ?_, fun c12 => ?_⟩)
                        · skip
                          have c12 : (lN (swI g l (i + 1))) < (lN m) := (lg_cmp_lt _ _).mp c12
                          have c12 : (swI g l (i + 1)) < m := (pk_lLT (a := (swI g l (i + 1))) (b := m) (by omega) (by omega)).mp c12
                          refine exf_go 5 (show Go (d + 133) true 275 291 [.ref 130, .int (nI j1), .long (lN (sumL g l)), mk_, .long (lN (sumL g l - fstL g l (i + 1))), mk_, .long (lN (swO g l (i + 1))), mk_, .long (lN (swI g l (i + 1))), mk_, .int (nI (i + 1)), .int (nI (ordE (lft g l) g (evr g) i)), .int (nI (swC g l (i + 1))), .long (lN (swX g l (i + 1))), mk_, .long 0, mk_, .int ((nI (i + 1)) + 1), .int (nI (ordE (lft g l) g (evr g) i)), .long (lN (swI g l (i + 1))), mk_] [] h1 Q from ?_)
                          rw [show ((nI (i + 1)) + 1 : Int32) = nI ((i + 1) + 1) from nI_add (i + 1) 1]
                          refine exf_go 1 (show Go (d + 133) true 275 110 [.ref 130, .int (nI j1), .long (lN (sumL g l)), mk_, .long (lN (sumL g l - fstL g l (i + 1))), mk_, .long (lN (swO g l (i + 1))), mk_, .long (lN (swI g l (i + 1))), mk_, .int (nI (i + 1)), .int (nI (ordE (lft g l) g (evr g) i)), .int (nI (swC g l (i + 1))), .long (lN (swX g l (i + 1))), mk_, .long 0, mk_, .int (nI ((i + 1) + 1)), .int (nI (ordE (lft g l) g (evr g) i)), .long (lN (swI g l (i + 1))), mk_] [] h1 Q from ?_)
                          exact ih110 (.int (nI (ordE (lft g l) g (evr g) i))) (.long (lN (swI g l (i + 1)))) (i + 1) (sumL g l - fstL g l (i + 1)) (swO g l (i + 1)) (swX g l (i + 1)) (swC g l (i + 1)) 0 (ordE (lft g l) g (evr g) i) (i + 1) (swI g l (i + 1)) (by omega) (by omega) rfl rfl rfl hbr.1 hbr.2 rfl (by first | exact sm_y hs (by omega) | exact sm_n hs (by omega))
                        · skip
                          have c12 : ¬ ((lN (swI g l (i + 1))) < (lN m)) := fun q => c12 ((lg_cmp_lt _ _).mpr q)
                          have c12 : ¬ ((swI g l (i + 1)) < m) := fun q => c12 ((pk_lLT (a := (swI g l (i + 1))) (b := m) (by omega) (by omega)).mpr q)
                          refine exf_go 2 (show Go (d + 133) true 275 291 [.ref 130, .int (nI j1), .long (lN (sumL g l)), mk_, .long (lN (sumL g l - fstL g l (i + 1))), mk_, .long (lN (swO g l (i + 1))), mk_, .long (lN m), mk_, .int (nI b), .int (nI (ordE (lft g l) g (evr g) i)), .int (nI (swC g l (i + 1))), .long (lN (swX g l (i + 1))), mk_, .long 0, mk_, .int ((nI (i + 1)) + 1), .int (nI (ordE (lft g l) g (evr g) i)), .long (lN (swI g l (i + 1))), mk_] [] h1 Q from ?_)
                          rw [show ((nI (i + 1)) + 1 : Int32) = nI ((i + 1) + 1) from nI_add (i + 1) 1]
                          refine exf_go 1 (show Go (d + 133) true 275 110 [.ref 130, .int (nI j1), .long (lN (sumL g l)), mk_, .long (lN (sumL g l - fstL g l (i + 1))), mk_, .long (lN (swO g l (i + 1))), mk_, .long (lN m), mk_, .int (nI b), .int (nI (ordE (lft g l) g (evr g) i)), .int (nI (swC g l (i + 1))), .long (lN (swX g l (i + 1))), mk_, .long 0, mk_, .int (nI ((i + 1) + 1)), .int (nI (ordE (lft g l) g (evr g) i)), .long (lN (swI g l (i + 1))), mk_] [] h1 Q from ?_)
                          exact ih110 (.int (nI (ordE (lft g l) g (evr g) i))) (.long (lN (swI g l (i + 1)))) (i + 1) (sumL g l - fstL g l (i + 1)) (swO g l (i + 1)) (swX g l (i + 1)) (swC g l (i + 1)) 0 (ordE (lft g l) g (evr g) i) b m (by omega) (by omega) rfl rfl rfl hbr.1 hbr.2 rfl (by first | exact sm_y hs (by omega) | exact sm_n hs (by omega))
                      · skip
                        have c11 : ¬ ((0 : Int64) ≤ 0) := fun q => c11 ((lg_cmp_le _ _).mpr q)
                        have c11 : ¬ (0 ≤ 0) := fun q => c11 ((pk_lLE (a := 0) (b := 0) (by omega) (by omega)).mpr q)
                        exfalso; omega
                    · skip
                      have c10 : ¬ (sBA g) ≤ 0 := fun q => c10 ((nI_leI (a := (sBA g)) (b := 0) (by omega) (by omega)).mpr q)
                      have hC9 := hCb (by omega) (i + 1)
                      refine exf_go 5 (show vp_in 6 41523 ∧ (Go (d + 133) true 275 218 [.ref 130, .int (nI j1), .long (lN (sumL g l)), mk_, .long (lN (sumL g l - fstL g l (i + 1))), mk_, .long (lN (swO g l (i + 1))), mk_, .long (lN m), mk_, .int (nI b), .int (nI (ordE (lft g l) g (evr g) i)), .int (nI (swC g l (i + 1))), .long (lN (swX g l (i + 1))), mk_, .long (lN br), mk_, .int (nI (i + 1)), .int (nI (ordE (lft g l) g (evr g) i)), z19, mk_] [.int (rI h1 131 6), .int (nI (swC g l (i + 1)))] h1 Q) from ⟨(vp_in_nI (n := 6) (by decide) (by decide)), ?_⟩)
                      rw [show (rI h1 131 6 : Int32) = nI (sBA g) from ms_BA ms1]
                      refine exf_go 1 (show ((nI (swC g l (i + 1))) < (nI (sBA g)) → Go (d + 133) true 275 232 [.ref 130, .int (nI j1), .long (lN (sumL g l)), mk_, .long (lN (sumL g l - fstL g l (i + 1))), mk_, .long (lN (swO g l (i + 1))), mk_, .long (lN m), mk_, .int (nI b), .int (nI (ordE (lft g l) g (evr g) i)), .int (nI (swC g l (i + 1))), .long (lN (swX g l (i + 1))), mk_, .long (lN br), mk_, .int (nI (i + 1)), .int (nI (ordE (lft g l) g (evr g) i)), z19, mk_] [] h1 Q) ∧ (¬ ((nI (swC g l (i + 1))) < (nI (sBA g))) → Go (d + 133) true 275 221 [.ref 130, .int (nI j1), .long (lN (sumL g l)), mk_, .long (lN (sumL g l - fstL g l (i + 1))), mk_, .long (lN (swO g l (i + 1))), mk_, .long (lN m), mk_, .int (nI b), .int (nI (ordE (lft g l) g (evr g) i)), .int (nI (swC g l (i + 1))), .long (lN (swX g l (i + 1))), mk_, .long (lN br), mk_, .int (nI (i + 1)), .int (nI (ordE (lft g l) g (evr g) i)), z19, mk_] [] h1 Q) from ⟨fun c13 => ?_, fun c13 => ?_⟩)
                      · skip
                        have c13 : (swC g l (i + 1)) < (sBA g) := (nI_ltI (a := (swC g l (i + 1))) (b := (sBA g)) (by omega) (by omega)).mp c13
                        have hbr := swR_n (g := g) (l := l) (k := i + 1) (fun q => by omega)
                        refine exf_go 6 (show ((lg_cmp 0 0) ≤ 0 → Go (d + 133) true 275 246 [.ref 130, .int (nI j1), .long (lN (sumL g l)), mk_, .long (lN (sumL g l - fstL g l (i + 1))), mk_, .long (lN (swO g l (i + 1))), mk_, .long (lN m), mk_, .int (nI b), .int (nI (ordE (lft g l) g (evr g) i)), .int (nI (swC g l (i + 1))), .long (lN (swX g l (i + 1))), mk_, .long 0, mk_, .int (nI (i + 1)), .int (nI (ordE (lft g l) g (evr g) i)), z19, mk_] [] h1 Q) ∧ (¬ ((lg_cmp 0 0) ≤ 0) → Go (d + 133) true 275 242 [.ref 130, .int (nI j1), .long (lN (sumL g l)), mk_, .long (lN (sumL g l - fstL g l (i + 1))), mk_, .long (lN (swO g l (i + 1))), mk_, .long (lN m), mk_, .int (nI b), .int (nI (ordE (lft g l) g (evr g) i)), .int (nI (swC g l (i + 1))), .long (lN (swX g l (i + 1))), mk_, .long 0, mk_, .int (nI (i + 1)), .int (nI (ordE (lft g l) g (evr g) i)), z19, mk_] [] h1 Q) from ⟨fun c14 => ?_, fun c14 => ?_⟩)
                        · skip
                          have c14 : (0 : Int64) ≤ 0 := (lg_cmp_le _ _).mp c14
                          have c14 : 0 ≤ 0 := (pk_lLE (a := 0) (b := 0) (by omega) (by omega)).mp c14
                          refine exf_go 9 (show vp_in 8 41523 ∧ (Go (d + 133) true 275 263 [.ref 130, .int (nI j1), .long (lN (sumL g l)), mk_, .long (lN (sumL g l - fstL g l (i + 1))), mk_, .long (lN (swO g l (i + 1))), mk_, .long (lN m), mk_, .int (nI b), .int (nI (ordE (lft g l) g (evr g) i)), .int (nI (swC g l (i + 1))), .long (lN (swX g l (i + 1))), mk_, .long 0, mk_, .int (nI (i + 1)), .int (nI (ordE (lft g l) g (evr g) i)), z19, mk_] [.int (rI h1 131 8), .long (lN (swX g l (i + 1))), .long (lN (sumL g l - fstL g l (i + 1))), .long (lN (swO g l (i + 1)))] h1 Q) from ⟨(vp_in_nI (n := 8) (by decide) (by decide)), ?_⟩)
                          rw [show (rI h1 131 8 : Int32) = nI (sSw g) from ms_Sw ms1]
                          refine exf_go 1 (show Go (d + 133) true 275 264 [.ref 130, .int (nI j1), .long (lN (sumL g l)), mk_, .long (lN (sumL g l - fstL g l (i + 1))), mk_, .long (lN (swO g l (i + 1))), mk_, .long (lN m), mk_, .int (nI b), .int (nI (ordE (lft g l) g (evr g) i)), .int (nI (swC g l (i + 1))), .long (lN (swX g l (i + 1))), mk_, .long 0, mk_, .int (nI (i + 1)), .int (nI (ordE (lft g l) g (evr g) i)), z19, mk_] [.long ((nI (sSw g)).toInt64), .long (lN (swX g l (i + 1))), .long (lN (sumL g l - fstL g l (i + 1))), .long (lN (swO g l (i + 1)))] h1 Q from ?_)
                          rw [show ((nI (sSw g)).toInt64 : Int64) = lN (sSw g) from nI_l (n := (sSw g)) (by omega)]
                          refine exf_go 1 (show Go (d + 133) true 275 265 [.ref 130, .int (nI j1), .long (lN (sumL g l)), mk_, .long (lN (sumL g l - fstL g l (i + 1))), mk_, .long (lN (swO g l (i + 1))), mk_, .long (lN m), mk_, .int (nI b), .int (nI (ordE (lft g l) g (evr g) i)), .int (nI (swC g l (i + 1))), .long (lN (swX g l (i + 1))), mk_, .long 0, mk_, .int (nI (i + 1)), .int (nI (ordE (lft g l) g (evr g) i)), z19, mk_] [.long ((lN (swX g l (i + 1))) + (lN (sSw g))), .long (lN (sumL g l - fstL g l (i + 1))), .long (lN (swO g l (i + 1)))] h1 Q from ?_)
                          rw [show ((lN (swX g l (i + 1))) + (lN (sSw g)) : Int64) = lN ((swX g l (i + 1)) + (sSw g)) from lN_add (swX g l (i + 1)) (sSw g)]
                          refine exf_go 1 (show Go (d + 133) true 275 266 [.ref 130, .int (nI j1), .long (lN (sumL g l)), mk_, .long (lN (sumL g l - fstL g l (i + 1))), mk_, .long (lN (swO g l (i + 1))), mk_, .long (lN m), mk_, .int (nI b), .int (nI (ordE (lft g l) g (evr g) i)), .int (nI (swC g l (i + 1))), .long (lN (swX g l (i + 1))), mk_, .long 0, mk_, .int (nI (i + 1)), .int (nI (ordE (lft g l) g (evr g) i)), z19, mk_] [.long ((lN (sumL g l - fstL g l (i + 1))) * (lN ((swX g l (i + 1)) + (sSw g)))), .long (lN (swO g l (i + 1)))] h1 Q from ?_)
                          rw [show ((lN (sumL g l - fstL g l (i + 1))) * (lN ((swX g l (i + 1)) + (sSw g))) : Int64) = lN ((sumL g l - fstL g l (i + 1)) * ((swX g l (i + 1)) + (sSw g))) from lN_mul (sumL g l - fstL g l (i + 1)) ((swX g l (i + 1)) + (sSw g))]
                          refine exf_go 1 (show Go (d + 133) true 275 267 [.ref 130, .int (nI j1), .long (lN (sumL g l)), mk_, .long (lN (sumL g l - fstL g l (i + 1))), mk_, .long (lN (swO g l (i + 1))), mk_, .long (lN m), mk_, .int (nI b), .int (nI (ordE (lft g l) g (evr g) i)), .int (nI (swC g l (i + 1))), .long (lN (swX g l (i + 1))), mk_, .long 0, mk_, .int (nI (i + 1)), .int (nI (ordE (lft g l) g (evr g) i)), z19, mk_] [.long ((lN (swO g l (i + 1))) + (lN ((sumL g l - fstL g l (i + 1)) * ((swX g l (i + 1)) + (sSw g)))))] h1 Q from ?_)
                          rw [show ((lN (swO g l (i + 1))) + (lN ((sumL g l - fstL g l (i + 1)) * ((swX g l (i + 1)) + (sSw g)))) : Int64) = lN (swI g l (i + 1)) from lN_add _ _]
                          have hIb := swI_b ms.1.1 l (k := i + 1) (by omega)
                          refine exf_go 5 (show ((lg_cmp (lN (swI g l (i + 1))) (lN m)) < 0 → Go (d + 133) true 275 280 [.ref 130, .int (nI j1), .long (lN (sumL g l)), mk_, .long (lN (sumL g l - fstL g l (i + 1))), mk_, .long (lN (swO g l (i + 1))), mk_, .long (lN m), mk_, .int (nI b), .int (nI (ordE (lft g l) g (evr g) i)), .int (nI (swC g l (i + 1))), .long (lN (swX g l (i + 1))), mk_, .long 0, mk_, .int (nI (i + 1)), .int (nI (ordE (lft g l) g (evr g) i)), .long (lN (swI g l (i + 1))), mk_] [] h1 Q) ∧ (¬ ((lg_cmp (lN (swI g l (i + 1))) (lN m)) < 0) → Go (d + 133) true 275 277 [.ref 130, .int (nI j1), .long (lN (sumL g l)), mk_, .long (lN (sumL g l - fstL g l (i + 1))), mk_, .long (lN (swO g l (i + 1))), mk_, .long (lN m), mk_, .int (nI b), .int (nI (ordE (lft g l) g (evr g) i)), .int (nI (swC g l (i + 1))), .long (lN (swX g l (i + 1))), mk_, .long 0, mk_, .int (nI (i + 1)), .int (nI (ordE (lft g l) g (evr g) i)), .long (lN (swI g l (i + 1))), mk_] [] h1 Q) from ⟨fun c15 => ?_, fun c15 => ?_⟩)
                          · skip
                            have c15 : (lN (swI g l (i + 1))) < (lN m) := (lg_cmp_lt _ _).mp c15
                            have c15 : (swI g l (i + 1)) < m := (pk_lLT (a := (swI g l (i + 1))) (b := m) (by omega) (by omega)).mp c15
                            refine exf_go 5 (show Go (d + 133) true 275 291 [.ref 130, .int (nI j1), .long (lN (sumL g l)), mk_, .long (lN (sumL g l - fstL g l (i + 1))), mk_, .long (lN (swO g l (i + 1))), mk_, .long (lN (swI g l (i + 1))), mk_, .int (nI (i + 1)), .int (nI (ordE (lft g l) g (evr g) i)), .int (nI (swC g l (i + 1))), .long (lN (swX g l (i + 1))), mk_, .long 0, mk_, .int ((nI (i + 1)) + 1), .int (nI (ordE (lft g l) g (evr g) i)), .long (lN (swI g l (i + 1))), mk_] [] h1 Q from ?_)
                            rw [show ((nI (i + 1)) + 1 : Int32) = nI ((i + 1) + 1) from nI_add (i + 1) 1]
                            refine exf_go 1 (show Go (d + 133) true 275 110 [.ref 130, .int (nI j1), .long (lN (sumL g l)), mk_, .long (lN (sumL g l - fstL g l (i + 1))), mk_, .long (lN (swO g l (i + 1))), mk_, .long (lN (swI g l (i + 1))), mk_, .int (nI (i + 1)), .int (nI (ordE (lft g l) g (evr g) i)), .int (nI (swC g l (i + 1))), .long (lN (swX g l (i + 1))), mk_, .long 0, mk_, .int (nI ((i + 1) + 1)), .int (nI (ordE (lft g l) g (evr g) i)), .long (lN (swI g l (i + 1))), mk_] [] h1 Q from ?_)
                            exact ih110 (.int (nI (ordE (lft g l) g (evr g) i))) (.long (lN (swI g l (i + 1)))) (i + 1) (sumL g l - fstL g l (i + 1)) (swO g l (i + 1)) (swX g l (i + 1)) (swC g l (i + 1)) 0 (ordE (lft g l) g (evr g) i) (i + 1) (swI g l (i + 1)) (by omega) (by omega) rfl rfl rfl hbr.1 hbr.2 rfl (by first | exact sm_y hs (by omega) | exact sm_n hs (by omega))
                          · skip
                            have c15 : ¬ ((lN (swI g l (i + 1))) < (lN m)) := fun q => c15 ((lg_cmp_lt _ _).mpr q)
                            have c15 : ¬ ((swI g l (i + 1)) < m) := fun q => c15 ((pk_lLT (a := (swI g l (i + 1))) (b := m) (by omega) (by omega)).mpr q)
                            refine exf_go 2 (show Go (d + 133) true 275 291 [.ref 130, .int (nI j1), .long (lN (sumL g l)), mk_, .long (lN (sumL g l - fstL g l (i + 1))), mk_, .long (lN (swO g l (i + 1))), mk_, .long (lN m), mk_, .int (nI b), .int (nI (ordE (lft g l) g (evr g) i)), .int (nI (swC g l (i + 1))), .long (lN (swX g l (i + 1))), mk_, .long 0, mk_, .int ((nI (i + 1)) + 1), .int (nI (ordE (lft g l) g (evr g) i)), .long (lN (swI g l (i + 1))), mk_] [] h1 Q from ?_)
                            rw [show ((nI (i + 1)) + 1 : Int32) = nI ((i + 1) + 1) from nI_add (i + 1) 1]
                            refine exf_go 1 (show Go (d + 133) true 275 110 [.ref 130, .int (nI j1), .long (lN (sumL g l)), mk_, .long (lN (sumL g l - fstL g l (i + 1))), mk_, .long (lN (swO g l (i + 1))), mk_, .long (lN m), mk_, .int (nI b), .int (nI (ordE (lft g l) g (evr g) i)), .int (nI (swC g l (i + 1))), .long (lN (swX g l (i + 1))), mk_, .long 0, mk_, .int (nI ((i + 1) + 1)), .int (nI (ordE (lft g l) g (evr g) i)), .long (lN (swI g l (i + 1))), mk_] [] h1 Q from ?_)
                            exact ih110 (.int (nI (ordE (lft g l) g (evr g) i))) (.long (lN (swI g l (i + 1)))) (i + 1) (sumL g l - fstL g l (i + 1)) (swO g l (i + 1)) (swX g l (i + 1)) (swC g l (i + 1)) 0 (ordE (lft g l) g (evr g) i) b m (by omega) (by omega) rfl rfl rfl hbr.1 hbr.2 rfl (by first | exact sm_y hs (by omega) | exact sm_n hs (by omega))
                        · skip
                          have c14 : ¬ ((0 : Int64) ≤ 0) := fun q => c14 ((lg_cmp_le _ _).mpr q)
                          have c14 : ¬ (0 ≤ 0) := fun q => c14 ((pk_lLE (a := 0) (b := 0) (by omega) (by omega)).mpr q)
                          exfalso; omega
                      · skip
                        have c13 : ¬ (swC g l (i + 1)) < (sBA g) := fun q => c13 ((nI_ltI (a := (swC g l (i + 1))) (b := (sBA g)) (by omega) (by omega)).mpr q)
                        have hbr := swR_y (g := g) (l := l) (k := i + 1) ⟨by omega, by omega⟩
                        have hb2 := hbw2 (by omega)
                        refine exf_go 4 (show vp_in 7 41523 ∧ (Go (d + 133) true 275 228 [.ref 130, .int (nI j1), .long (lN (sumL g l)), mk_, .long (lN (sumL g l - fstL g l (i + 1))), mk_, .long (lN (swO g l (i + 1))), mk_, .long (lN m), mk_, .int (nI b), .int (nI (ordE (lft g l) g (evr g) i)), .int (nI (swC g l (i + 1))), .long (lN (swX g l (i + 1))), mk_, .long (lN br), mk_, .int (nI (i + 1)), .int (nI (ordE (lft g l) g (evr g) i)), z19, mk_] [.int (rI h1 131 7)] h1 Q) from ⟨(vp_in_nI (n := 7) (by decide) (by decide)), ?_⟩)
                        rw [show (rI h1 131 7 : Int32) = nI (sBS g) from ms_BS ms1]
                        refine exf_go 1 (show Go (d + 133) true 275 229 [.ref 130, .int (nI j1), .long (lN (sumL g l)), mk_, .long (lN (sumL g l - fstL g l (i + 1))), mk_, .long (lN (swO g l (i + 1))), mk_, .long (lN m), mk_, .int (nI b), .int (nI (ordE (lft g l) g (evr g) i)), .int (nI (swC g l (i + 1))), .long (lN (swX g l (i + 1))), mk_, .long (lN br), mk_, .int (nI (i + 1)), .int (nI (ordE (lft g l) g (evr g) i)), z19, mk_] [.long ((nI (sBS g)).toInt64)] h1 Q from ?_)
                        rw [show ((nI (sBS g)).toInt64 : Int64) = lN (sBS g) from nI_l (n := (sBS g)) (by omega)]
                        refine exf_go 6 (show ((lg_cmp (lN (sBS g)) 0) ≤ 0 → Go (d + 133) true 275 246 [.ref 130, .int (nI j1), .long (lN (sumL g l)), mk_, .long (lN (sumL g l - fstL g l (i + 1))), mk_, .long (lN (swO g l (i + 1))), mk_, .long (lN m), mk_, .int (nI b), .int (nI (ordE (lft g l) g (evr g) i)), .int (nI (swC g l (i + 1))), .long (lN (swX g l (i + 1))), mk_, .long (lN (sBS g)), mk_, .int (nI (i + 1)), .int (nI (ordE (lft g l) g (evr g) i)), z19, mk_] [] h1 Q) ∧ (¬ ((lg_cmp (lN (sBS g)) 0) ≤ 0) → Go (d + 133) true 275 242 [.ref 130, .int (nI j1), .long (lN (sumL g l)), mk_, .long (lN (sumL g l - fstL g l (i + 1))), mk_, .long (lN (swO g l (i + 1))), mk_, .long (lN m), mk_, .int (nI b), .int (nI (ordE (lft g l) g (evr g) i)), .int (nI (swC g l (i + 1))), .long (lN (swX g l (i + 1))), mk_, .long (lN (sBS g)), mk_, .int (nI (i + 1)), .int (nI (ordE (lft g l) g (evr g) i)), z19, mk_] [] h1 Q) from ⟨fun c16 => ?_, fun c16 => ?_⟩)
                        · skip
                          have c16 : (lN (sBS g)) ≤ 0 := (lg_cmp_le _ _).mp c16
                          have c16 : (sBS g) ≤ 0 := (pk_lLE (a := (sBS g)) (b := 0) (by omega) (by omega)).mp c16
                          exfalso; omega
                        · skip
                          have c16 : ¬ ((lN (sBS g)) ≤ 0) := fun q => c16 ((lg_cmp_le _ _).mpr q)
                          have c16 : ¬ ((sBS g) ≤ 0) := fun q => c16 ((pk_lLE (a := (sBS g)) (b := 0) (by omega) (by omega)).mpr q)
                          refine exf_go 10 (show vp_in 8 41523 ∧ (Go (d + 133) true 275 263 [.ref 130, .int (nI j1), .long (lN (sumL g l)), mk_, .long (lN (sumL g l - fstL g l (i + 1))), mk_, .long (lN (swO g l (i + 1))), mk_, .long (lN m), mk_, .int (nI b), .int (nI (ordE (lft g l) g (evr g) i)), .int 0, .long (lN (swX g l (i + 1))), mk_, .long (lN (sBS g)), mk_, .int (nI (i + 1)), .int (nI (ordE (lft g l) g (evr g) i)), z19, mk_] [.int (rI h1 131 8), .long (lN (swX g l (i + 1))), .long (lN (sumL g l - fstL g l (i + 1))), .long (lN (swO g l (i + 1)))] h1 Q) from ⟨(vp_in_nI (n := 8) (by decide) (by decide)), ?_⟩)
                          rw [show (rI h1 131 8 : Int32) = nI (sSw g) from ms_Sw ms1]
                          refine exf_go 1 (show Go (d + 133) true 275 264 [.ref 130, .int (nI j1), .long (lN (sumL g l)), mk_, .long (lN (sumL g l - fstL g l (i + 1))), mk_, .long (lN (swO g l (i + 1))), mk_, .long (lN m), mk_, .int (nI b), .int (nI (ordE (lft g l) g (evr g) i)), .int 0, .long (lN (swX g l (i + 1))), mk_, .long (lN (sBS g)), mk_, .int (nI (i + 1)), .int (nI (ordE (lft g l) g (evr g) i)), z19, mk_] [.long ((nI (sSw g)).toInt64), .long (lN (swX g l (i + 1))), .long (lN (sumL g l - fstL g l (i + 1))), .long (lN (swO g l (i + 1)))] h1 Q from ?_)
                          rw [show ((nI (sSw g)).toInt64 : Int64) = lN (sSw g) from nI_l (n := (sSw g)) (by omega)]
                          refine exf_go 1 (show Go (d + 133) true 275 265 [.ref 130, .int (nI j1), .long (lN (sumL g l)), mk_, .long (lN (sumL g l - fstL g l (i + 1))), mk_, .long (lN (swO g l (i + 1))), mk_, .long (lN m), mk_, .int (nI b), .int (nI (ordE (lft g l) g (evr g) i)), .int 0, .long (lN (swX g l (i + 1))), mk_, .long (lN (sBS g)), mk_, .int (nI (i + 1)), .int (nI (ordE (lft g l) g (evr g) i)), z19, mk_] [.long ((lN (swX g l (i + 1))) + (lN (sSw g))), .long (lN (sumL g l - fstL g l (i + 1))), .long (lN (swO g l (i + 1)))] h1 Q from ?_)
                          rw [show ((lN (swX g l (i + 1))) + (lN (sSw g)) : Int64) = lN ((swX g l (i + 1)) + (sSw g)) from lN_add (swX g l (i + 1)) (sSw g)]
                          refine exf_go 1 (show Go (d + 133) true 275 266 [.ref 130, .int (nI j1), .long (lN (sumL g l)), mk_, .long (lN (sumL g l - fstL g l (i + 1))), mk_, .long (lN (swO g l (i + 1))), mk_, .long (lN m), mk_, .int (nI b), .int (nI (ordE (lft g l) g (evr g) i)), .int 0, .long (lN (swX g l (i + 1))), mk_, .long (lN (sBS g)), mk_, .int (nI (i + 1)), .int (nI (ordE (lft g l) g (evr g) i)), z19, mk_] [.long ((lN (sumL g l - fstL g l (i + 1))) * (lN ((swX g l (i + 1)) + (sSw g)))), .long (lN (swO g l (i + 1)))] h1 Q from ?_)
                          rw [show ((lN (sumL g l - fstL g l (i + 1))) * (lN ((swX g l (i + 1)) + (sSw g))) : Int64) = lN ((sumL g l - fstL g l (i + 1)) * ((swX g l (i + 1)) + (sSw g))) from lN_mul (sumL g l - fstL g l (i + 1)) ((swX g l (i + 1)) + (sSw g))]
                          refine exf_go 1 (show Go (d + 133) true 275 267 [.ref 130, .int (nI j1), .long (lN (sumL g l)), mk_, .long (lN (sumL g l - fstL g l (i + 1))), mk_, .long (lN (swO g l (i + 1))), mk_, .long (lN m), mk_, .int (nI b), .int (nI (ordE (lft g l) g (evr g) i)), .int 0, .long (lN (swX g l (i + 1))), mk_, .long (lN (sBS g)), mk_, .int (nI (i + 1)), .int (nI (ordE (lft g l) g (evr g) i)), z19, mk_] [.long ((lN (swO g l (i + 1))) + (lN ((sumL g l - fstL g l (i + 1)) * ((swX g l (i + 1)) + (sSw g)))))] h1 Q from ?_)
                          rw [show ((lN (swO g l (i + 1))) + (lN ((sumL g l - fstL g l (i + 1)) * ((swX g l (i + 1)) + (sSw g)))) : Int64) = lN (swI g l (i + 1)) from lN_add _ _]
                          have hIb := swI_b ms.1.1 l (k := i + 1) (by omega)
                          refine exf_go 5 (show ((lg_cmp (lN (swI g l (i + 1))) (lN m)) < 0 → Go (d + 133) true 275 280 [.ref 130, .int (nI j1), .long (lN (sumL g l)), mk_, .long (lN (sumL g l - fstL g l (i + 1))), mk_, .long (lN (swO g l (i + 1))), mk_, .long (lN m), mk_, .int (nI b), .int (nI (ordE (lft g l) g (evr g) i)), .int 0, .long (lN (swX g l (i + 1))), mk_, .long (lN (sBS g)), mk_, .int (nI (i + 1)), .int (nI (ordE (lft g l) g (evr g) i)), .long (lN (swI g l (i + 1))), mk_] [] h1 Q) ∧ (¬ ((lg_cmp (lN (swI g l (i + 1))) (lN m)) < 0) → Go (d + 133) true 275 277 [.ref 130, .int (nI j1), .long (lN (sumL g l)), mk_, .long (lN (sumL g l - fstL g l (i + 1))), mk_, .long (lN (swO g l (i + 1))), mk_, .long (lN m), mk_, .int (nI b), .int (nI (ordE (lft g l) g (evr g) i)), .int 0, .long (lN (swX g l (i + 1))), mk_, .long (lN (sBS g)), mk_, .int (nI (i + 1)), .int (nI (ordE (lft g l) g (evr g) i)), .long (lN (swI g l (i + 1))), mk_] [] h1 Q) from ⟨fun c17 => ?_, fun c17 => ?_⟩)
                          · skip
                            have c17 : (lN (swI g l (i + 1))) < (lN m) := (lg_cmp_lt _ _).mp c17
                            have c17 : (swI g l (i + 1)) < m := (pk_lLT (a := (swI g l (i + 1))) (b := m) (by omega) (by omega)).mp c17
                            refine exf_go 5 (show Go (d + 133) true 275 291 [.ref 130, .int (nI j1), .long (lN (sumL g l)), mk_, .long (lN (sumL g l - fstL g l (i + 1))), mk_, .long (lN (swO g l (i + 1))), mk_, .long (lN (swI g l (i + 1))), mk_, .int (nI (i + 1)), .int (nI (ordE (lft g l) g (evr g) i)), .int 0, .long (lN (swX g l (i + 1))), mk_, .long (lN (sBS g)), mk_, .int ((nI (i + 1)) + 1), .int (nI (ordE (lft g l) g (evr g) i)), .long (lN (swI g l (i + 1))), mk_] [] h1 Q from ?_)
                            rw [show ((nI (i + 1)) + 1 : Int32) = nI ((i + 1) + 1) from nI_add (i + 1) 1]
                            refine exf_go 1 (show Go (d + 133) true 275 110 [.ref 130, .int (nI j1), .long (lN (sumL g l)), mk_, .long (lN (sumL g l - fstL g l (i + 1))), mk_, .long (lN (swO g l (i + 1))), mk_, .long (lN (swI g l (i + 1))), mk_, .int (nI (i + 1)), .int (nI (ordE (lft g l) g (evr g) i)), .int 0, .long (lN (swX g l (i + 1))), mk_, .long (lN (sBS g)), mk_, .int (nI ((i + 1) + 1)), .int (nI (ordE (lft g l) g (evr g) i)), .long (lN (swI g l (i + 1))), mk_] [] h1 Q from ?_)
                            exact ih110 (.int (nI (ordE (lft g l) g (evr g) i))) (.long (lN (swI g l (i + 1)))) (i + 1) (sumL g l - fstL g l (i + 1)) (swO g l (i + 1)) (swX g l (i + 1)) 0 (sBS g) (ordE (lft g l) g (evr g) i) (i + 1) (swI g l (i + 1)) (by omega) (by omega) rfl rfl rfl hbr.1 hbr.2 rfl (by first | exact sm_y hs (by omega) | exact sm_n hs (by omega))
                          · skip
                            have c17 : ¬ ((lN (swI g l (i + 1))) < (lN m)) := fun q => c17 ((lg_cmp_lt _ _).mpr q)
                            have c17 : ¬ ((swI g l (i + 1)) < m) := fun q => c17 ((pk_lLT (a := (swI g l (i + 1))) (b := m) (by omega) (by omega)).mpr q)
                            refine exf_go 2 (show Go (d + 133) true 275 291 [.ref 130, .int (nI j1), .long (lN (sumL g l)), mk_, .long (lN (sumL g l - fstL g l (i + 1))), mk_, .long (lN (swO g l (i + 1))), mk_, .long (lN m), mk_, .int (nI b), .int (nI (ordE (lft g l) g (evr g) i)), .int 0, .long (lN (swX g l (i + 1))), mk_, .long (lN (sBS g)), mk_, .int ((nI (i + 1)) + 1), .int (nI (ordE (lft g l) g (evr g) i)), .long (lN (swI g l (i + 1))), mk_] [] h1 Q from ?_)
                            rw [show ((nI (i + 1)) + 1 : Int32) = nI ((i + 1) + 1) from nI_add (i + 1) 1]
                            refine exf_go 1 (show Go (d + 133) true 275 110 [.ref 130, .int (nI j1), .long (lN (sumL g l)), mk_, .long (lN (sumL g l - fstL g l (i + 1))), mk_, .long (lN (swO g l (i + 1))), mk_, .long (lN m), mk_, .int (nI b), .int (nI (ordE (lft g l) g (evr g) i)), .int 0, .long (lN (swX g l (i + 1))), mk_, .long (lN (sBS g)), mk_, .int (nI ((i + 1) + 1)), .int (nI (ordE (lft g l) g (evr g) i)), .long (lN (swI g l (i + 1))), mk_] [] h1 Q from ?_)
                            exact ih110 (.int (nI (ordE (lft g l) g (evr g) i))) (.long (lN (swI g l (i + 1)))) (i + 1) (sumL g l - fstL g l (i + 1)) (swO g l (i + 1)) (swX g l (i + 1)) 0 (sBS g) (ordE (lft g l) g (evr g) i) b m (by omega) (by omega) rfl rfl rfl hbr.1 hbr.2 rfl (by first | exact sm_y hs (by omega) | exact sm_n hs (by omega))
            exact L110 (200 + 1) mk_ mk_ 0 (sumL g l) 0 0 (lW l) 0 (lA l) 0 (sumL g l * sSw g) (by omega) (by omega) rfl rfl rfl (swR_n (sw_00 bw)).1 (swR_n (sw_00 bw)).2 rfl rfl
          · skip
            have c5 : (lO l) = 1 := (nI_eq (a := (lO l)) (b := 1) (by omega) (by omega)).mp (Classical.not_not.mp c5)
            refine exf_go 2 (show Q (.long (-5)) h1 from ?_)
            simp only [fSaw, e1] at k
            rw [if_pos (show sSw g = 0 ∨ cntL g l = 0 ∨ lO l = 1 from by unfold cntL; omega)] at k
            exact k _ q1
    · skip
      exact absurd (by decide) c2
  · skip
    have e1 : ixN x 3 = none := u1.elim wi_neg (wi_ge (n := 3) (by omega))
    show Go (d + 133) true 275 14 [.ref 130, .int x, mk_, mk_, mk_, mk_, mk_, mk_, mk_, mk_, mk_, mk_, mk_, mk_, mk_, mk_, mk_, mk_, mk_, mk_, mk_] [.int 0] (uI h 130 0 0) Q
    refine exf_go 1 (show (¬ (0 : Int32) = 0 → Go (d + 133) true 275 21 [.ref 130, .int x, mk_, mk_, mk_, mk_, mk_, mk_, mk_, mk_, mk_, mk_, mk_, mk_, mk_, mk_, mk_, mk_, mk_, mk_, mk_] [] (uI h 130 0 0) Q) ∧ (¬ (¬ (0 : Int32) = 0) → Go (d + 133) true 275 17 [.ref 130, .int x, mk_, mk_, mk_, mk_, mk_, mk_, mk_, mk_, mk_, mk_, mk_, mk_, mk_, mk_, mk_, mk_, mk_, mk_, mk_] [] (uI h 130 0 0) Q) from ⟨fun c18 => ?_, fun c18 => ?_⟩)
    · skip
      exact absurd c18 (by decide)
    · skip
      refine exf_go 2 (show Q (.long (-2)) (uI h 130 0 0) from ?_)
      simp only [fSaw, e1] at k
      exact k _ (Fq.uI' Fq.rfl' _ _ _ rfl)
