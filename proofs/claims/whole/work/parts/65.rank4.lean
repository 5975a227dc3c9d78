/-! The class's ranking, as a whole. -/
theorem scR_72 (i : Nat) : scR 72 i = true := rfl
theorem scR_99 (i : Nat) : scR 99 i = true := rfl
def scK (a _i : Nat) : Bool := (Nat.ble 71 a && Nat.ble a 77) || Nat.beq a 99
theorem scK_C (a i : Nat) (h : scC a i = false) : scK a i = false := by
  unfold scC at h
  unfold scK
  simp only [Bool.or_eq_false_iff] at h ⊢
  refine ⟨?_, h.1.2⟩
  cases e : (Nat.ble 71 a && Nat.ble a 77) with
  | false => rfl
  | true =>
    simp only [Bool.and_eq_true, Nat.ble_eq] at e
    have := h.1.1.1
    rw [Bool.and_eq_false_imp] at this
    have h2 := this (Nat.ble_eq.mpr e.1)
    rw [Nat.ble_eq.mpr (show a ≤ 86 by omega)] at h2
    exact Bool.noConfusion h2
theorem scR_K (a i : Nat) (h : scK a i = false) : scR a i = false := by
  unfold scK at h
  unfold scR
  simp only [Bool.or_eq_false_iff] at h ⊢
  refine ⟨?_, h.2⟩
  cases e : (Nat.ble 71 a && Nat.ble a 76) with
  | false => rfl
  | true =>
    simp only [Bool.and_eq_true, Nat.ble_eq] at e
    have := h.1
    rw [Bool.and_eq_false_imp] at this
    have h2 := this (Nat.ble_eq.mpr e.1)
    rw [Nat.ble_eq.mpr (show a ≤ 77 by omega)] at h2
    exact Bool.noConfusion h2
theorem c_rank37 {d : Nat} {h : Hp} {g : ShG} {l : LkG} {kn b : Nat} {Q : Po} (wf : WF h) (cs : CS 31 g h) (cl : CL 39 g l h) (hw : WT 37 g kn h) (hb : b < 2048) (k : ∀ h1, Gq scR h h1 → RKd (clsE g l kn b) g kn h1 → Q mk_ h1) : wpC (d + 4) true 48 [.ref 71, .ref 39, .int (nI b), .ref 37] h Q := by
  have he := evr_b cs.1
  have hN := tot_b cs.1
  refine go_in rfl ?_
  have X15 : ∀ (h1 : Hp), (Gq scR h h1) → (tot g ≤ rL h1 72) → Go (d + 3) true 48 15 [.ref 71, .ref 39, .int (nI b), .ref 37, mk_, mk_, mk_] [] h1 Q := by
    intro h1 g1 hal
    have cs1 := cs_gq cs (g1.mono scR_C)
    have cl1 := cl_gq cl (g1.mono scR_C)
    have hw1 : WT 37 g kn h1 := fun m hm => by rw [g1.I (a := 37) (fun _ => rfl)]; exact hw m hm
    have hl5 := (g1.2.2.2.1 wf).2.1 72
    refine exf_go 5 (show wpC (d + 3) true 50 [.ref 71, .ref 39, .int (nI b), .ref 37] h1 (fun _ h' => Go (d + 3) true 48 22 [.ref 71, .ref 39, .int (nI b), .ref 37, mk_, mk_, mk_] [] h' Q) from ?_)
    refine c_count37 cs1 cl1 hw1 hb (fun h2 q2 hc2 hs2 => ?_)
    have cs2 := cs_gq cs1 (q2.gq.mono scR_C)
    have hw2 : WT 37 g kn h2 := fun m hm => by rw [q2.I (a := 37) (fun _ => rfl)]; exact hw1 m hm
    show Go (d + 3) true 48 22 [.ref 71, .ref 39, .int (nI b), .ref 37, mk_, mk_, mk_] [] h2 Q
    refine exf_go 4 (show wpC (d + 3) true 51 [.ref 71, .ref 37] h2 (fun r h' => Go (d + 3) true 48 28 [.ref 71, .ref 39, .int (nI b), .ref 37, mk_, mk_, mk_] [r, .ref 71] h' Q) from ?_)
    refine c_sort37 cs2 hw2 hc2 (fun m => Nat.le_trans (cMk_le _ _ _ m) hN.2) (fun m hm => cMk_in cs.1 hm) (fun h3 f s p3 hS hs3 hf3 => ?_)
    have q3 : Fq scR h1 h3 := q2.tr (p3.mono (sAt_s (fun _ => rfl)))
    have cs3 := cs_gq cs1 (q3.gq.mono scR_C)
    have hw3 : WT 37 g kn h3 := fun m hm => by rw [q3.I (a := 37) (fun _ => rfl)]; exact hw1 m hm
    show Go (d + 3) true 48 28 [.ref 71, .ref 39, .int (nI b), .ref 37, mk_, mk_, mk_] [.int (nI f), .ref 71] h3 Q
    refine exf_go 2 (show wpC (d + 3) true 52 [.ref 71, .int (nI f), .ref 37] h3 (fun _ h' => Go (d + 3) true 48 32 [.ref 71, .ref 39, .int (nI b), .ref 37, mk_, mk_, mk_] [] h' Q) from ?_)
    refine c_share37 cs3 hw3 (fun m hm => by rw [p3.I (a := 73) (fun _ => rfl)]; exact hc2 m hm) hS hs3 hf3 (fun h4 p4 h45 h46 => ?_)
    have q4 : Fq scR h1 h4 := q3.tr (p4.mono s56_R)
    obtain ⟨ld, hW, hL4⟩ := ld_of hS cs.1 h45 h46
    have hs4 : rI h4 71 1 = nI (cntN (clsE g l kn b) (tot g)) := by rw [p4.I (a := 71) (fun _ => rfl), p3.I (a := 71) (fun _ => rfl)]; exact hs2
    show Go (d + 3) true 48 32 [.ref 71, .ref 39, .int (nI b), .ref 37, mk_, mk_, mk_] [] h4 Q
    refine exf_go 2 (show Go (d + 3) true 48 35 [.ref 71, .ref 39, .int (nI b), .ref 37, .int 0, mk_, mk_] [] h4 Q from ?_)
    have L35 : ∀ (k35 : Nat) (z5 z6 : Value) (n : Nat) (h5 : Hp), (tot g - n) < k35 → (n ≤ tot g) → (Fq scR h1 h5) → (LDR (clsE g l kn b) g kn n ld h5) → (rI h5 71 1 = nI (cntN (clsE g l kn b) (tot g))) → (∀ m, m < n → (clsE g l kn b) m = true → rI h5 72 (pos (clsE g l kn b) (key g kn) (tot g) m) = nI m) → Go (d + 3) true 48 35 [.ref 71, .ref 39, .int (nI b), .ref 37, .int (nI n), z5, z6] [] h5 Q := by
      intro k35
      induction k35 with
      | zero => intro z5 z6 n h5 hk; exact absurd hk (Nat.not_lt_zero _)
      | succ k35 ih35 =>
        intro z5 z6 n h5 hk hn q5 hL hs5 ho
        have cs5 := cs_fq cs1 (q5.mono scR_C)
        have cl5 := cl_fq cl1 (q5.mono scR_C)
        have hw5 : WT 37 g kn h5 := fun m hm => by rw [q5.I (a := 37) (fun _ => rfl)]; exact hw1 m hm
        have hH5 := hH cs.1 n
        have hal5 : al h5 72 = rL h1 72 := q5.L 72
        refine exf_go 3 (show Go (d + 3) true 48 41 [.ref 71, .ref 39, .int (nI b), .ref 37, .int (nI n), z5, z6] [.int (rI h5 39 1), .int (nI n)] h5 Q from ?_)
        rw [show (rI h5 39 1 : Int32) = nI (tot g) from cl_N cl5]
        refine exf_go 1 (show ((nI (tot g)) ≤ (nI n) → Go (d + 3) true 48 109 [.ref 71, .ref 39, .int (nI b), .ref 37, .int (nI n), z5, z6] [] h5 Q) ∧ (¬ ((nI (tot g)) ≤ (nI n)) → Go (d + 3) true 48 44 [.ref 71, .ref 39, .int (nI b), .ref 37, .int (nI n), z5, z6] [] h5 Q) from ⟨fun c1 => ?_, fun c1 => ?_⟩)
        · skip
          have c1 : (tot g) ≤ n := (nI_leI (a := (tot g)) (b := n) (by omega) (by omega)).mp c1
          refine exf_go 1 (show Q (mk_) h5 from ?_)
          exact k h5 (g1.tr q5.gq) ⟨hs5, fun m hm hE => ho m (by omega) hE, by rw [show rL h5 72 = rL h1 72 from q5.L 72]; exact hal, (q5.gq.2.2.2.1 (g1.2.2.2.1 wf)).2.1 72⟩
        · skip
          have c1 : ¬ (tot g) ≤ n := fun q => c1 ((nI_leI (a := (tot g)) (b := n) (by omega) (by omega)).mpr q)
          refine exf_go 3 (show wpC (d + 3) true 29 [.ref 39, .int (nI n)] h5 (fun r h' => Go (d + 3) true 48 50 [.ref 71, .ref 39, .int (nI b), .ref 37, .int (nI n), z5, z6] [r] h' Q) from ?_)
          refine c_maskOf cs5 cl5 (by omega) ?_
          have := sH_b cs.1 n
          show Go (d + 3) true 48 50 [.ref 71, .ref 39, .int (nI b), .ref 37, .int (nI n), z5, z6] [.int (nI (sH g n))] h5 Q
          refine exf_go 4 (show vp_in (nI (sH g n)) 256 ∧ (Go (d + 3) true 48 56 [.ref 71, .ref 39, .int (nI b), .ref 37, .int (nI n), .int (nI (sH g n)), z6] [.int (rI h5 37 ((nI (sH g n)).toNatClampNeg))] h5 Q) from ⟨(vp_in_nI (by omega) (by omega)), ?_⟩)
          rw [show (rI h5 37 ((nI (sH g n)).toNatClampNeg) : Int32) = nI (wtK g kn (sH g n)) from by rw [nI_clamp (by omega)]; exact hw5 _ (by omega)]
          have hwb1 := wtK_b cs.1 kn (sH g n)
          refine exf_go 1 (show ((nI (wtK g kn (sH g n))) ≤ 0 → Go (d + 3) true 48 103 [.ref 71, .ref 39, .int (nI b), .ref 37, .int (nI n), .int (nI (sH g n)), z6] [] h5 Q) ∧ (¬ ((nI (wtK g kn (sH g n))) ≤ 0) → Go (d + 3) true 48 59 [.ref 71, .ref 39, .int (nI b), .ref 37, .int (nI n), .int (nI (sH g n)), z6] [] h5 Q) from ⟨fun c2 => ?_, fun c2 => ?_⟩)
          · skip
            have c2 : (wtK g kn (sH g n)) ≤ 0 := (nI_leI (a := (wtK g kn (sH g n))) (b := 0) (by omega) (by omega)).mp c2
            have hEf : clsE g l kn b n = false := clsE_n1 (by omega)
            refine exf_go 1 (show Go (d + 3) true 48 106 [.ref 71, .ref 39, .int (nI b), .ref 37, .int ((nI n) + 1), .int (nI (sH g n)), z6] [] h5 Q from ?_)
            rw [show ((nI n) + 1 : Int32) = nI (n + 1) from nI_add n 1]
            refine exf_go 1 (show Go (d + 3) true 48 35 [.ref 71, .ref 39, .int (nI b), .ref 37, .int (nI (n + 1)), .int (nI (sH g n)), z6] [] h5 Q from ?_)
            exact ih35 (.int (nI (sH g n))) z6 (n + 1) _ (by omega) (by omega) q5 (ld_no hL hEf) hs5 (fun m hm hE => ho m ((Nat.lt_or_eq_of_le (Nat.le_of_lt_succ hm)).elim id (fun e => by rw [e, hEf] at hE; exact Bool.noConfusion hE)) hE)
          · skip
            have c2 : ¬ (wtK g kn (sH g n)) ≤ 0 := fun q => c2 ((nI_leI (a := (wtK g kn (sH g n))) (b := 0) (by omega) (by omega)).mpr q)
            refine exf_go 4 (show wpC (d + 3) true 30 [.ref 39, .int (nI n), .int (nI b)] h5 (fun r h' => Go (d + 3) true 48 66 [.ref 71, .ref 39, .int (nI b), .ref 37, .int (nI n), .int (nI (sH g n)), z6] [r] h' Q) from ?_)
            refine c_hasMark cs5 cl5 (by omega) (fun b3 => ?_) (fun b3 => ?_)
            · skip
              have hEf : clsE g l kn b n = false := clsE_n2 b3
              show Go (d + 3) true 48 66 [.ref 71, .ref 39, .int (nI b), .ref 37, .int (nI n), .int (nI (sH g n)), z6] [.int 1] h5 Q
              refine exf_go 1 (show (¬ (1 : Int32) = 0 → Go (d + 3) true 48 103 [.ref 71, .ref 39, .int (nI b), .ref 37, .int (nI n), .int (nI (sH g n)), z6] [] h5 Q) ∧ (¬ (¬ (1 : Int32) = 0) → Go (d + 3) true 48 69 [.ref 71, .ref 39, .int (nI b), .ref 37, .int (nI n), .int (nI (sH g n)), z6] [] h5 Q) from ⟨fun c4 => ?_, fun c4 => ?_⟩)
              · skip
                refine exf_go 1 (show Go (d + 3) true 48 106 [.ref 71, .ref 39, .int (nI b), .ref 37, .int ((nI n) + 1), .int (nI (sH g n)), z6] [] h5 Q from ?_)
                rw [show ((nI n) + 1 : Int32) = nI (n + 1) from nI_add n 1]
                refine exf_go 1 (show Go (d + 3) true 48 35 [.ref 71, .ref 39, .int (nI b), .ref 37, .int (nI (n + 1)), .int (nI (sH g n)), z6] [] h5 Q from ?_)
                exact ih35 (.int (nI (sH g n))) z6 (n + 1) _ (by omega) (by omega) q5 (ld_no hL hEf) hs5 (fun m hm hE => ho m ((Nat.lt_or_eq_of_le (Nat.le_of_lt_succ hm)).elim id (fun e => by rw [e, hEf] at hE; exact Bool.noConfusion hE)) hE)
              · skip
                exact absurd (by decide) c4
            · skip
              have hEn : clsE g l kn b n = true := clsE_y (by omega) b3
              have hcp : 0 < cMk (clsE g l kn b) (sH g) (tot g) (sH g n) := Nat.lt_of_le_of_lt (Nat.zero_le _) (cnt_lt (show n < tot g by omega) (p := fun k => clsE g l kn b k && decide (sH g k = sH g n)) (by simp [hEn]))
              have hl1 := hL _ hcp; have hl2 := (hW _ hcp).1; have hpl := pos_lt (rk := key g kn) (N := tot g) (n := n) (by omega) hEn; have hcc := cntN_le (clsE g l kn b) (tot g)
              show Go (d + 3) true 48 66 [.ref 71, .ref 39, .int (nI b), .ref 37, .int (nI n), .int (nI (sH g n)), z6] [.int 0] h5 Q
              refine exf_go 1 (show (¬ (0 : Int32) = 0 → Go (d + 3) true 48 103 [.ref 71, .ref 39, .int (nI b), .ref 37, .int (nI n), .int (nI (sH g n)), z6] [] h5 Q) ∧ (¬ (¬ (0 : Int32) = 0) → Go (d + 3) true 48 69 [.ref 71, .ref 39, .int (nI b), .ref 37, .int (nI n), .int (nI (sH g n)), z6] [] h5 Q) from ⟨fun c5 => ?_, fun c5 => ?_⟩)
              · skip
                exact absurd c5 (by decide)
              · skip
                refine exf_go 4 (show vp_in (nI (sH g n)) 256 ∧ (Go (d + 3) true 48 76 [.ref 71, .ref 39, .int (nI b), .ref 37, .int (nI n), .int (nI (sH g n)), z6] [.int (rI h5 75 ((nI (sH g n)).toNatClampNeg))] h5 Q) from ⟨(vp_in_nI (by omega) (by omega)), ?_⟩)
                rw [show (rI h5 75 ((nI (sH g n)).toNatClampNeg) : Int32) = nI (ld (sH g n)) from by rw [nI_clamp (by omega)]; exact hl1.1]
                refine exf_go 7 (show vp_in (nI (ld (sH g n))) 256 ∧ (Go (d + 3) true 48 89 [.ref 71, .ref 39, .int (nI b), .ref 37, .int (nI n), .int (nI (sH g n)), .int (nI (ld (sH g n)))] [.int (rI h5 76 ((nI (ld (sH g n))).toNatClampNeg)), .ref 72] h5 Q) from ⟨(vp_in_nI (by omega) (by omega)), ?_⟩)
                rw [show (rI h5 76 ((nI (ld (sH g n))).toNatClampNeg) : Int32) = nI (pos (clsE g l kn b) (key g kn) (tot g) n) from by rw [nI_clamp (by omega)]; exact hl1.2]
                refine exf_go 7 (show vp_in (nI (pos (clsE g l kn b) (key g kn) (tot g) n)) (al h5 72) ∧ vp_in (nI (ld (sH g n))) 256 ∧ (Go (d + 3) true 48 100 [.ref 71, .ref 39, .int (nI b), .ref 37, .int (nI n), .int (nI (sH g n)), .int (nI (ld (sH g n)))] [.int (rI h5 76 ((nI (ld (sH g n))).toNatClampNeg)), .int (nI (ld (sH g n))), .ref 76] (uI h5 72 ((nI (pos (clsE g l kn b) (key g kn) (tot g) n)).toNatClampNeg) (nI n)) Q) from ⟨(by rw [hal5]; exact vp_in_nI (by omega) (by omega)), (vp_in_nI (by omega) (by omega)), ?_⟩)
                rw [show (rI h5 76 ((nI (ld (sH g n))).toNatClampNeg) : Int32) = nI (pos (clsE g l kn b) (key g kn) (tot g) n) from by rw [nI_clamp (by omega)]; exact hl1.2]
                refine exf_go 2 (show Go (d + 3) true 48 102 [.ref 71, .ref 39, .int (nI b), .ref 37, .int (nI n), .int (nI (sH g n)), .int (nI (ld (sH g n)))] [.int ((nI (pos (clsE g l kn b) (key g kn) (tot g) n)) + 1), .int (nI (ld (sH g n))), .ref 76] (uI h5 72 ((nI (pos (clsE g l kn b) (key g kn) (tot g) n)).toNatClampNeg) (nI n)) Q from ?_)
                rw [show ((nI (pos (clsE g l kn b) (key g kn) (tot g) n)) + 1 : Int32) = nI ((pos (clsE g l kn b) (key g kn) (tot g) n) + 1) from nI_add (pos (clsE g l kn b) (key g kn) (tot g) n) 1]
                refine exf_go 2 (show vp_in (nI (ld (sH g n))) 256 ∧ (Go (d + 3) true 48 106 [.ref 71, .ref 39, .int (nI b), .ref 37, .int ((nI n) + 1), .int (nI (sH g n)), .int (nI (ld (sH g n)))] [] (uI (uI h5 72 ((nI (pos (clsE g l kn b) (key g kn) (tot g) n)).toNatClampNeg) (nI n)) 76 ((nI (ld (sH g n))).toNatClampNeg) (nI ((pos (clsE g l kn b) (key g kn) (tot g) n) + 1))) Q) from ⟨(vp_in_nI (by omega) (by omega)), ?_⟩)
                rw [show ((nI n) + 1 : Int32) = nI (n + 1) from nI_add n 1]
                refine exf_go 1 (show Go (d + 3) true 48 35 [.ref 71, .ref 39, .int (nI b), .ref 37, .int (nI (n + 1)), .int (nI (sH g n)), .int (nI (ld (sH g n)))] [] (uI (uI h5 72 ((nI (pos (clsE g l kn b) (key g kn) (tot g) n)).toNatClampNeg) (nI n)) 76 ((nI (ld (sH g n))).toNatClampNeg) (nI ((pos (clsE g l kn b) (key g kn) (tot g) n) + 1))) Q from ?_)
                exact ih35 (.int (nI (sH g n))) (.int (nI (ld (sH g n)))) (n + 1) _ (by omega) (by omega) ((q5.uI' _ _ _ rfl).uI' _ _ _ rfl) (by rw [nI_clamp (n := ld (sH g n)) (by omega)]; exact ld_y cs.1 (by omega) hW hL hEn _ _) ((congrFun ((rI_uI_ne (by decide)).trans (rI_uI_ne (by decide))) 1).trans hs5) (fun m hm hE => by rw [rI_uI_ne (by decide), nI_clamp (by omega)]; exact (Decidable.em (m = n)).elim (fun e => by subst e; exact rI_uI_eq) (fun e => by rw [rI_uI_at (fun q => pos_inj (rk := key g kn) (N := tot g) (m := m) (n := n) (by omega) (by omega) hE hEn (by omega) q.symm)]; exact ho m (by omega) hE))
    exact L35 (tot g + 1) mk_ mk_ 0 h4 (by omega) (by omega) q4 hL4 hs4 (fun j hj => absurd hj (Nat.not_lt_zero _))
  refine exf_go 5 (show Go (d + 3) true 48 9 [.ref 71, .ref 39, .int (nI b), .ref 37, mk_, mk_, mk_] [.int (rI h 39 1), .ref 72, .ref 71] h Q from ?_)
  rw [show (rI h 39 1 : Int32) = nI (tot g) from cl_N cl]
  refine exf_go 1 (show wpC (d + 3) true 182 [.ref 72, .int (nI (tot g))] h (fun r h' => Go (d + 3) true 48 12 [.ref 71, .ref 39, .int (nI b), .ref 37, mk_, mk_, mk_] [r, .ref 71] h' Q) from ?_)
  refine c_room72 wf (by omega) (fun r1 => ?_) (fun mr r1 r2 r3 => ?_)
  · skip
    show Go (d + 3) true 48 12 [.ref 71, .ref 39, .int (nI b), .ref 37, mk_, mk_, mk_] [.ref 72, .ref 71] h Q
    refine exf_go 1 (show Go (d + 3) true 48 15 [.ref 71, .ref 39, .int (nI b), .ref 37, mk_, mk_, mk_] [] (uN h 71 0 true) Q from ?_)
    exact X15 _ (Gq.uN' Gq.rfl' (wf.2.2 71 0 rfl)) (by show tot g ≤ rL h 72; omega)
  · skip
    have hgw := grow (s := scR) (z := 72) wf (by omega) scR_72 scR_99 r1 r3
    show Go (d + 3) true 48 12 [.ref 71, .ref 39, .int (nI b), .ref 37, mk_, mk_, mk_] [.ref 99, .ref 71] (nwH h 99 mr) Q
    refine exf_go 1 (show rN (nwH h 99 mr) 71 0 = true ∧ (Go (d + 3) true 48 15 [.ref 71, .ref 39, .int (nI b), .ref 37, mk_, mk_, mk_] [] (adp (nwH h 99 mr) 72) Q) from ⟨(wf.2.2 71 0 rfl), ?_⟩)
    exact X15 _ hgw.1 (by rw [hgw.2.1]; omega)
theorem c_rank77 {d : Nat} {h : Hp} {g : ShG} {l : LkG} {kn b : Nat} {Q : Po} (wf : WF h) (cs : CS 31 g h) (cl : CL 39 g l h) (hw : WT 77 g kn h) (hb : b < 2048) (k : ∀ h1, Gq scR h h1 → RKd (clsE g l kn b) g kn h1 → Q mk_ h1) : wpC (d + 4) true 48 [.ref 71, .ref 39, .int (nI b), .ref 77] h Q := by
  have he := evr_b cs.1
  have hN := tot_b cs.1
  refine go_in rfl ?_
  have X15 : ∀ (h1 : Hp), (Gq scR h h1) → (tot g ≤ rL h1 72) → Go (d + 3) true 48 15 [.ref 71, .ref 39, .int (nI b), .ref 77, mk_, mk_, mk_] [] h1 Q := by
    intro h1 g1 hal
    have cs1 := cs_gq cs (g1.mono scR_C)
    have cl1 := cl_gq cl (g1.mono scR_C)
    have hw1 : WT 77 g kn h1 := fun m hm => by rw [g1.I (a := 77) (fun _ => rfl)]; exact hw m hm
    have hl5 := (g1.2.2.2.1 wf).2.1 72
    refine exf_go 5 (show wpC (d + 3) true 50 [.ref 71, .ref 39, .int (nI b), .ref 77] h1 (fun _ h' => Go (d + 3) true 48 22 [.ref 71, .ref 39, .int (nI b), .ref 77, mk_, mk_, mk_] [] h' Q) from ?_)
    refine c_count77 cs1 cl1 hw1 hb (fun h2 q2 hc2 hs2 => ?_)
    have cs2 := cs_gq cs1 (q2.gq.mono scR_C)
    have hw2 : WT 77 g kn h2 := fun m hm => by rw [q2.I (a := 77) (fun _ => rfl)]; exact hw1 m hm
    show Go (d + 3) true 48 22 [.ref 71, .ref 39, .int (nI b), .ref 77, mk_, mk_, mk_] [] h2 Q
    refine exf_go 4 (show wpC (d + 3) true 51 [.ref 71, .ref 77] h2 (fun r h' => Go (d + 3) true 48 28 [.ref 71, .ref 39, .int (nI b), .ref 77, mk_, mk_, mk_] [r, .ref 71] h' Q) from ?_)
    refine c_sort77 cs2 hw2 hc2 (fun m => Nat.le_trans (cMk_le _ _ _ m) hN.2) (fun m hm => cMk_in cs.1 hm) (fun h3 f s p3 hS hs3 hf3 => ?_)
    have q3 : Fq scR h1 h3 := q2.tr (p3.mono (sAt_s (fun _ => rfl)))
    have cs3 := cs_gq cs1 (q3.gq.mono scR_C)
    have hw3 : WT 77 g kn h3 := fun m hm => by rw [q3.I (a := 77) (fun _ => rfl)]; exact hw1 m hm
    show Go (d + 3) true 48 28 [.ref 71, .ref 39, .int (nI b), .ref 77, mk_, mk_, mk_] [.int (nI f), .ref 71] h3 Q
    refine exf_go 2 (show wpC (d + 3) true 52 [.ref 71, .int (nI f), .ref 77] h3 (fun _ h' => Go (d + 3) true 48 32 [.ref 71, .ref 39, .int (nI b), .ref 77, mk_, mk_, mk_] [] h' Q) from ?_)
    refine c_share77 cs3 hw3 (fun m hm => by rw [p3.I (a := 73) (fun _ => rfl)]; exact hc2 m hm) hS hs3 hf3 (fun h4 p4 h45 h46 => ?_)
    have q4 : Fq scR h1 h4 := q3.tr (p4.mono s56_R)
    obtain ⟨ld, hW, hL4⟩ := ld_of hS cs.1 h45 h46
    have hs4 : rI h4 71 1 = nI (cntN (clsE g l kn b) (tot g)) := by rw [p4.I (a := 71) (fun _ => rfl), p3.I (a := 71) (fun _ => rfl)]; exact hs2
    show Go (d + 3) true 48 32 [.ref 71, .ref 39, .int (nI b), .ref 77, mk_, mk_, mk_] [] h4 Q
    refine exf_go 2 (show Go (d + 3) true 48 35 [.ref 71, .ref 39, .int (nI b), .ref 77, .int 0, mk_, mk_] [] h4 Q from ?_)
    have L35 : ∀ (k35 : Nat) (z5 z6 : Value) (n : Nat) (h5 : Hp), (tot g - n) < k35 → (n ≤ tot g) → (Fq scR h1 h5) → (LDR (clsE g l kn b) g kn n ld h5) → (rI h5 71 1 = nI (cntN (clsE g l kn b) (tot g))) → (∀ m, m < n → (clsE g l kn b) m = true → rI h5 72 (pos (clsE g l kn b) (key g kn) (tot g) m) = nI m) → Go (d + 3) true 48 35 [.ref 71, .ref 39, .int (nI b), .ref 77, .int (nI n), z5, z6] [] h5 Q := by
      intro k35
      induction k35 with
      | zero => intro z5 z6 n h5 hk; exact absurd hk (Nat.not_lt_zero _)
      | succ k35 ih35 =>
        intro z5 z6 n h5 hk hn q5 hL hs5 ho
        have cs5 := cs_fq cs1 (q5.mono scR_C)
        have cl5 := cl_fq cl1 (q5.mono scR_C)
        have hw5 : WT 77 g kn h5 := fun m hm => by rw [q5.I (a := 77) (fun _ => rfl)]; exact hw1 m hm
        have hH5 := hH cs.1 n
        have hal5 : al h5 72 = rL h1 72 := q5.L 72
        refine exf_go 3 (show Go (d + 3) true 48 41 [.ref 71, .ref 39, .int (nI b), .ref 77, .int (nI n), z5, z6] [.int (rI h5 39 1), .int (nI n)] h5 Q from ?_)
        rw [show (rI h5 39 1 : Int32) = nI (tot g) from cl_N cl5]
        refine exf_go 1 (show ((nI (tot g)) ≤ (nI n) → Go (d + 3) true 48 109 [.ref 71, .ref 39, .int (nI b), .ref 77, .int (nI n), z5, z6] [] h5 Q) ∧ (¬ ((nI (tot g)) ≤ (nI n)) → Go (d + 3) true 48 44 [.ref 71, .ref 39, .int (nI b), .ref 77, .int (nI n), z5, z6] [] h5 Q) from ⟨fun c1 => ?_, fun c1 => ?_⟩)
        · skip
          have c1 : (tot g) ≤ n := (nI_leI (a := (tot g)) (b := n) (by omega) (by omega)).mp c1
          refine exf_go 1 (show Q (mk_) h5 from ?_)
          exact k h5 (g1.tr q5.gq) ⟨hs5, fun m hm hE => ho m (by omega) hE, by rw [show rL h5 72 = rL h1 72 from q5.L 72]; exact hal, (q5.gq.2.2.2.1 (g1.2.2.2.1 wf)).2.1 72⟩
        · skip
          have c1 : ¬ (tot g) ≤ n := fun q => c1 ((nI_leI (a := (tot g)) (b := n) (by omega) (by omega)).mpr q)
          refine exf_go 3 (show wpC (d + 3) true 29 [.ref 39, .int (nI n)] h5 (fun r h' => Go (d + 3) true 48 50 [.ref 71, .ref 39, .int (nI b), .ref 77, .int (nI n), z5, z6] [r] h' Q) from ?_)
          refine c_maskOf cs5 cl5 (by omega) ?_
          have := sH_b cs.1 n
          show Go (d + 3) true 48 50 [.ref 71, .ref 39, .int (nI b), .ref 77, .int (nI n), z5, z6] [.int (nI (sH g n))] h5 Q
          refine exf_go 4 (show vp_in (nI (sH g n)) 256 ∧ (Go (d + 3) true 48 56 [.ref 71, .ref 39, .int (nI b), .ref 77, .int (nI n), .int (nI (sH g n)), z6] [.int (rI h5 77 ((nI (sH g n)).toNatClampNeg))] h5 Q) from ⟨(vp_in_nI (by omega) (by omega)), ?_⟩)
          rw [show (rI h5 77 ((nI (sH g n)).toNatClampNeg) : Int32) = nI (wtK g kn (sH g n)) from by rw [nI_clamp (by omega)]; exact hw5 _ (by omega)]
          have hwb1 := wtK_b cs.1 kn (sH g n)
          refine exf_go 1 (show ((nI (wtK g kn (sH g n))) ≤ 0 → Go (d + 3) true 48 103 [.ref 71, .ref 39, .int (nI b), .ref 77, .int (nI n), .int (nI (sH g n)), z6] [] h5 Q) ∧ (¬ ((nI (wtK g kn (sH g n))) ≤ 0) → Go (d + 3) true 48 59 [.ref 71, .ref 39, .int (nI b), .ref 77, .int (nI n), .int (nI (sH g n)), z6] [] h5 Q) from ⟨fun c2 => ?_, fun c2 => ?_⟩)
          · skip
            have c2 : (wtK g kn (sH g n)) ≤ 0 := (nI_leI (a := (wtK g kn (sH g n))) (b := 0) (by omega) (by omega)).mp c2
            have hEf : clsE g l kn b n = false := clsE_n1 (by omega)
            refine exf_go 1 (show Go (d + 3) true 48 106 [.ref 71, .ref 39, .int (nI b), .ref 77, .int ((nI n) + 1), .int (nI (sH g n)), z6] [] h5 Q from ?_)
            rw [show ((nI n) + 1 : Int32) = nI (n + 1) from nI_add n 1]
            refine exf_go 1 (show Go (d + 3) true 48 35 [.ref 71, .ref 39, .int (nI b), .ref 77, .int (nI (n + 1)), .int (nI (sH g n)), z6] [] h5 Q from ?_)
            exact ih35 (.int (nI (sH g n))) z6 (n + 1) _ (by omega) (by omega) q5 (ld_no hL hEf) hs5 (fun m hm hE => ho m ((Nat.lt_or_eq_of_le (Nat.le_of_lt_succ hm)).elim id (fun e => by rw [e, hEf] at hE; exact Bool.noConfusion hE)) hE)
          · skip
            have c2 : ¬ (wtK g kn (sH g n)) ≤ 0 := fun q => c2 ((nI_leI (a := (wtK g kn (sH g n))) (b := 0) (by omega) (by omega)).mpr q)
            refine exf_go 4 (show wpC (d + 3) true 30 [.ref 39, .int (nI n), .int (nI b)] h5 (fun r h' => Go (d + 3) true 48 66 [.ref 71, .ref 39, .int (nI b), .ref 77, .int (nI n), .int (nI (sH g n)), z6] [r] h' Q) from ?_)
            refine c_hasMark cs5 cl5 (by omega) (fun b3 => ?_) (fun b3 => ?_)
            · skip
              have hEf : clsE g l kn b n = false := clsE_n2 b3
              show Go (d + 3) true 48 66 [.ref 71, .ref 39, .int (nI b), .ref 77, .int (nI n), .int (nI (sH g n)), z6] [.int 1] h5 Q
              refine exf_go 1 (show (¬ (1 : Int32) = 0 → Go (d + 3) true 48 103 [.ref 71, .ref 39, .int (nI b), .ref 77, .int (nI n), .int (nI (sH g n)), z6] [] h5 Q) ∧ (¬ (¬ (1 : Int32) = 0) → Go (d + 3) true 48 69 [.ref 71, .ref 39, .int (nI b), .ref 77, .int (nI n), .int (nI (sH g n)), z6] [] h5 Q) from ⟨fun c4 => ?_, fun c4 => ?_⟩)
              · skip
                refine exf_go 1 (show Go (d + 3) true 48 106 [.ref 71, .ref 39, .int (nI b), .ref 77, .int ((nI n) + 1), .int (nI (sH g n)), z6] [] h5 Q from ?_)
                rw [show ((nI n) + 1 : Int32) = nI (n + 1) from nI_add n 1]
                refine exf_go 1 (show Go (d + 3) true 48 35 [.ref 71, .ref 39, .int (nI b), .ref 77, .int (nI (n + 1)), .int (nI (sH g n)), z6] [] h5 Q from ?_)
                exact ih35 (.int (nI (sH g n))) z6 (n + 1) _ (by omega) (by omega) q5 (ld_no hL hEf) hs5 (fun m hm hE => ho m ((Nat.lt_or_eq_of_le (Nat.le_of_lt_succ hm)).elim id (fun e => by rw [e, hEf] at hE; exact Bool.noConfusion hE)) hE)
              · skip
                exact absurd (by decide) c4
            · skip
              have hEn : clsE g l kn b n = true := clsE_y (by omega) b3
              have hcp : 0 < cMk (clsE g l kn b) (sH g) (tot g) (sH g n) := Nat.lt_of_le_of_lt (Nat.zero_le _) (cnt_lt (show n < tot g by omega) (p := fun k => clsE g l kn b k && decide (sH g k = sH g n)) (by simp [hEn]))
              have hl1 := hL _ hcp; have hl2 := (hW _ hcp).1; have hpl := pos_lt (rk := key g kn) (N := tot g) (n := n) (by omega) hEn; have hcc := cntN_le (clsE g l kn b) (tot g)
              show Go (d + 3) true 48 66 [.ref 71, .ref 39, .int (nI b), .ref 77, .int (nI n), .int (nI (sH g n)), z6] [.int 0] h5 Q
              refine exf_go 1 (show (¬ (0 : Int32) = 0 → Go (d + 3) true 48 103 [.ref 71, .ref 39, .int (nI b), .ref 77, .int (nI n), .int (nI (sH g n)), z6] [] h5 Q) ∧ (¬ (¬ (0 : Int32) = 0) → Go (d + 3) true 48 69 [.ref 71, .ref 39, .int (nI b), .ref 77, .int (nI n), .int (nI (sH g n)), z6] [] h5 Q) from ⟨fun c5 => ?_, fun c5 => ?_⟩)
              · skip
                exact absurd c5 (by decide)
              · skip
                refine exf_go 4 (show vp_in (nI (sH g n)) 256 ∧ (Go (d + 3) true 48 76 [.ref 71, .ref 39, .int (nI b), .ref 77, .int (nI n), .int (nI (sH g n)), z6] [.int (rI h5 75 ((nI (sH g n)).toNatClampNeg))] h5 Q) from ⟨(vp_in_nI (by omega) (by omega)), ?_⟩)
                rw [show (rI h5 75 ((nI (sH g n)).toNatClampNeg) : Int32) = nI (ld (sH g n)) from by rw [nI_clamp (by omega)]; exact hl1.1]
                refine exf_go 7 (show vp_in (nI (ld (sH g n))) 256 ∧ (Go (d + 3) true 48 89 [.ref 71, .ref 39, .int (nI b), .ref 77, .int (nI n), .int (nI (sH g n)), .int (nI (ld (sH g n)))] [.int (rI h5 76 ((nI (ld (sH g n))).toNatClampNeg)), .ref 72] h5 Q) from ⟨(vp_in_nI (by omega) (by omega)), ?_⟩)
                rw [show (rI h5 76 ((nI (ld (sH g n))).toNatClampNeg) : Int32) = nI (pos (clsE g l kn b) (key g kn) (tot g) n) from by rw [nI_clamp (by omega)]; exact hl1.2]
                refine exf_go 7 (show vp_in (nI (pos (clsE g l kn b) (key g kn) (tot g) n)) (al h5 72) ∧ vp_in (nI (ld (sH g n))) 256 ∧ (Go (d + 3) true 48 100 [.ref 71, .ref 39, .int (nI b), .ref 77, .int (nI n), .int (nI (sH g n)), .int (nI (ld (sH g n)))] [.int (rI h5 76 ((nI (ld (sH g n))).toNatClampNeg)), .int (nI (ld (sH g n))), .ref 76] (uI h5 72 ((nI (pos (clsE g l kn b) (key g kn) (tot g) n)).toNatClampNeg) (nI n)) Q) from ⟨(by rw [hal5]; exact vp_in_nI (by omega) (by omega)), (vp_in_nI (by omega) (by omega)), ?_⟩)
                rw [show (rI h5 76 ((nI (ld (sH g n))).toNatClampNeg) : Int32) = nI (pos (clsE g l kn b) (key g kn) (tot g) n) from by rw [nI_clamp (by omega)]; exact hl1.2]
                refine exf_go 2 (show Go (d + 3) true 48 102 [.ref 71, .ref 39, .int (nI b), .ref 77, .int (nI n), .int (nI (sH g n)), .int (nI (ld (sH g n)))] [.int ((nI (pos (clsE g l kn b) (key g kn) (tot g) n)) + 1), .int (nI (ld (sH g n))), .ref 76] (uI h5 72 ((nI (pos (clsE g l kn b) (key g kn) (tot g) n)).toNatClampNeg) (nI n)) Q from ?_)
                rw [show ((nI (pos (clsE g l kn b) (key g kn) (tot g) n)) + 1 : Int32) = nI ((pos (clsE g l kn b) (key g kn) (tot g) n) + 1) from nI_add (pos (clsE g l kn b) (key g kn) (tot g) n) 1]
                refine exf_go 2 (show vp_in (nI (ld (sH g n))) 256 ∧ (Go (d + 3) true 48 106 [.ref 71, .ref 39, .int (nI b), .ref 77, .int ((nI n) + 1), .int (nI (sH g n)), .int (nI (ld (sH g n)))] [] (uI (uI h5 72 ((nI (pos (clsE g l kn b) (key g kn) (tot g) n)).toNatClampNeg) (nI n)) 76 ((nI (ld (sH g n))).toNatClampNeg) (nI ((pos (clsE g l kn b) (key g kn) (tot g) n) + 1))) Q) from ⟨(vp_in_nI (by omega) (by omega)), ?_⟩)
                rw [show ((nI n) + 1 : Int32) = nI (n + 1) from nI_add n 1]
                refine exf_go 1 (show Go (d + 3) true 48 35 [.ref 71, .ref 39, .int (nI b), .ref 77, .int (nI (n + 1)), .int (nI (sH g n)), .int (nI (ld (sH g n)))] [] (uI (uI h5 72 ((nI (pos (clsE g l kn b) (key g kn) (tot g) n)).toNatClampNeg) (nI n)) 76 ((nI (ld (sH g n))).toNatClampNeg) (nI ((pos (clsE g l kn b) (key g kn) (tot g) n) + 1))) Q from ?_)
                exact ih35 (.int (nI (sH g n))) (.int (nI (ld (sH g n)))) (n + 1) _ (by omega) (by omega) ((q5.uI' _ _ _ rfl).uI' _ _ _ rfl) (by rw [nI_clamp (n := ld (sH g n)) (by omega)]; exact ld_y cs.1 (by omega) hW hL hEn _ _) ((congrFun ((rI_uI_ne (by decide)).trans (rI_uI_ne (by decide))) 1).trans hs5) (fun m hm hE => by rw [rI_uI_ne (by decide), nI_clamp (by omega)]; exact (Decidable.em (m = n)).elim (fun e => by subst e; exact rI_uI_eq) (fun e => by rw [rI_uI_at (fun q => pos_inj (rk := key g kn) (N := tot g) (m := m) (n := n) (by omega) (by omega) hE hEn (by omega) q.symm)]; exact ho m (by omega) hE))
    exact L35 (tot g + 1) mk_ mk_ 0 h4 (by omega) (by omega) q4 hL4 hs4 (fun j hj => absurd hj (Nat.not_lt_zero _))
  refine exf_go 5 (show Go (d + 3) true 48 9 [.ref 71, .ref 39, .int (nI b), .ref 77, mk_, mk_, mk_] [.int (rI h 39 1), .ref 72, .ref 71] h Q from ?_)
  rw [show (rI h 39 1 : Int32) = nI (tot g) from cl_N cl]
  refine exf_go 1 (show wpC (d + 3) true 182 [.ref 72, .int (nI (tot g))] h (fun r h' => Go (d + 3) true 48 12 [.ref 71, .ref 39, .int (nI b), .ref 77, mk_, mk_, mk_] [r, .ref 71] h' Q) from ?_)
  refine c_room72 wf (by omega) (fun r1 => ?_) (fun mr r1 r2 r3 => ?_)
  · skip
    show Go (d + 3) true 48 12 [.ref 71, .ref 39, .int (nI b), .ref 77, mk_, mk_, mk_] [.ref 72, .ref 71] h Q
    refine exf_go 1 (show Go (d + 3) true 48 15 [.ref 71, .ref 39, .int (nI b), .ref 77, mk_, mk_, mk_] [] (uN h 71 0 true) Q from ?_)
    exact X15 _ (Gq.uN' Gq.rfl' (wf.2.2 71 0 rfl)) (by show tot g ≤ rL h 72; omega)
  · skip
    have hgw := grow (s := scR) (z := 72) wf (by omega) scR_72 scR_99 r1 r3
    show Go (d + 3) true 48 12 [.ref 71, .ref 39, .int (nI b), .ref 77, mk_, mk_, mk_] [.ref 99, .ref 71] (nwH h 99 mr) Q
    refine exf_go 1 (show rN (nwH h 99 mr) 71 0 = true ∧ (Go (d + 3) true 48 15 [.ref 71, .ref 39, .int (nI b), .ref 77, mk_, mk_, mk_] [] (adp (nwH h 99 mr) 72) Q) from ⟨(wf.2.2 71 0 rfl), ?_⟩)
    exact X15 _ hgw.1 (by rw [hgw.2.1]; omega)
/-- the number at the place k of an order by weight -/
def ordE (E : Nat → Bool) (g : ShG) (kn k : Nat) : Nat := ordV E (key g kn) (tot g) k
theorem rk_at {E : Nat → Bool} {g : ShG} {kn : Nat} {h : Hp} (rk : RKd E g kn h) {k : Nat} (hk : k < cntN E (tot g)) : rI h 72 k = nI (ordE E g kn k) ∧ ordE E g kn k < tot g ∧ E (ordE E g kn k) = true := by
  obtain ⟨n, hn, hE, e⟩ := pos_sur E (key g kn) (tot g) hk
  have h1 := rk.2.1 n hn hE
  have h2 := ordV_ok E (key g kn) (tot g) n hn hE
  rw [e] at h1 h2
  unfold ordE
  rw [h1, h2]
  exact ⟨rfl, hn, hE⟩
theorem c_at {d : Nat} {h : Hp} {g : ShG} {kn j : Nat} {E : Nat → Bool} {Q : Po} (hg : ShW g) (rk : RKd E g kn h) (hj : j < 2 ^ 31) (k1 : j < cntN E (tot g) → Q (.int (nI (ordE E g kn j))) h) (k0 : ¬ j < cntN E (tot g) → Q (.int (-1)) h) : wpC (d + 1) true 49 [.ref 71, .int (nI j)] h Q := by
  have hN := tot_b hg
  have hcc := cntN_le E (tot g)
  refine go_in rfl ?_
  refine exf_go 2 (show ((nI j) < 0 → Go d true 49 21 [.ref 71, .int (nI j)] [] h Q) ∧ (¬ ((nI j) < 0) → Go d true 49 4 [.ref 71, .int (nI j)] [] h Q) from ⟨fun c1 => ?_, fun c1 => ?_⟩)
  · skip
    have c1 : j < 0 := (nI_ltI (a := j) (b := 0) (by omega) (by omega)).mp c1
    refine exf_go 2 (show Q (.int (-1)) h from ?_)
    exact k0 (by omega)
  · skip
    have c1 : ¬ j < 0 := fun q => c1 ((nI_ltI (a := j) (b := 0) (by omega) (by omega)).mpr q)
    refine exf_go 3 (show Go d true 49 9 [.ref 71, .int (nI j)] [.int (rI h 71 1), .int (nI j)] h Q from ?_)
    rw [show (rI h 71 1 : Int32) = nI (cntN E (tot g)) from rk.1]
    refine exf_go 1 (show ((nI (cntN E (tot g))) ≤ (nI j) → Go d true 49 21 [.ref 71, .int (nI j)] [] h Q) ∧ (¬ ((nI (cntN E (tot g))) ≤ (nI j)) → Go d true 49 12 [.ref 71, .int (nI j)] [] h Q) from ⟨fun c2 => ?_, fun c2 => ?_⟩)
    · skip
      have c2 : (cntN E (tot g)) ≤ j := (nI_leI (a := (cntN E (tot g))) (b := j) (by omega) (by omega)).mp c2
      refine exf_go 2 (show Q (.int (-1)) h from ?_)
      exact k0 (by omega)
    · skip
      have c2 : ¬ (cntN E (tot g)) ≤ j := fun q => c2 ((nI_leI (a := (cntN E (tot g))) (b := j) (by omega) (by omega)).mpr q)
      refine exf_go 4 (show vp_in (nI j) (al h 72) ∧ (Go d true 49 18 [.ref 71, .int (nI j)] [.int (rI h 72 ((nI j).toNatClampNeg))] h Q) from ⟨(vp_in_nI (by have := rk.2.2; show _ < rL h 72; omega) (by have := rk.2.2; show rL h 72 < _; omega)), ?_⟩)
      rw [show (rI h 72 ((nI j).toNatClampNeg) : Int32) = nI (ordE E g kn j) from by rw [nI_clamp (by omega)]; exact (rk_at rk (by omega)).1]
      refine exf_go 2 (show Q (.int (nI (ordE E g kn j))) h from ?_)
      exact k1 (by omega)
theorem clsE_left {g : ShG} {l : LkG} (hg : ShW g) (hl : LkW g l) : clsE g l (evr g) 1792 = lft g l := funext fun n => by
  have h1 := cel_b hg hl n
  have h2 := and_gone _ h1
  rw [← elg_lft hg hl n]
  unfold clsE elg
  have h3 := elg_lft hg hl n
  unfold elg lft at h3
  by_cases q : cel g l n &&& 1792 = 0
  · rw [decide_eq_true q, Bool.and_true]
    rw [decide_eq_true (h2.mp q)] at h3
    simp only [Bool.and_eq_true] at h3
    rw [h3.1]
    simp only [Bool.true_and, Bool.and_eq_true]
    exact (Bool.and_eq_true_iff.mpr h3.2).symm
  · rw [decide_eq_false q, Bool.and_false, h3, decide_eq_false (fun z => q (h2.mpr z))]
theorem clsE_mate {g : ShG} {l : LkG} (hg : ShW g) (hl : LkW g l) (kn : Nat) : clsE g l kn 256 = elg g l kn false := funext fun n => by
  have h1 := cel_b hg hl n
  have h2 := and_tri _ h1
  rw [cel_tri hg hl n] at h2
  unfold clsE elg
  rw [show decide (cel g l n &&& 256 = 0) = decide (lT l n = 0) from decide_eq_decide.mpr h2]
  simp
theorem wt_of {g : ShG} {h : Hp} (cs : CS 31 g h) : WT 37 g (evr g) h := fun m hm => cs_wtl cs m hm
theorem c_rankLeft {d : Nat} {h : Hp} {g : ShG} {l : LkG} {Q : Po} (wf : WF h) (cs : CS 31 g h) (cl : CL 39 g l h) (k : ∀ h1, Gq scR h h1 → RKd (lft g l) g (evr g) h1 → Q mk_ h1) : wpC (d + 5) true 167 [.ref 10] h Q := by
  refine go_in rfl ?_
  refine exf_go 9 (show wpC (d + 4) true 48 [.ref 71, .ref 39, .int 1792, .ref 37] h (fun _ h' => Go (d + 4) true 167 21 [.ref 10] [] h' Q) from ?_)
  refine c_rank37 (b := 1792) wf cs cl (wt_of cs) (by decide) (fun h1 g1 rk1 => ?_)
  rw [clsE_left cs.1 cl.1] at rk1
  show Go (d + 4) true 167 21 [.ref 10] [] h1 Q
  refine exf_go 1 (show Q (mk_) h1 from ?_)
  exact k h1 g1 rk1
theorem c_rankMate256 {d : Nat} {h : Hp} {g : ShG} {l : LkG} {m : Nat} {Q : Po} (wf : WF h) (cs : CS 31 g h) (cl : CL 39 g l h) (hm : m < sM g) (k : ∀ h1, Gq scK h h1 → RKd (elg g l (sK g m) false) g (sK g m) h1 → Q mk_ h1) : wpC (d + 5) true 168 [.ref 10, .int (nI m), .int 256] h Q := by
  have h4 := cs.1.2.2.2.2.2.1
  have hk := cs.1.2.2.2.2.2.2.1 m
  have he := evr_b cs.1
  refine go_in rfl ?_
  refine exf_go 7 (show vp_in (nI m) 4 ∧ (Go (d + 4) true 168 13 [.ref 10, .int (nI m), .int 256] [.int (rI h 38 ((nI m).toNatClampNeg)), .ref 31] h Q) from ⟨(vp_in_nI (by omega) (by omega)), ?_⟩)
  rw [show (rI h 38 ((nI m).toNatClampNeg) : Int32) = nI (sK g m) from cs_K cs (n := m) (by omega)]
  refine exf_go 3 (show wpC (d + 4) true 80 [.ref 31, .int (nI (sK g m)), .ref 77] h (fun _ h' => Go (d + 4) true 168 20 [.ref 10, .int (nI m), .int 256] [] h' Q) from ?_)
  refine c_fillW cs (by omega) (fun h1 p1 hw1 => ?_)
  have cs1 := cs_fq cs (p1.mono (sAt_C (fun _ => rfl)))
  have cl1 := cl_fq cl (p1.mono (sAt_C (fun _ => rfl)))
  show Go (d + 4) true 168 20 [.ref 10, .int (nI m), .int 256] [] h1 Q
  refine exf_go 8 (show wpC (d + 4) true 48 [.ref 71, .ref 39, .int 256, .ref 77] h1 (fun _ h' => Go (d + 4) true 168 36 [.ref 10, .int (nI m), .int 256] [] h' Q) from ?_)
  refine c_rank77 (b := 256) (p1.gq.2.2.2.1 wf) cs1 cl1 hw1 (by decide) (fun h2 g2 rk2 => ?_)
  show Go (d + 4) true 168 36 [.ref 10, .int (nI m), .int 256] [] h2 Q
  refine exf_go 1 (show Q (mk_) h2 from ?_)
  rw [clsE_mate cs.1 cl.1] at rk2; exact k h2 ((p1.mono (sAt_s (fun _ => rfl))).gq.tr (g2.mono scR_K)) rk2
theorem c_rankMate0 {d : Nat} {h : Hp} {g : ShG} {l : LkG} {m : Nat} {Q : Po} (wf : WF h) (cs : CS 31 g h) (cl : CL 39 g l h) (hm : m < sM g) (k : ∀ h1, Gq scK h h1 → RKd (clsE g l (sK g m) 0) g (sK g m) h1 → Q mk_ h1) : wpC (d + 5) true 168 [.ref 10, .int (nI m), .int 0] h Q := by
  have h4 := cs.1.2.2.2.2.2.1
  have hk := cs.1.2.2.2.2.2.2.1 m
  have he := evr_b cs.1
  refine go_in rfl ?_
  refine exf_go 7 (show vp_in (nI m) 4 ∧ (Go (d + 4) true 168 13 [.ref 10, .int (nI m), .int 0] [.int (rI h 38 ((nI m).toNatClampNeg)), .ref 31] h Q) from ⟨(vp_in_nI (by omega) (by omega)), ?_⟩)
  rw [show (rI h 38 ((nI m).toNatClampNeg) : Int32) = nI (sK g m) from cs_K cs (n := m) (by omega)]
  refine exf_go 3 (show wpC (d + 4) true 80 [.ref 31, .int (nI (sK g m)), .ref 77] h (fun _ h' => Go (d + 4) true 168 20 [.ref 10, .int (nI m), .int 0] [] h' Q) from ?_)
  refine c_fillW cs (by omega) (fun h1 p1 hw1 => ?_)
  have cs1 := cs_fq cs (p1.mono (sAt_C (fun _ => rfl)))
  have cl1 := cl_fq cl (p1.mono (sAt_C (fun _ => rfl)))
  show Go (d + 4) true 168 20 [.ref 10, .int (nI m), .int 0] [] h1 Q
  refine exf_go 8 (show wpC (d + 4) true 48 [.ref 71, .ref 39, .int 0, .ref 77] h1 (fun _ h' => Go (d + 4) true 168 36 [.ref 10, .int (nI m), .int 0] [] h' Q) from ?_)
  refine c_rank77 (b := 0) (p1.gq.2.2.2.1 wf) cs1 cl1 hw1 (by decide) (fun h2 g2 rk2 => ?_)
  show Go (d + 4) true 168 36 [.ref 10, .int (nI m), .int 0] [] h2 Q
  refine exf_go 1 (show Q (mk_) h2 from ?_)
  exact k h2 ((p1.mono (sAt_s (fun _ => rfl))).gq.tr (g2.mono scR_K)) rk2
