/-! Danger, both, hidden. -/
theorem c_danger {d : Nat} {h : Hp} {g : ShG} {l : LkG} {x : Int32} {Q : Po} (wf : WF h) (cs : CS 31 g h) (cl : CL 39 g l h) (k : ∀ h1, Gq scC h h1 → Q (.int (fDanger g l x)) h1) : wpC (d + 6) true 143 [.ref 10, .int x] h Q := by
  have hN := tot_b cs.1
  have he := evr_b cs.1
  have h8 := cs.1.2.2.2.1
  have h4 := cs.1.2.2.2.2.2.1
  refine go_in rfl ?_
  refine exf_go 2 (show (x < 0 → Go (d + 5) true 143 11 [.ref 10, .int x, mk_, mk_, mk_, mk_, mk_, mk_] [] h Q) ∧ (¬ (x < 0) → Go (d + 5) true 143 4 [.ref 10, .int x, mk_, mk_, mk_, mk_, mk_, mk_] [] h Q) from ⟨fun c1 => ?_, fun c1 => ?_⟩)
  · skip
    have ex : ixN x 10001 = none := ix_neg c1
    refine exf_go 2 (show Q (.int (-3)) h from ?_)
    simp only [fDanger, ex] at k
    exact k _ Gq.rfl'
  · skip
    refine exf_go 3 (show (x ≤ 10000 → Go (d + 5) true 143 14 [.ref 10, .int x, mk_, mk_, mk_, mk_, mk_, mk_] [] h Q) ∧ (¬ (x ≤ 10000) → Go (d + 5) true 143 11 [.ref 10, .int x, mk_, mk_, mk_, mk_, mk_, mk_] [] h Q) from ⟨fun c2 => ?_, fun c2 => ?_⟩)
    · skip
      obtain ⟨jx, ex, exq, exr⟩ := ix_le (n := 10000) (by omega) c1 c2
      subst exq
      refine exf_go 3 (show wpC (d + 5) true 33 [.ref 39] h (fun r h' => Go (d + 5) true 143 21 [.ref 10, .int (nI jx), mk_, mk_, mk_, mk_, mk_, mk_] [r] h' Q) from ?_)
      refine c_leftOnes cs cl ?_
      have := cntN_le (lft g l) (tot g)
      show Go (d + 5) true 143 21 [.ref 10, .int (nI jx), mk_, mk_, mk_, mk_, mk_, mk_] [.int (nI (cntN (lft g l) (tot g)))] h Q
      refine exf_go 1 (show (¬ (nI (cntN (lft g l) (tot g))) = 0 → Go (d + 5) true 143 27 [.ref 10, .int (nI jx), mk_, mk_, mk_, mk_, mk_, mk_] [] h Q) ∧ (¬ (¬ (nI (cntN (lft g l) (tot g))) = 0) → Go (d + 5) true 143 24 [.ref 10, .int (nI jx), mk_, mk_, mk_, mk_, mk_, mk_] [] h Q) from ⟨fun c3 => ?_, fun c3 => ?_⟩)
      · skip
        have c3 : ¬ (cntN (lft g l) (tot g)) = 0 := fun q => c3 ((nI_eq (a := (cntN (lft g l) (tot g))) (b := 0) (by omega) (by omega)).mpr q)
        refine exf_go 6 (show Go (d + 5) true 143 34 [.ref 10, .int (nI jx), .int (-1), .long 0, mk_, .int 0, mk_, mk_] [] h Q from ?_)
        have L34 : ∀ (k34 : Nat) (z6 : Value) (n : Nat) (o : Option Nat) (m : Nat) (h1 : Hp), (sM g - n) < k34 → (n ≤ sM g) → ((o = none → z6 = mk_) ∧ (∀ b, o = some b → ∃ v, z6 = .long v)) → (Gq scC h h1) → ((o, m) = mxF (fun _ => true) (fGrd g l jx) n) → Go (d + 5) true 143 34 [.ref 10, .int (nI jx), .int (oI o), .long (lN m), mk_, .int (nI n), z6, mk_] [] h1 Q := by
          intro k34
          induction k34 with
          | zero => intro z6 n o m h1 hk; exact absurd hk (Nat.not_lt_zero _)
          | succ k34 ih34 =>
            intro z6 n o m h1 hk hn hz g1 hs
            have hm : m ≤ 1000000000000 := by have := mxF_le (p := fun _ => true) (f := fGrd g l jx) (fun k => fGrd_b cs.1 jx k) n; rw [← hs] at this; exact this
            have hob : ∀ b, o = some b → b < n := by intro b e; exact (mxF_b (p := fun _ => true) (f := fGrd g l jx) n b (by rw [← hs]; exact e)).1
            have cs1 := cs_gq cs g1; have cl1 := cl_gq cl g1; have wf1 := g1.2.2.2.1 wf
            rcases o with _ | b
            · skip
              have hz := hz.1 rfl; subst hz
              show Go (d + 5) true 143 34 [.ref 10, .int (nI jx), .int (-1), .long (lN m), mk_, .int (nI n), mk_, mk_] [] h1 Q
              refine exf_go 4 (show Go (d + 5) true 143 43 [.ref 10, .int (nI jx), .int (-1), .long (lN m), mk_, .int (nI n), mk_, mk_] [.int (rI h1 31 13), .int (nI n)] h1 Q from ?_)
              rw [show (rI h1 31 13 : Int32) = nI (sM g) from cs_M cs1]
              refine exf_go 1 (show ((nI (sM g)) ≤ (nI n) → Go (d + 5) true 143 86 [.ref 10, .int (nI jx), .int (-1), .long (lN m), mk_, .int (nI n), mk_, mk_] [] h1 Q) ∧ (¬ ((nI (sM g)) ≤ (nI n)) → Go (d + 5) true 143 46 [.ref 10, .int (nI jx), .int (-1), .long (lN m), mk_, .int (nI n), mk_, mk_] [] h1 Q) from ⟨fun c4 => ?_, fun c4 => ?_⟩)
              · skip
                have c4 : (sM g) ≤ n := (nI_leI (a := (sM g)) (b := n) (by omega) (by omega)).mp c4
                refine exf_go 2 (show Q (.int (-1)) h1 from ?_)
                simp only [fDanger, ex] at k
                have e : n = sM g := by omega
                subst e
                rw [if_neg (show ¬ cntL g l = 0 from c3), ← hs] at k
                exact k _ g1
              · skip
                have c4 : ¬ (sM g) ≤ n := fun q => c4 ((nI_leI (a := (sM g)) (b := n) (by omega) (by omega)).mpr q)
                refine exf_go 4 (show wpC (d + 5) true 168 [.ref 10, .int (nI n), .int 256] h1 (fun _ h' => Go (d + 5) true 143 55 [.ref 10, .int (nI jx), .int (-1), .long (lN m), mk_, .int (nI n), mk_, mk_] [] h' Q) from ?_)
                refine c_rankMate256 (m := n) wf1 cs1 cl1 (by omega) (fun h2 r2 rk2 => ?_)
                have p2 := r2.mono scK_C
                have g2 : Gq scC h h2 := g1.tr p2
                have cs2 := cs_gq cs g2; have cl2 := cl_gq cl g2; have wf2 := g2.2.2.2.1 wf
                have hcc := cntN_le (elg g l (sK g n) false) (tot g)
                show Go (d + 5) true 143 55 [.ref 10, .int (nI jx), .int (-1), .long (lN m), mk_, .int (nI n), mk_, mk_] [] h2 Q
                refine exf_go 3 (show wpC (d + 5) true 169 [.ref 10, .int (nI jx)] h2 (fun r h' => Go (d + 5) true 143 60 [.ref 10, .int (nI jx), .int (-1), .long (lN m), mk_, .int (nI n), mk_, mk_] [r] h' Q) from ?_)
                refine c_lwFirst cs2 cl2 rk2 (n := jx) (by omega) ?_
                have hfl : fstE (elg g l (sK g n) false) g l (sK g n) (min jx (cntN (elg g l (sK g n) false) (tot g))) ≤ 1000000000000 := fstE_b cs.1 (by omega)
                show Go (d + 5) true 143 60 [.ref 10, .int (nI jx), .int (-1), .long (lN m), mk_, .int (nI n), mk_, mk_] [.long (lN (fstE (elg g l (sK g n) false) g l (sK g n) (min jx (cntN (elg g l (sK g n) false) (tot g)))))] h2 Q
                refine exf_go 4 (show (((-1) : Int32) = (-1) → Go (d + 5) true 143 74 [.ref 10, .int (nI jx), .int (-1), .long (lN m), mk_, .int (nI n), .long (lN (fstE (elg g l (sK g n) false) g l (sK g n) (min jx (cntN (elg g l (sK g n) false) (tot g))))), mk_] [] h2 Q) ∧ (¬ (((-1) : Int32) = (-1)) → Go (d + 5) true 143 67 [.ref 10, .int (nI jx), .int (-1), .long (lN m), mk_, .int (nI n), .long (lN (fstE (elg g l (sK g n) false) g l (sK g n) (min jx (cntN (elg g l (sK g n) false) (tot g))))), mk_] [] h2 Q) from ⟨fun c5 => ?_, fun c5 => ?_⟩)
                · skip
                  refine exf_go 5 (show Go (d + 5) true 143 83 [.ref 10, .int (nI jx), .int (nI n), .long (lN (fstE (elg g l (sK g n) false) g l (sK g n) (min jx (cntN (elg g l (sK g n) false) (tot g))))), mk_, .int ((nI n) + 1), .long (lN (fstE (elg g l (sK g n) false) g l (sK g n) (min jx (cntN (elg g l (sK g n) false) (tot g))))), mk_] [] h2 Q from ?_)
                  rw [show ((nI n) + 1 : Int32) = nI (n + 1) from nI_add n 1]
                  refine exf_go 1 (show Go (d + 5) true 143 34 [.ref 10, .int (nI jx), .int (nI n), .long (lN (fstE (elg g l (sK g n) false) g l (sK g n) (min jx (cntN (elg g l (sK g n) false) (tot g))))), mk_, .int (nI (n + 1)), .long (lN (fstE (elg g l (sK g n) false) g l (sK g n) (min jx (cntN (elg g l (sK g n) false) (tot g))))), mk_] [] h2 Q from ?_)
                  exact ih34 (.long (lN (fstE (elg g l (sK g n) false) g l (sK g n) (min jx (cntN (elg g l (sK g n) false) (tot g)))))) (n + 1) (some n) (fstE (elg g l (sK g n) false) g l (sK g n) (min jx (cntN (elg g l (sK g n) false) (tot g)))) h2 (by omega) (by omega) ⟨fun q => absurd q (by simp), fun _ _ => ⟨_, rfl⟩⟩ g2 (by first | exact mx_first hs rfl | exact mx_more hs rfl (by first | assumption | (unfold fGrd; omega)) | exact mx_less hs rfl (by first | assumption | (unfold fGrd; omega)))
                · skip
                  exact absurd (by decide) c5
            · skip
              have := hob b rfl; obtain ⟨zv, hz⟩ := hz.2 b rfl; subst hz
              show Go (d + 5) true 143 34 [.ref 10, .int (nI jx), .int (nI b), .long (lN m), mk_, .int (nI n), .long zv, mk_] [] h1 Q
              refine exf_go 4 (show Go (d + 5) true 143 43 [.ref 10, .int (nI jx), .int (nI b), .long (lN m), mk_, .int (nI n), .long zv, mk_] [.int (rI h1 31 13), .int (nI n)] h1 Q from ?_)
              rw [show (rI h1 31 13 : Int32) = nI (sM g) from cs_M cs1]
              refine exf_go 1 (show ((nI (sM g)) ≤ (nI n) → Go (d + 5) true 143 86 [.ref 10, .int (nI jx), .int (nI b), .long (lN m), mk_, .int (nI n), .long zv, mk_] [] h1 Q) ∧ (¬ ((nI (sM g)) ≤ (nI n)) → Go (d + 5) true 143 46 [.ref 10, .int (nI jx), .int (nI b), .long (lN m), mk_, .int (nI n), .long zv, mk_] [] h1 Q) from ⟨fun c6 => ?_, fun c6 => ?_⟩)
              · skip
                have c6 : (sM g) ≤ n := (nI_leI (a := (sM g)) (b := n) (by omega) (by omega)).mp c6
                refine exf_go 2 (show Q (.int (nI b)) h1 from ?_)
                simp only [fDanger, ex] at k
                have e : n = sM g := by omega
                subst e
                rw [if_neg (show ¬ cntL g l = 0 from c3), ← hs] at k
                exact k _ g1
              · skip
                have c6 : ¬ (sM g) ≤ n := fun q => c6 ((nI_leI (a := (sM g)) (b := n) (by omega) (by omega)).mpr q)
                refine exf_go 4 (show wpC (d + 5) true 168 [.ref 10, .int (nI n), .int 256] h1 (fun _ h' => Go (d + 5) true 143 55 [.ref 10, .int (nI jx), .int (nI b), .long (lN m), mk_, .int (nI n), .long zv, mk_] [] h' Q) from ?_)
                refine c_rankMate256 (m := n) wf1 cs1 cl1 (by omega) (fun h3 r3 rk3 => ?_)
                have p3 := r3.mono scK_C
                have g3 : Gq scC h h3 := g1.tr p3
                have cs3 := cs_gq cs g3; have cl3 := cl_gq cl g3; have wf3 := g3.2.2.2.1 wf
                have hcc := cntN_le (elg g l (sK g n) false) (tot g)
                show Go (d + 5) true 143 55 [.ref 10, .int (nI jx), .int (nI b), .long (lN m), mk_, .int (nI n), .long zv, mk_] [] h3 Q
                refine exf_go 3 (show wpC (d + 5) true 169 [.ref 10, .int (nI jx)] h3 (fun r h' => Go (d + 5) true 143 60 [.ref 10, .int (nI jx), .int (nI b), .long (lN m), mk_, .int (nI n), .long zv, mk_] [r] h' Q) from ?_)
                refine c_lwFirst cs3 cl3 rk3 (n := jx) (by omega) ?_
                have hfl : fstE (elg g l (sK g n) false) g l (sK g n) (min jx (cntN (elg g l (sK g n) false) (tot g))) ≤ 1000000000000 := fstE_b cs.1 (by omega)
                show Go (d + 5) true 143 60 [.ref 10, .int (nI jx), .int (nI b), .long (lN m), mk_, .int (nI n), .long zv, mk_] [.long (lN (fstE (elg g l (sK g n) false) g l (sK g n) (min jx (cntN (elg g l (sK g n) false) (tot g)))))] h3 Q
                refine exf_go 4 (show ((nI b) = (-1) → Go (d + 5) true 143 74 [.ref 10, .int (nI jx), .int (nI b), .long (lN m), mk_, .int (nI n), .long (lN (fstE (elg g l (sK g n) false) g l (sK g n) (min jx (cntN (elg g l (sK g n) false) (tot g))))), mk_] [] h3 Q) ∧ (¬ ((nI b) = (-1)) → Go (d + 5) true 143 67 [.ref 10, .int (nI jx), .int (nI b), .long (lN m), mk_, .int (nI n), .long (lN (fstE (elg g l (sK g n) false) g l (sK g n) (min jx (cntN (elg g l (sK g n) false) (tot g))))), mk_] [] h3 Q) from ⟨fun c7 => ?_, fun c7 => ?_⟩)
                · skip
                  exact absurd c7 (ng_eq (by omega) (by decide))
                · skip
                  refine exf_go 4 (show ((lg_cmp (lN (fstE (elg g l (sK g n) false) g l (sK g n) (min jx (cntN (elg g l (sK g n) false) (tot g))))) (lN m)) ≤ 0 → Go (d + 5) true 143 80 [.ref 10, .int (nI jx), .int (nI b), .long (lN m), mk_, .int (nI n), .long (lN (fstE (elg g l (sK g n) false) g l (sK g n) (min jx (cntN (elg g l (sK g n) false) (tot g))))), mk_] [] h3 Q) ∧ (¬ ((lg_cmp (lN (fstE (elg g l (sK g n) false) g l (sK g n) (min jx (cntN (elg g l (sK g n) false) (tot g))))) (lN m)) ≤ 0) → Go (d + 5) true 143 74 [.ref 10, .int (nI jx), .int (nI b), .long (lN m), mk_, .int (nI n), .long (lN (fstE (elg g l (sK g n) false) g l (sK g n) (min jx (cntN (elg g l (sK g n) false) (tot g))))), mk_] [] h3 Q) from ⟨fun c8 => ?_, fun c8 => ?_⟩)
                  · skip
                    have c8 : (lN (fstE (elg g l (sK g n) false) g l (sK g n) (min jx (cntN (elg g l (sK g n) false) (tot g))))) ≤ (lN m) := (lg_cmp_le _ _).mp c8
                    have c8 : (fstE (elg g l (sK g n) false) g l (sK g n) (min jx (cntN (elg g l (sK g n) false) (tot g)))) ≤ m := (pk_lLE (a := (fstE (elg g l (sK g n) false) g l (sK g n) (min jx (cntN (elg g l (sK g n) false) (tot g))))) (b := m) (by omega) (by omega)).mp c8
                    refine exf_go 1 (show Go (d + 5) true 143 83 [.ref 10, .int (nI jx), .int (nI b), .long (lN m), mk_, .int ((nI n) + 1), .long (lN (fstE (elg g l (sK g n) false) g l (sK g n) (min jx (cntN (elg g l (sK g n) false) (tot g))))), mk_] [] h3 Q from ?_)
                    rw [show ((nI n) + 1 : Int32) = nI (n + 1) from nI_add n 1]
                    refine exf_go 1 (show Go (d + 5) true 143 34 [.ref 10, .int (nI jx), .int (nI b), .long (lN m), mk_, .int (nI (n + 1)), .long (lN (fstE (elg g l (sK g n) false) g l (sK g n) (min jx (cntN (elg g l (sK g n) false) (tot g))))), mk_] [] h3 Q from ?_)
                    exact ih34 (.long (lN (fstE (elg g l (sK g n) false) g l (sK g n) (min jx (cntN (elg g l (sK g n) false) (tot g)))))) (n + 1) (some b) m h3 (by omega) (by omega) ⟨fun q => absurd q (by simp), fun _ _ => ⟨_, rfl⟩⟩ g3 (by first | exact mx_first hs rfl | exact mx_more hs rfl (by first | assumption | (unfold fGrd; omega)) | exact mx_less hs rfl (by first | assumption | (unfold fGrd; omega)))
                  · skip
                    have c8 : ¬ ((lN (fstE (elg g l (sK g n) false) g l (sK g n) (min jx (cntN (elg g l (sK g n) false) (tot g))))) ≤ (lN m)) := fun q => c8 ((lg_cmp_le _ _).mpr q)
                    have c8 : ¬ ((fstE (elg g l (sK g n) false) g l (sK g n) (min jx (cntN (elg g l (sK g n) false) (tot g)))) ≤ m) := fun q => c8 ((pk_lLE (a := (fstE (elg g l (sK g n) false) g l (sK g n) (min jx (cntN (elg g l (sK g n) false) (tot g))))) (b := m) (by omega) (by omega)).mpr q)
                    refine exf_go 5 (show Go (d + 5) true 143 83 [.ref 10, .int (nI jx), .int (nI n), .long (lN (fstE (elg g l (sK g n) false) g l (sK g n) (min jx (cntN (elg g l (sK g n) false) (tot g))))), mk_, .int ((nI n) + 1), .long (lN (fstE (elg g l (sK g n) false) g l (sK g n) (min jx (cntN (elg g l (sK g n) false) (tot g))))), mk_] [] h3 Q from ?_)
                    rw [show ((nI n) + 1 : Int32) = nI (n + 1) from nI_add n 1]
                    refine exf_go 1 (show Go (d + 5) true 143 34 [.ref 10, .int (nI jx), .int (nI n), .long (lN (fstE (elg g l (sK g n) false) g l (sK g n) (min jx (cntN (elg g l (sK g n) false) (tot g))))), mk_, .int (nI (n + 1)), .long (lN (fstE (elg g l (sK g n) false) g l (sK g n) (min jx (cntN (elg g l (sK g n) false) (tot g))))), mk_] [] h3 Q from ?_)
                    exact ih34 (.long (lN (fstE (elg g l (sK g n) false) g l (sK g n) (min jx (cntN (elg g l (sK g n) false) (tot g)))))) (n + 1) (some n) (fstE (elg g l (sK g n) false) g l (sK g n) (min jx (cntN (elg g l (sK g n) false) (tot g)))) h3 (by omega) (by omega) ⟨fun q => absurd q (by simp), fun _ _ => ⟨_, rfl⟩⟩ g3 (by first | exact mx_first hs rfl | exact mx_more hs rfl (by first | assumption | (unfold fGrd; omega)) | exact mx_less hs rfl (by first | assumption | (unfold fGrd; omega)))
        exact L34 (sM g + 1) mk_ 0 none 0 h (by omega) (by omega) ⟨fun _ => rfl, fun b q => absurd q (by simp)⟩ Gq.rfl' rfl
      · skip
        have c3 : (cntN (lft g l) (tot g)) = 0 := (nI_eq (a := (cntN (lft g l) (tot g))) (b := 0) (by omega) (by omega)).mp (Classical.not_not.mp c3)
        refine exf_go 2 (show Q (.int (-5)) h from ?_)
        simp only [fDanger, ex] at k
        rw [if_pos (show cntL g l = 0 from c3)] at k
        exact k _ Gq.rfl'
    · skip
      have ex : ixN x 10001 = none := ix_gt (n := 10000) (by omega) c2
      refine exf_go 2 (show Q (.int (-3)) h from ?_)
      simp only [fDanger, ex] at k
      exact k _ Gq.rfl'
theorem elg_1 {g : ShG} {l : LkG} {kn n : Nat} (h : lT l n = 0) (h2 : 0 < wtK g kn (sH g n)) : elg g l kn false n = true := by unfold elg; rw [decide_eq_true h2, decide_eq_true h]; rfl
theorem elg_t {g : ShG} {l : LkG} {kn n : Nat} (h : ¬ lT l n = 0) : elg g l kn false n = false := by unfold elg; rw [decide_eq_false h, Bool.false_and, Bool.and_false]
theorem elg_w {g : ShG} {l : LkG} {kn n : Nat} (h : ¬ 0 < wtK g kn (sH g n)) : elg g l kn false n = false := by unfold elg; rw [decide_eq_false h]; rfl
theorem tri_0 {g : ShG} {l : LkG} (hg : ShW g) (hl : LkW g l) {n : Nat} : cel g l n &&& 256 = 0 ↔ lT l n = 0 := by
  have h2 := and_tri _ (cel_b hg hl n)
  rwa [cel_tri hg hl n] at h2
theorem c_both {d : Nat} {h : Hp} {g : ShG} {l : LkG} {x y : Int32} {Q : Po} (wf : WF h) (cs : CS 31 g h) (cl : CL 39 g l h) (k : ∀ h1, Gq scC h h1 → Q (.int (fBoth g l x y)) h1) : wpC (d + 4) true 144 [.ref 10, .int x, .int y] h Q := by
  have hN := tot_b cs.1
  have he := evr_b cs.1
  have h8 := cs.1.2.2.2.1
  have h4 := cs.1.2.2.2.2.2.1
  have hkb := cs.1.2.2.2.2.2.2.1
  refine go_in rfl ?_
  refine exf_go 3 (show wpC (d + 3) true 158 [.ref 10, .int x] h (fun r h' => Go (d + 3) true 144 5 [.ref 10, .int x, .int y, mk_, mk_] [r] h' Q) from ?_)
  refine c_isMate cs (fun j1 e1 q1 r1 => ?_) (fun e1 => ?_)
  · skip
    subst q1
    show Go (d + 3) true 144 5 [.ref 10, .int (nI j1), .int y, mk_, mk_] [.int 1] h Q
    refine exf_go 1 (show ((1 : Int32) = 0 → Go (d + 3) true 144 16 [.ref 10, .int (nI j1), .int y, mk_, mk_] [] h Q) ∧ (¬ ((1 : Int32) = 0) → Go (d + 3) true 144 8 [.ref 10, .int (nI j1), .int y, mk_, mk_] [] h Q) from ⟨fun c2 => ?_, fun c2 => ?_⟩)
    · skip
      exact absurd c2 (by decide)
    · skip
      refine exf_go 3 (show wpC (d + 3) true 158 [.ref 10, .int y] h (fun r h' => Go (d + 3) true 144 13 [.ref 10, .int (nI j1), .int y, mk_, mk_] [r] h' Q) from ?_)
      refine c_isMate cs (fun j3 e3 q3 r3 => ?_) (fun e3 => ?_)
      · skip
        subst q3
        show Go (d + 3) true 144 13 [.ref 10, .int (nI j1), .int (nI j3), mk_, mk_] [.int 1] h Q
        refine exf_go 1 (show (¬ (1 : Int32) = 0 → Go (d + 3) true 144 19 [.ref 10, .int (nI j1), .int (nI j3), mk_, mk_] [] h Q) ∧ (¬ (¬ (1 : Int32) = 0) → Go (d + 3) true 144 16 [.ref 10, .int (nI j1), .int (nI j3), mk_, mk_] [] h Q) from ⟨fun c4 => ?_, fun c4 => ?_⟩)
        · skip
          refine exf_go 7 (show vp_in (nI j1) 4 ∧ (Go (d + 3) true 144 32 [.ref 10, .int (nI j1), .int (nI j3), mk_, mk_] [.int (rI h 38 ((nI j1).toNatClampNeg)), .ref 31] h Q) from ⟨(vp_in_nI (by omega) (by omega)), ?_⟩)
          rw [show (rI h 38 ((nI j1).toNatClampNeg) : Int32) = nI (sK g j1) from cs_K cs (n := j1) (by omega)]
          refine exf_go 5 (show vp_in (nI j3) 4 ∧ (Go (d + 3) true 144 41 [.ref 10, .int (nI j1), .int (nI j3), mk_, mk_] [.int (rI h 38 ((nI j3).toNatClampNeg)), .int (nI (sK g j1)), .ref 31] h Q) from ⟨(vp_in_nI (by omega) (by omega)), ?_⟩)
          rw [show (rI h 38 ((nI j3).toNatClampNeg) : Int32) = nI (sK g j3) from cs_K cs (n := j3) (by omega)]
          refine exf_go 1 (show Go (d + 3) true 144 42 [.ref 10, .int (nI j1), .int (nI j3), mk_, mk_] [.int ((nI (sK g j1)) ||| (nI (sK g j3))), .ref 31] h Q from ?_)
          rw [show ((nI (sK g j1)) ||| (nI (sK g j3)) : Int32) = nI ((sK g j1) ||| (sK g j3)) from nI_or (sK g j1) (sK g j3)]
          refine exf_go 3 (show wpC (d + 3) true 80 [.ref 31, .int (nI ((sK g j1) ||| (sK g j3))), .ref 77] h (fun _ h' => Go (d + 3) true 144 49 [.ref 10, .int (nI j1), .int (nI j3), mk_, mk_] [] h' Q) from ?_)
          have hor : sK g j1 ||| sK g j3 < 2 ^ sC g := Nat.or_lt_two_pow (cs.1.2.2.2.2.2.2.1 j1) (cs.1.2.2.2.2.2.2.1 j3)
          refine c_fillW cs (kn := sK g j1 ||| sK g j3) (by omega) (fun h1 q1 hw1 => ?_)
          have g1 : Gq scC h h1 := (q1.mono (sAt_C (fun _ => rfl))).gq
          have cs1 := cs_gq cs g1; have cl1 := cl_gq cl g1
          show Go (d + 3) true 144 49 [.ref 10, .int (nI j1), .int (nI j3), mk_, mk_] [] h1 Q
          refine exf_go 4 (show Go (d + 3) true 144 54 [.ref 10, .int (nI j1), .int (nI j3), .int 0, .int 0] [] h1 Q from ?_)
          have L54 : ∀ (k54 : Nat) (n s : Nat), (tot g - n) < k54 → (n ≤ tot g) → (s = cntN (elg g l (sK g j1 ||| sK g j3) false) n) → Go (d + 3) true 144 54 [.ref 10, .int (nI j1), .int (nI j3), .int (nI s), .int (nI n)] [] h1 Q := by
            intro k54
            induction k54 with
            | zero => intro n s hk; exact absurd hk (Nat.not_lt_zero _)
            | succ k54 ih54 =>
              intro n s hk hn hs
              refine exf_go 4 (show Go (d + 3) true 144 63 [.ref 10, .int (nI j1), .int (nI j3), .int (nI s), .int (nI n)] [.int (rI h1 31 5), .int (nI n)] h1 Q from ?_)
              rw [show (rI h1 31 5 : Int32) = nI (tot g) from cs_N cs1]
              refine exf_go 1 (show ((nI (tot g)) ≤ (nI n) → Go (d + 3) true 144 107 [.ref 10, .int (nI j1), .int (nI j3), .int (nI s), .int (nI n)] [] h1 Q) ∧ (¬ ((nI (tot g)) ≤ (nI n)) → Go (d + 3) true 144 66 [.ref 10, .int (nI j1), .int (nI j3), .int (nI s), .int (nI n)] [] h1 Q) from ⟨fun c5 => ?_, fun c5 => ?_⟩)
              · skip
                have c5 : (tot g) ≤ n := (nI_leI (a := (tot g)) (b := n) (by omega) (by omega)).mp c5
                refine exf_go 2 (show Q (.int (nI s)) h1 from ?_)
                simp only [fBoth, e1, e3] at k; rw [← show n = tot g from by omega, ← hs] at k
                exact k _ g1
              · skip
                have c5 : ¬ (tot g) ≤ n := fun q => c5 ((nI_leI (a := (tot g)) (b := n) (by omega) (by omega)).mpr q)
                refine exf_go 5 (show wpC (d + 3) true 30 [.ref 39, .int (nI n), .int 256] h1 (fun r h' => Go (d + 3) true 144 78 [.ref 10, .int (nI j1), .int (nI j3), .int (nI s), .int (nI n)] [r] h' Q) from ?_)
                refine c_hasMark cs1 cl1 (by omega) (fun b6 => ?_) (fun b6 => ?_)
                · skip
                  have hx := elg_t (g := g) (kn := sK g j1 ||| sK g j3) (fun q => b6 ((tri_0 cs.1 cl.1).mpr q))
                  show Go (d + 3) true 144 78 [.ref 10, .int (nI j1), .int (nI j3), .int (nI s), .int (nI n)] [.int 1] h1 Q
                  refine exf_go 1 (show (¬ (1 : Int32) = 0 → Go (d + 3) true 144 101 [.ref 10, .int (nI j1), .int (nI j3), .int (nI s), .int (nI n)] [] h1 Q) ∧ (¬ (¬ (1 : Int32) = 0) → Go (d + 3) true 144 81 [.ref 10, .int (nI j1), .int (nI j3), .int (nI s), .int (nI n)] [] h1 Q) from ⟨fun c7 => ?_, fun c7 => ?_⟩)
                  · skip
                    refine exf_go 1 (show Go (d + 3) true 144 104 [.ref 10, .int (nI j1), .int (nI j3), .int (nI s), .int ((nI n) + 1)] [] h1 Q from ?_)
                    rw [show ((nI n) + 1 : Int32) = nI (n + 1) from nI_add n 1]
                    refine exf_go 1 (show Go (d + 3) true 144 54 [.ref 10, .int (nI j1), .int (nI j3), .int (nI s), .int (nI (n + 1))] [] h1 Q from ?_)
                    exact ih54 (n + 1) s (by omega) (by omega) (cn_n hs hx)
                  · skip
                    exact absurd (by decide) c7
                · skip
                  have hx0 := (tri_0 cs.1 cl.1).mp b6
                  show Go (d + 3) true 144 78 [.ref 10, .int (nI j1), .int (nI j3), .int (nI s), .int (nI n)] [.int 0] h1 Q
                  refine exf_go 1 (show (¬ (0 : Int32) = 0 → Go (d + 3) true 144 101 [.ref 10, .int (nI j1), .int (nI j3), .int (nI s), .int (nI n)] [] h1 Q) ∧ (¬ (¬ (0 : Int32) = 0) → Go (d + 3) true 144 81 [.ref 10, .int (nI j1), .int (nI j3), .int (nI s), .int (nI n)] [] h1 Q) from ⟨fun c8 => ?_, fun c8 => ?_⟩)
                  · skip
                    exact absurd c8 (by decide)
                  · skip
                    refine exf_go 6 (show wpC (d + 3) true 29 [.ref 39, .int (nI n)] h1 (fun r h' => Go (d + 3) true 144 94 [.ref 10, .int (nI j1), .int (nI j3), .int (nI s), .int (nI n)] [r, .ref 77] h' Q) from ?_)
                    refine c_maskOf cs1 cl1 (by omega) ?_
                    have := sH_b cs.1 n
                    show Go (d + 3) true 144 94 [.ref 10, .int (nI j1), .int (nI j3), .int (nI s), .int (nI n)] [.int (nI (sH g n)), .ref 77] h1 Q
                    refine exf_go 1 (show vp_in (nI (sH g n)) 256 ∧ (Go (d + 3) true 144 95 [.ref 10, .int (nI j1), .int (nI j3), .int (nI s), .int (nI n)] [.int (rI h1 77 ((nI (sH g n)).toNatClampNeg))] h1 Q) from ⟨(vp_in_nI (by omega) (by omega)), ?_⟩)
                    rw [show (rI h1 77 ((nI (sH g n)).toNatClampNeg) : Int32) = nI (wtK g (sK g j1 ||| sK g j3) (sH g n)) from by rw [nI_clamp (by have := sH_b cs.1 n; omega)]; exact hw1 _ (hH cs.1 _)]
                    have hwb := wtK_b cs.1 (sK g j1 ||| sK g j3) (sH g n)
                    refine exf_go 1 (show ((nI (wtK g (sK g j1 ||| sK g j3) (sH g n))) ≤ 0 → Go (d + 3) true 144 101 [.ref 10, .int (nI j1), .int (nI j3), .int (nI s), .int (nI n)] [] h1 Q) ∧ (¬ ((nI (wtK g (sK g j1 ||| sK g j3) (sH g n))) ≤ 0) → Go (d + 3) true 144 98 [.ref 10, .int (nI j1), .int (nI j3), .int (nI s), .int (nI n)] [] h1 Q) from ⟨fun c9 => ?_, fun c9 => ?_⟩)
                    · skip
                      have c9 : (wtK g (sK g j1 ||| sK g j3) (sH g n)) ≤ 0 := (nI_leI (a := (wtK g (sK g j1 ||| sK g j3) (sH g n))) (b := 0) (by omega) (by omega)).mp c9
                      have hx := elg_w (l := l) (g := g) (kn := sK g j1 ||| sK g j3) (n := n) (by omega)
                      refine exf_go 1 (show Go (d + 3) true 144 104 [.ref 10, .int (nI j1), .int (nI j3), .int (nI s), .int ((nI n) + 1)] [] h1 Q from ?_)
                      rw [show ((nI n) + 1 : Int32) = nI (n + 1) from nI_add n 1]
                      refine exf_go 1 (show Go (d + 3) true 144 54 [.ref 10, .int (nI j1), .int (nI j3), .int (nI s), .int (nI (n + 1))] [] h1 Q from ?_)
                      exact ih54 (n + 1) s (by omega) (by omega) (cn_n hs hx)
                    · skip
                      have c9 : ¬ (wtK g (sK g j1 ||| sK g j3) (sH g n)) ≤ 0 := fun q => c9 ((nI_leI (a := (wtK g (sK g j1 ||| sK g j3) (sH g n))) (b := 0) (by omega) (by omega)).mpr q)
                      have hx := elg_1 (g := g) (kn := sK g j1 ||| sK g j3) hx0 (by omega)
                      refine exf_go 1 (show Go (d + 3) true 144 101 [.ref 10, .int (nI j1), .int (nI j3), .int ((nI s) + 1), .int (nI n)] [] h1 Q from ?_)
                      rw [show ((nI s) + 1 : Int32) = nI (s + 1) from nI_add s 1]
                      refine exf_go 1 (show Go (d + 3) true 144 104 [.ref 10, .int (nI j1), .int (nI j3), .int (nI (s + 1)), .int ((nI n) + 1)] [] h1 Q from ?_)
                      rw [show ((nI n) + 1 : Int32) = nI (n + 1) from nI_add n 1]
                      refine exf_go 1 (show Go (d + 3) true 144 54 [.ref 10, .int (nI j1), .int (nI j3), .int (nI (s + 1)), .int (nI (n + 1))] [] h1 Q from ?_)
                      exact ih54 (n + 1) (s + 1) (by omega) (by omega) (cn_y hs hx)
          exact L54 (tot g + 1) 0 0 (by omega) (by omega) rfl
        · skip
          exact absurd (by decide) c4
      · skip
        show Go (d + 3) true 144 13 [.ref 10, .int (nI j1), .int y, mk_, mk_] [.int 0] h Q
        refine exf_go 1 (show (¬ (0 : Int32) = 0 → Go (d + 3) true 144 19 [.ref 10, .int (nI j1), .int y, mk_, mk_] [] h Q) ∧ (¬ (¬ (0 : Int32) = 0) → Go (d + 3) true 144 16 [.ref 10, .int (nI j1), .int y, mk_, mk_] [] h Q) from ⟨fun c10 => ?_, fun c10 => ?_⟩)
        · skip
          exact absurd c10 (by decide)
        · skip
          refine exf_go 2 (show Q (.int (-2)) h from ?_)
          simp only [fBoth, *] at k
          exact k _ Gq.rfl'
  · skip
    show Go (d + 3) true 144 5 [.ref 10, .int x, .int y, mk_, mk_] [.int 0] h Q
    refine exf_go 1 (show ((0 : Int32) = 0 → Go (d + 3) true 144 16 [.ref 10, .int x, .int y, mk_, mk_] [] h Q) ∧ (¬ ((0 : Int32) = 0) → Go (d + 3) true 144 8 [.ref 10, .int x, .int y, mk_, mk_] [] h Q) from ⟨fun c11 => ?_, fun c11 => ?_⟩)
    · skip
      refine exf_go 2 (show Q (.int (-2)) h from ?_)
      simp only [fBoth, *] at k
      exact k _ Gq.rfl'
    · skip
      exact absurd (by decide) c11
/-- how soon mates come to a number, of the first m of them -/
def sooE (E : Nat → Bool) (g : ShG) (kn n : Nat) : Nat := if E n = true then pos E (key g kn) (tot g) n else 10000
def soo (g : ShG) (l : LkG) : Nat → Nat → Nat
  | 0, _ => 10000
  | m + 1, n => min (soo g l m n) (sooE (elg g l (sK g m) false) g (sK g m) n)
def sooK (E : Nat → Bool) (g : ShG) (kn : Nat) (f : Nat → Nat) (k n : Nat) : Nat := if E n = true ∧ pos E (key g kn) (tot g) n < k then min (f n) (pos E (key g kn) (tot g) n) else f n
theorem soo_le (g : ShG) (l : LkG) : ∀ m n, soo g l m n ≤ 10000
  | 0, _ => Nat.le_refl _
  | m + 1, n => Nat.le_trans (Nat.min_le_left _ _) (soo_le g l m n)
theorem sooK_0 (E : Nat → Bool) (g : ShG) (kn : Nat) (f : Nat → Nat) (n : Nat) : sooK E g kn f 0 n = f n := if_neg (fun q => absurd q.2 (Nat.not_lt_zero _))
theorem sooK_hit {E : Nat → Bool} {g : ShG} {kn : Nat} {f : Nat → Nat} {k : Nat} (hk : k < cntN E (tot g)) : sooK E g kn f k (ordE E g kn k) = f (ordE E g kn k) ∧ sooK E g kn f (k + 1) (ordE E g kn k) = min (f (ordE E g kn k)) k := by
  have h := ord_in (ordV_ok E (key g kn) (tot g)) hk
  have hp : pos E (key g kn) (tot g) (ordE E g kn k) = k := h.2.2
  unfold sooK
  rw [hp]
  exact ⟨if_neg (fun q => by omega), if_pos ⟨h.2.1, by omega⟩⟩
theorem sooK_miss {E : Nat → Bool} {g : ShG} {kn : Nat} {f : Nat → Nat} {k n : Nat} (hk : k < cntN E (tot g)) (hn : n < tot g) (h : n ≠ ordE E g kn k) : sooK E g kn f (k + 1) n = sooK E g kn f k n := by
  have ho := ord_in (ordV_ok E (key g kn) (tot g)) hk
  unfold sooK
  by_cases hE : E n = true
  · have hne : pos E (key g kn) (tot g) n ≠ k := fun q => h (pos_inj2 (rk := key g kn) hn ho.1 hE ho.2.1 (q.trans ho.2.2.symm))
    by_cases hp : pos E (key g kn) (tot g) n < k
    · rw [if_pos ⟨hE, by omega⟩, if_pos ⟨hE, hp⟩]
    · rw [if_neg (fun q => by omega), if_neg (fun q => by omega)]
  · rw [if_neg (fun q => hE q.1), if_neg (fun q => hE q.1)]
theorem sooK_end {g : ShG} {l : LkG} (m n : Nat) (hn : n < tot g) : sooK (elg g l (sK g m) false) g (sK g m) (soo g l m) (cntN (elg g l (sK g m) false) (tot g)) n = soo g l (m + 1) n := by
  rw [soo, sooE]
  unfold sooK
  by_cases hE : elg g l (sK g m) false n = true
  · rw [if_pos ⟨hE, pos_lt hn hE⟩, if_pos hE]
  · rw [if_neg (fun q => hE q.1), if_neg hE]
    have := soo_le g l m n
    omega
/-- no reference -/
def nzI (z : Value) : Prop := z = mk_ ∨ ∃ v, z = .int v
def fHidden (g : ShG) (l : LkG) : Int32 := if sM g = 0 then -1 else oI (mxF (lft g l) (soo g l (sM g)) (tot g)).1
theorem c_latest {d : Nat} {h : Hp} {g : ShG} {l : LkG} {f : Nat → Nat} {Q : Po} (cs : CS 31 g h) (cl : CL 39 g l h) (hf : ∀ n, n < tot g → rI h 98 n = nI (f n)) (hfl : ∀ n, f n ≤ 10000) (hl1 : tot g ≤ rL h 98) (hl2 : rL h 98 ≤ 50000) (k : Q (.int (oI (mxF (lft g l) f (tot g)).1)) h) : wpC (d + 3) true 178 [.ref 10] h Q := by
  have hN := tot_b cs.1
  have he := evr_b cs.1
  have h8 := cs.1.2.2.2.1
  have h4 := cs.1.2.2.2.2.2.1
  refine go_in rfl ?_
  refine exf_go 4 (show Go (d + 2) true 178 4 [.ref 10, .int (-1), .int 0] [] h Q from ?_)
  have L4 : ∀ (k4 : Nat) (n : Nat) (o : Option Nat) (m : Nat), (tot g - n) < k4 → (n ≤ tot g) → ((o, m) = mxF (lft g l) f n) → Go (d + 2) true 178 4 [.ref 10, .int (oI o), .int (nI n)] [] h Q := by
    intro k4
    induction k4 with
    | zero => intro n o m hk; exact absurd hk (Nat.not_lt_zero _)
    | succ k4 ih4 =>
      intro n o m hk hn hs
      have hob : ∀ b, o = some b → b < n ∧ f b = m := by intro b e; have := mxF_b (p := lft g l) (f := f) n b (by rw [← hs]; exact e); rw [← hs] at this; exact this
      rcases o with _ | b
      · skip
        show Go (d + 2) true 178 4 [.ref 10, .int (-1), .int (nI n)] [] h Q
        refine exf_go 4 (show Go (d + 2) true 178 12 [.ref 10, .int (-1), .int (nI n)] [.int (rI h 31 5), .int (nI n)] h Q from ?_)
        rw [show (rI h 31 5 : Int32) = nI (tot g) from cs_N cs]
        refine exf_go 1 (show ((nI (tot g)) ≤ (nI n) → Go (d + 2) true 178 54 [.ref 10, .int (-1), .int (nI n)] [] h Q) ∧ (¬ ((nI (tot g)) ≤ (nI n)) → Go (d + 2) true 178 15 [.ref 10, .int (-1), .int (nI n)] [] h Q) from ⟨fun c1 => ?_, fun c1 => ?_⟩)
        · skip
          have c1 : (tot g) ≤ n := (nI_leI (a := (tot g)) (b := n) (by omega) (by omega)).mp c1
          refine exf_go 2 (show Q (.int (-1)) h from ?_)
          have e : n = tot g := by omega
          subst e
          rw [← hs] at k; exact k
        · skip
          have c1 : ¬ (tot g) ≤ n := fun q => c1 ((nI_leI (a := (tot g)) (b := n) (by omega) (by omega)).mpr q)
          refine exf_go 4 (show wpC (d + 2) true 31 [.ref 39, .int (nI n)] h (fun r h' => Go (d + 2) true 178 23 [.ref 10, .int (-1), .int (nI n)] [r] h' Q) from ?_)
          refine c_isLeft cs cl (by omega) (fun b2 => ?_) (fun b2 => ?_)
          · skip
            show Go (d + 2) true 178 23 [.ref 10, .int (-1), .int (nI n)] [.int 1] h Q
            refine exf_go 1 (show ((1 : Int32) = 0 → Go (d + 2) true 178 48 [.ref 10, .int (-1), .int (nI n)] [] h Q) ∧ (¬ ((1 : Int32) = 0) → Go (d + 2) true 178 26 [.ref 10, .int (-1), .int (nI n)] [] h Q) from ⟨fun c3 => ?_, fun c3 => ?_⟩)
            · skip
              exact absurd c3 (by decide)
            · skip
              refine exf_go 3 (show (((-1) : Int32) = (-1) → Go (d + 2) true 178 46 [.ref 10, .int (-1), .int (nI n)] [] h Q) ∧ (¬ (((-1) : Int32) = (-1)) → Go (d + 2) true 178 31 [.ref 10, .int (-1), .int (nI n)] [] h Q) from ⟨fun c4 => ?_, fun c4 => ?_⟩)
              · skip
                refine exf_go 3 (show Go (d + 2) true 178 51 [.ref 10, .int (nI n), .int ((nI n) + 1)] [] h Q from ?_)
                rw [show ((nI n) + 1 : Int32) = nI (n + 1) from nI_add n 1]
                refine exf_go 1 (show Go (d + 2) true 178 4 [.ref 10, .int (nI n), .int (nI (n + 1))] [] h Q from ?_)
                exact ih4 (n + 1) (some n) (f n) (by omega) (by omega) (by first | exact mx_no hs (by assumption) | exact mx_first hs (by assumption) | exact mx_more hs (by assumption) (by omega) | exact mx_less hs (by assumption) (by omega))
              · skip
                exact absurd (by decide) c4
          · skip
            show Go (d + 2) true 178 23 [.ref 10, .int (-1), .int (nI n)] [.int 0] h Q
            refine exf_go 1 (show ((0 : Int32) = 0 → Go (d + 2) true 178 48 [.ref 10, .int (-1), .int (nI n)] [] h Q) ∧ (¬ ((0 : Int32) = 0) → Go (d + 2) true 178 26 [.ref 10, .int (-1), .int (nI n)] [] h Q) from ⟨fun c5 => ?_, fun c5 => ?_⟩)
            · skip
              refine exf_go 1 (show Go (d + 2) true 178 51 [.ref 10, .int (-1), .int ((nI n) + 1)] [] h Q from ?_)
              rw [show ((nI n) + 1 : Int32) = nI (n + 1) from nI_add n 1]
              refine exf_go 1 (show Go (d + 2) true 178 4 [.ref 10, .int (-1), .int (nI (n + 1))] [] h Q from ?_)
              exact ih4 (n + 1) none m (by omega) (by omega) (by first | exact mx_no hs (by assumption) | exact mx_first hs (by assumption) | exact mx_more hs (by assumption) (by omega) | exact mx_less hs (by assumption) (by omega))
            · skip
              exact absurd (by decide) c5
      · skip
        have hob2 := hob b rfl
        show Go (d + 2) true 178 4 [.ref 10, .int (nI b), .int (nI n)] [] h Q
        refine exf_go 4 (show Go (d + 2) true 178 12 [.ref 10, .int (nI b), .int (nI n)] [.int (rI h 31 5), .int (nI n)] h Q from ?_)
        rw [show (rI h 31 5 : Int32) = nI (tot g) from cs_N cs]
        refine exf_go 1 (show ((nI (tot g)) ≤ (nI n) → Go (d + 2) true 178 54 [.ref 10, .int (nI b), .int (nI n)] [] h Q) ∧ (¬ ((nI (tot g)) ≤ (nI n)) → Go (d + 2) true 178 15 [.ref 10, .int (nI b), .int (nI n)] [] h Q) from ⟨fun c6 => ?_, fun c6 => ?_⟩)
        · skip
          have c6 : (tot g) ≤ n := (nI_leI (a := (tot g)) (b := n) (by omega) (by omega)).mp c6
          refine exf_go 2 (show Q (.int (nI b)) h from ?_)
          have e : n = tot g := by omega
          subst e
          rw [← hs] at k; exact k
        · skip
          have c6 : ¬ (tot g) ≤ n := fun q => c6 ((nI_leI (a := (tot g)) (b := n) (by omega) (by omega)).mpr q)
          refine exf_go 4 (show wpC (d + 2) true 31 [.ref 39, .int (nI n)] h (fun r h' => Go (d + 2) true 178 23 [.ref 10, .int (nI b), .int (nI n)] [r] h' Q) from ?_)
          refine c_isLeft cs cl (by omega) (fun b7 => ?_) (fun b7 => ?_)
          · skip
            show Go (d + 2) true 178 23 [.ref 10, .int (nI b), .int (nI n)] [.int 1] h Q
            refine exf_go 1 (show ((1 : Int32) = 0 → Go (d + 2) true 178 48 [.ref 10, .int (nI b), .int (nI n)] [] h Q) ∧ (¬ ((1 : Int32) = 0) → Go (d + 2) true 178 26 [.ref 10, .int (nI b), .int (nI n)] [] h Q) from ⟨fun c8 => ?_, fun c8 => ?_⟩)
            · skip
              exact absurd c8 (by decide)
            · skip
              refine exf_go 3 (show ((nI b) = (-1) → Go (d + 2) true 178 46 [.ref 10, .int (nI b), .int (nI n)] [] h Q) ∧ (¬ ((nI b) = (-1)) → Go (d + 2) true 178 31 [.ref 10, .int (nI b), .int (nI n)] [] h Q) from ⟨fun c9 => ?_, fun c9 => ?_⟩)
              · skip
                exact absurd c9 (ng_eq (by omega) (by decide))
              · skip
                refine exf_go 4 (show vp_in (nI n) (al h 98) ∧ (Go (d + 2) true 178 37 [.ref 10, .int (nI b), .int (nI n)] [.int (rI h 98 ((nI n).toNatClampNeg))] h Q) from ⟨(vp_in_nI (by show _ < rL h 98; omega) (by show rL h 98 < _; omega)), ?_⟩)
                rw [show (rI h 98 ((nI n).toNatClampNeg) : Int32) = nI (f n) from by rw [nI_clamp (by omega)]; exact hf _ (by omega)]
                have hfb1 := hfl n
                refine exf_go 4 (show vp_in (nI b) (al h 98) ∧ (Go (d + 2) true 178 43 [.ref 10, .int (nI b), .int (nI n)] [.int (rI h 98 ((nI b).toNatClampNeg)), .int (nI (f n))] h Q) from ⟨(vp_in_nI (by show _ < rL h 98; omega) (by show rL h 98 < _; omega)), ?_⟩)
                rw [show (rI h 98 ((nI b).toNatClampNeg) : Int32) = nI (f b) from by rw [nI_clamp (by omega)]; exact hf _ (by omega)]
                have hfb2 := hfl b
                refine exf_go 1 (show ((nI (f n)) ≤ (nI (f b)) → Go (d + 2) true 178 48 [.ref 10, .int (nI b), .int (nI n)] [] h Q) ∧ (¬ ((nI (f n)) ≤ (nI (f b))) → Go (d + 2) true 178 46 [.ref 10, .int (nI b), .int (nI n)] [] h Q) from ⟨fun c10 => ?_, fun c10 => ?_⟩)
                · skip
                  have c10 : (f n) ≤ (f b) := (nI_leI (a := (f n)) (b := (f b)) (by omega) (by omega)).mp c10
                  refine exf_go 1 (show Go (d + 2) true 178 51 [.ref 10, .int (nI b), .int ((nI n) + 1)] [] h Q from ?_)
                  rw [show ((nI n) + 1 : Int32) = nI (n + 1) from nI_add n 1]
                  refine exf_go 1 (show Go (d + 2) true 178 4 [.ref 10, .int (nI b), .int (nI (n + 1))] [] h Q from ?_)
                  exact ih4 (n + 1) (some b) m (by omega) (by omega) (by first | exact mx_no hs (by assumption) | exact mx_first hs (by assumption) | exact mx_more hs (by assumption) (by omega) | exact mx_less hs (by assumption) (by omega))
                · skip
                  have c10 : ¬ (f n) ≤ (f b) := fun q => c10 ((nI_leI (a := (f n)) (b := (f b)) (by omega) (by omega)).mpr q)
                  refine exf_go 3 (show Go (d + 2) true 178 51 [.ref 10, .int (nI n), .int ((nI n) + 1)] [] h Q from ?_)
                  rw [show ((nI n) + 1 : Int32) = nI (n + 1) from nI_add n 1]
                  refine exf_go 1 (show Go (d + 2) true 178 4 [.ref 10, .int (nI n), .int (nI (n + 1))] [] h Q from ?_)
                  exact ih4 (n + 1) (some n) (f n) (by omega) (by omega) (by first | exact mx_no hs (by assumption) | exact mx_first hs (by assumption) | exact mx_more hs (by assumption) (by omega) | exact mx_less hs (by assumption) (by omega))
          · skip
            show Go (d + 2) true 178 23 [.ref 10, .int (nI b), .int (nI n)] [.int 0] h Q
            refine exf_go 1 (show ((0 : Int32) = 0 → Go (d + 2) true 178 48 [.ref 10, .int (nI b), .int (nI n)] [] h Q) ∧ (¬ ((0 : Int32) = 0) → Go (d + 2) true 178 26 [.ref 10, .int (nI b), .int (nI n)] [] h Q) from ⟨fun c11 => ?_, fun c11 => ?_⟩)
            · skip
              refine exf_go 1 (show Go (d + 2) true 178 51 [.ref 10, .int (nI b), .int ((nI n) + 1)] [] h Q from ?_)
              rw [show ((nI n) + 1 : Int32) = nI (n + 1) from nI_add n 1]
              refine exf_go 1 (show Go (d + 2) true 178 4 [.ref 10, .int (nI b), .int (nI (n + 1))] [] h Q from ?_)
              exact ih4 (n + 1) (some b) m (by omega) (by omega) (by first | exact mx_no hs (by assumption) | exact mx_first hs (by assumption) | exact mx_more hs (by assumption) (by omega) | exact mx_less hs (by assumption) (by omega))
            · skip
              exact absurd (by decide) c11
  exact L4 (tot g + 1) 0 none 0 (by omega) (by omega) rfl
theorem c_hidden {d : Nat} {h : Hp} {g : ShG} {l : LkG} {Q : Po} (wf : WF h) (cs : CS 31 g h) (cl : CL 39 g l h) (k : ∀ h1, Gq scC h h1 → Q (.int (fHidden g l)) h1) : wpC (d + 6) true 145 [.ref 10] h Q := by
  have hN := tot_b cs.1
  have he := evr_b cs.1
  have h8 := cs.1.2.2.2.1
  have h4 := cs.1.2.2.2.2.2.1
  refine go_in rfl ?_
  have X30 : ∀ (h1 : Hp), (Gq scC h h1) → (tot g ≤ rL h1 98) → (¬ sM g = 0) → Go (d + 5) true 145 30 [.ref 10, mk_, mk_, mk_] [] h1 Q := by
    intro h1 g1 hal hM
    have hl5 := (g1.2.2.2.1 wf).2.1 98
    refine exf_go 4 (show wpC (d + 5) true 318 [.ref 98, .int 10000] h1 (fun _ h' => Go (d + 5) true 145 40 [.ref 10, mk_, mk_, mk_] [] h' Q) from ?_)
    refine c_fill98 (by show rL h1 98 < _; omega) (fun h2 q2 hz => ?_)
    have g2 : Gq scC h h2 := g1.tr (q2.mono (sAt_C (fun _ => rfl))).gq
    have hl2 : rL h2 98 = rL h1 98 := q2.L 98
    show Go (d + 5) true 145 40 [.ref 10, mk_, mk_, mk_] [] h2 Q
    refine exf_go 2 (show Go (d + 5) true 145 42 [.ref 10, .int 0, mk_, mk_] [] h2 Q from ?_)
    have L42 : ∀ (k42 : Nat) (z2 z3 : Value) (m : Nat) (h3 : Hp), (sM g - m) < k42 → (m ≤ sM g) → (nzI z2 ∧ nzI z3) → (Gq scC h h3) → (∀ n, n < tot g → rI h3 98 n = nI (soo g l m n)) → (tot g ≤ rL h3 98) → Go (d + 5) true 145 42 [.ref 10, .int (nI m), z2, z3] [] h3 Q := by
      intro k42
      induction k42 with
      | zero => intro z2 z3 m h3 hk; exact absurd hk (Nat.not_lt_zero _)
      | succ k42 ih42 =>
        intro z2 z3 m h3 hk hm hz g3 hf3 hl3
        have cs3 := cs_gq cs g3; have cl3 := cl_gq cl g3; have wf3 := g3.2.2.2.1 wf; have hl35 := wf3.2.1 98
        rcases hz with ⟨rfl | ⟨y2, rfl⟩, rfl | ⟨y3, rfl⟩⟩
        · skip
          show Go (d + 5) true 145 42 [.ref 10, .int (nI m), mk_, mk_] [] h3 Q
          refine exf_go 4 (show Go (d + 5) true 145 50 [.ref 10, .int (nI m), mk_, mk_] [.int (rI h3 31 13), .int (nI m)] h3 Q from ?_)
          rw [show (rI h3 31 13 : Int32) = nI (sM g) from cs_M cs3]
          refine exf_go 1 (show ((nI (sM g)) ≤ (nI m) → Go (d + 5) true 145 111 [.ref 10, .int (nI m), mk_, mk_] [] h3 Q) ∧ (¬ ((nI (sM g)) ≤ (nI m)) → Go (d + 5) true 145 53 [.ref 10, .int (nI m), mk_, mk_] [] h3 Q) from ⟨fun c1 => ?_, fun c1 => ?_⟩)
          · skip
            have c1 : (sM g) ≤ m := (nI_leI (a := (sM g)) (b := m) (by omega) (by omega)).mp c1
            refine exf_go 2 (show wpC (d + 5) true 178 [.ref 10] h3 (fun r h' => Go (d + 5) true 145 115 [.ref 10, .int (nI m), mk_, mk_] [r] h' Q) from ?_)
            refine c_latest cs3 cl3 hf3 (fun n => soo_le g l m n) (by omega) (by omega) ?_
            show Go (d + 5) true 145 115 [.ref 10, .int (nI m), mk_, mk_] [.int (oI (mxF (lft g l) (soo g l m) (tot g)).1)] h3 Q
            refine exf_go 1 (show Q (.int (oI (mxF (lft g l) (soo g l m) (tot g)).1)) h3 from ?_)
            rw [fHidden, if_neg hM, ← show m = sM g from by omega] at k
            exact k _ g3
          · skip
            have c1 : ¬ (sM g) ≤ m := fun q => c1 ((nI_leI (a := (sM g)) (b := m) (by omega) (by omega)).mpr q)
            refine exf_go 4 (show wpC (d + 5) true 168 [.ref 10, .int (nI m), .int 256] h3 (fun _ h' => Go (d + 5) true 145 61 [.ref 10, .int (nI m), mk_, mk_] [] h' Q) from ?_)
            refine c_rankMate256 (m := m) wf3 cs3 cl3 (by omega) (fun h4 r4 rk4 => ?_)
            have p4 := r4.mono scK_C
            have g4 : Gq scC h h4 := g3.tr p4
            have cs4 := cs_gq cs g4; have cl4 := cl_gq cl g4; have wf4 := g4.2.2.2.1 wf
            have hcc := cntN_le (elg g l (sK g m) false) (tot g)
            show Go (d + 5) true 145 61 [.ref 10, .int (nI m), mk_, mk_] [] h4 Q
            refine exf_go 2 (show Go (d + 5) true 145 63 [.ref 10, .int (nI m), .int 0, mk_] [] h4 Q from ?_)
            have L63 : ∀ (k63 : Nat) (z3 : Value) (i : Nat) (h5 : Hp), (cntN (elg g l (sK g m) false) (tot g) - i) < k63 → (i ≤ cntN (elg g l (sK g m) false) (tot g)) → (nzI z3) → (Fq (sAt 98) h4 h5) → (∀ n, n < tot g → rI h5 98 n = nI (sooK (elg g l (sK g m) false) g (sK g m) (soo g l m) i n)) → Go (d + 5) true 145 63 [.ref 10, .int (nI m), .int (nI i), z3] [] h5 Q := by
              intro k63
              induction k63 with
              | zero => intro z3 i h5 hk; exact absurd hk (Nat.not_lt_zero _)
              | succ k63 ih63 =>
                intro z3 i h5 hk hi hy q5 hf5
                have g5 : Gq scC h h5 := g4.tr (q5.mono (sAt_C (fun _ => rfl))).gq
                have cs5 := cs_gq cs g5; have rk5 := rkd_gq rk4 q5 rfl (fun _ => rfl)
                have hl4 : rL h4 98 = rL h3 98 := r4.2.2.1 98 rfl
                have hl5 : tot g ≤ rL h5 98 := by rw [show rL h5 98 = rL h4 98 from q5.L 98]; omega
                have hl55 := (g5.2.2.2.1 wf).2.1 98
                have hal5 : al h5 98 = rL h5 98 := rfl
                refine exf_go 4 (show Go (d + 5) true 145 71 [.ref 10, .int (nI m), .int (nI i), z3] [.int (rI h5 71 1), .int (nI i)] h5 Q from ?_)
                rw [show (rI h5 71 1 : Int32) = nI (cntN (elg g l (sK g m) false) (tot g)) from rk5.1]
                refine exf_go 1 (show ((nI (cntN (elg g l (sK g m) false) (tot g))) ≤ (nI i) → Go (d + 5) true 145 105 [.ref 10, .int (nI m), .int (nI i), z3] [] h5 Q) ∧ (¬ ((nI (cntN (elg g l (sK g m) false) (tot g))) ≤ (nI i)) → Go (d + 5) true 145 74 [.ref 10, .int (nI m), .int (nI i), z3] [] h5 Q) from ⟨fun c2 => ?_, fun c2 => ?_⟩)
                · skip
                  have c2 : (cntN (elg g l (sK g m) false) (tot g)) ≤ i := (nI_leI (a := (cntN (elg g l (sK g m) false) (tot g))) (b := i) (by omega) (by omega)).mp c2
                  refine exf_go 1 (show Go (d + 5) true 145 108 [.ref 10, .int ((nI m) + 1), .int (nI i), z3] [] h5 Q from ?_)
                  rw [show ((nI m) + 1 : Int32) = nI (m + 1) from nI_add m 1]
                  refine exf_go 1 (show Go (d + 5) true 145 42 [.ref 10, .int (nI (m + 1)), .int (nI i), z3] [] h5 Q from ?_)
                  exact ih42 (.int (nI i)) z3 (m + 1) h5 (by omega) (by omega) ⟨Or.inr ⟨_, rfl⟩, hy⟩ g5 (fun n hn => by rw [hf5 n hn, show i = cntN (elg g l (sK g m) false) (tot g) from by omega, sooK_end m n hn]) hl5
                · skip
                  have c2 : ¬ (cntN (elg g l (sK g m) false) (tot g)) ≤ i := fun q => c2 ((nI_leI (a := (cntN (elg g l (sK g m) false) (tot g))) (b := i) (by omega) (by omega)).mpr q)
                  refine exf_go 4 (show wpC (d + 5) true 49 [.ref 71, .int (nI i)] h5 (fun r h' => Go (d + 5) true 145 82 [.ref 10, .int (nI m), .int (nI i), z3] [r] h' Q) from ?_)
                  refine c_atI cs.1 rk5 (j := i) (by omega) ?_
                  have hoi := ordE_in (E := (elg g l (sK g m) false)) (g := g) (kn := (sK g m)) (k := i) (by omega)
                  show Go (d + 5) true 145 82 [.ref 10, .int (nI m), .int (nI i), z3] [.int (nI (ordE (elg g l (sK g m) false) g (sK g m) i))] h5 Q
                  refine exf_go 8 (show vp_in (nI (ordE (elg g l (sK g m) false) g (sK g m) i)) (al h5 98) ∧ (Go (d + 5) true 145 94 [.ref 10, .int (nI m), .int (nI i), .int (nI (ordE (elg g l (sK g m) false) g (sK g m) i))] [.int (rI h5 98 ((nI (ordE (elg g l (sK g m) false) g (sK g m) i)).toNatClampNeg)), .int (nI (ordE (elg g l (sK g m) false) g (sK g m) i)), .ref 98] h5 Q) from ⟨(vp_in_nI (by rw [hal5]; omega) (by rw [hal5]; omega)), ?_⟩)
                  rw [show (rI h5 98 ((nI (ordE (elg g l (sK g m) false) g (sK g m) i)).toNatClampNeg) : Int32) = nI (soo g l m (ordE (elg g l (sK g m) false) g (sK g m) i)) from by rw [nI_clamp (by omega), hf5 _ (by omega), (sooK_hit (by omega)).1]]
                  have hsb := soo_le g l m (ordE (elg g l (sK g m) false) g (sK g m) i)
                  refine exf_go 2 (show wpC (d + 5) true 304 [.int (nI (soo g l m (ordE (elg g l (sK g m) false) g (sK g m) i))), .int (nI i)] h5 (fun r h' => Go (d + 5) true 145 98 [.ref 10, .int (nI m), .int (nI i), .int (nI (ordE (elg g l (sK g m) false) g (sK g m) i))] [r, .int (nI (ordE (elg g l (sK g m) false) g (sK g m) i)), .ref 98] h' Q) from ?_)
                  refine c_min (by omega) (by omega) ?_
                  show Go (d + 5) true 145 98 [.ref 10, .int (nI m), .int (nI i), .int (nI (ordE (elg g l (sK g m) false) g (sK g m) i))] [.int (nI (min (soo g l m (ordE (elg g l (sK g m) false) g (sK g m) i)) i)), .int (nI (ordE (elg g l (sK g m) false) g (sK g m) i)), .ref 98] h5 Q
                  refine exf_go 2 (show vp_in (nI (ordE (elg g l (sK g m) false) g (sK g m) i)) (al h5 98) ∧ (Go (d + 5) true 145 102 [.ref 10, .int (nI m), .int ((nI i) + 1), .int (nI (ordE (elg g l (sK g m) false) g (sK g m) i))] [] (uI h5 98 ((nI (ordE (elg g l (sK g m) false) g (sK g m) i)).toNatClampNeg) (nI (min (soo g l m (ordE (elg g l (sK g m) false) g (sK g m) i)) i))) Q) from ⟨(vp_in_nI (by rw [hal5]; omega) (by rw [hal5]; omega)), ?_⟩)
                  rw [show ((nI i) + 1 : Int32) = nI (i + 1) from nI_add i 1]
                  refine exf_go 1 (show Go (d + 5) true 145 63 [.ref 10, .int (nI m), .int (nI (i + 1)), .int (nI (ordE (elg g l (sK g m) false) g (sK g m) i))] [] (uI h5 98 ((nI (ordE (elg g l (sK g m) false) g (sK g m) i)).toNatClampNeg) (nI (min (soo g l m (ordE (elg g l (sK g m) false) g (sK g m) i)) i))) Q from ?_)
                  exact ih63 (.int (nI (ordE (elg g l (sK g m) false) g (sK g m) i))) (i + 1) _ (by omega) (by omega) (Or.inr ⟨_, rfl⟩) (q5.uI' _ _ _ rfl) (fun n hn => by rw [nI_clamp (by omega)]; exact (Decidable.em (n = ordE (elg g l (sK g m) false) g (sK g m) i)).elim (fun e => by rw [e, rI_uI_eq, (sooK_hit (by omega)).2]) (fun e => by rw [rI_uI_at e, sooK_miss (by omega) hn e]; exact hf5 n hn))
            exact L63 (cntN (elg g l (sK g m) false) (tot g) + 1) mk_ 0 h4 (by omega) (by omega) (by first | exact Or.inl rfl | exact Or.inr ⟨_, rfl⟩) Fq.rfl' (fun n hn => by rw [sooK_0, r4.I (a := 98) (fun _ => rfl)]; exact hf3 n hn)
        · skip
          show Go (d + 5) true 145 42 [.ref 10, .int (nI m), mk_, .int y3] [] h3 Q
          refine exf_go 4 (show Go (d + 5) true 145 50 [.ref 10, .int (nI m), mk_, .int y3] [.int (rI h3 31 13), .int (nI m)] h3 Q from ?_)
          rw [show (rI h3 31 13 : Int32) = nI (sM g) from cs_M cs3]
          refine exf_go 1 (show ((nI (sM g)) ≤ (nI m) → Go (d + 5) true 145 111 [.ref 10, .int (nI m), mk_, .int y3] [] h3 Q) ∧ (¬ ((nI (sM g)) ≤ (nI m)) → Go (d + 5) true 145 53 [.ref 10, .int (nI m), mk_, .int y3] [] h3 Q) from ⟨fun c3 => ?_, fun c3 => ?_⟩)
          · skip
            have c3 : (sM g) ≤ m := (nI_leI (a := (sM g)) (b := m) (by omega) (by omega)).mp c3
            refine exf_go 2 (show wpC (d + 5) true 178 [.ref 10] h3 (fun r h' => Go (d + 5) true 145 115 [.ref 10, .int (nI m), mk_, .int y3] [r] h' Q) from ?_)
            refine c_latest cs3 cl3 hf3 (fun n => soo_le g l m n) (by omega) (by omega) ?_
            show Go (d + 5) true 145 115 [.ref 10, .int (nI m), mk_, .int y3] [.int (oI (mxF (lft g l) (soo g l m) (tot g)).1)] h3 Q
            refine exf_go 1 (show Q (.int (oI (mxF (lft g l) (soo g l m) (tot g)).1)) h3 from ?_)
            rw [fHidden, if_neg hM, ← show m = sM g from by omega] at k
            exact k _ g3
          · skip
            have c3 : ¬ (sM g) ≤ m := fun q => c3 ((nI_leI (a := (sM g)) (b := m) (by omega) (by omega)).mpr q)
            refine exf_go 4 (show wpC (d + 5) true 168 [.ref 10, .int (nI m), .int 256] h3 (fun _ h' => Go (d + 5) true 145 61 [.ref 10, .int (nI m), mk_, .int y3] [] h' Q) from ?_)
            refine c_rankMate256 (m := m) wf3 cs3 cl3 (by omega) (fun h4 r4 rk4 => ?_)
            have p4 := r4.mono scK_C
            have g4 : Gq scC h h4 := g3.tr p4
            have cs4 := cs_gq cs g4; have cl4 := cl_gq cl g4; have wf4 := g4.2.2.2.1 wf
            have hcc := cntN_le (elg g l (sK g m) false) (tot g)
            show Go (d + 5) true 145 61 [.ref 10, .int (nI m), mk_, .int y3] [] h4 Q
            refine exf_go 2 (show Go (d + 5) true 145 63 [.ref 10, .int (nI m), .int 0, .int y3] [] h4 Q from ?_)
            have L63 : ∀ (k63 : Nat) (z3 : Value) (i : Nat) (h5 : Hp), (cntN (elg g l (sK g m) false) (tot g) - i) < k63 → (i ≤ cntN (elg g l (sK g m) false) (tot g)) → (nzI z3) → (Fq (sAt 98) h4 h5) → (∀ n, n < tot g → rI h5 98 n = nI (sooK (elg g l (sK g m) false) g (sK g m) (soo g l m) i n)) → Go (d + 5) true 145 63 [.ref 10, .int (nI m), .int (nI i), z3] [] h5 Q := by
              intro k63
              induction k63 with
              | zero => intro z3 i h5 hk; exact absurd hk (Nat.not_lt_zero _)
              | succ k63 ih63 =>
                intro z3 i h5 hk hi hy q5 hf5
                have g5 : Gq scC h h5 := g4.tr (q5.mono (sAt_C (fun _ => rfl))).gq
                have cs5 := cs_gq cs g5; have rk5 := rkd_gq rk4 q5 rfl (fun _ => rfl)
                have hl4 : rL h4 98 = rL h3 98 := r4.2.2.1 98 rfl
                have hl5 : tot g ≤ rL h5 98 := by rw [show rL h5 98 = rL h4 98 from q5.L 98]; omega
                have hl55 := (g5.2.2.2.1 wf).2.1 98
                have hal5 : al h5 98 = rL h5 98 := rfl
                refine exf_go 4 (show Go (d + 5) true 145 71 [.ref 10, .int (nI m), .int (nI i), z3] [.int (rI h5 71 1), .int (nI i)] h5 Q from ?_)
                rw [show (rI h5 71 1 : Int32) = nI (cntN (elg g l (sK g m) false) (tot g)) from rk5.1]
                refine exf_go 1 (show ((nI (cntN (elg g l (sK g m) false) (tot g))) ≤ (nI i) → Go (d + 5) true 145 105 [.ref 10, .int (nI m), .int (nI i), z3] [] h5 Q) ∧ (¬ ((nI (cntN (elg g l (sK g m) false) (tot g))) ≤ (nI i)) → Go (d + 5) true 145 74 [.ref 10, .int (nI m), .int (nI i), z3] [] h5 Q) from ⟨fun c4 => ?_, fun c4 => ?_⟩)
                · skip
                  have c4 : (cntN (elg g l (sK g m) false) (tot g)) ≤ i := (nI_leI (a := (cntN (elg g l (sK g m) false) (tot g))) (b := i) (by omega) (by omega)).mp c4
                  refine exf_go 1 (show Go (d + 5) true 145 108 [.ref 10, .int ((nI m) + 1), .int (nI i), z3] [] h5 Q from ?_)
                  rw [show ((nI m) + 1 : Int32) = nI (m + 1) from nI_add m 1]
                  refine exf_go 1 (show Go (d + 5) true 145 42 [.ref 10, .int (nI (m + 1)), .int (nI i), z3] [] h5 Q from ?_)
                  exact ih42 (.int (nI i)) z3 (m + 1) h5 (by omega) (by omega) ⟨Or.inr ⟨_, rfl⟩, hy⟩ g5 (fun n hn => by rw [hf5 n hn, show i = cntN (elg g l (sK g m) false) (tot g) from by omega, sooK_end m n hn]) hl5
                · skip
                  have c4 : ¬ (cntN (elg g l (sK g m) false) (tot g)) ≤ i := fun q => c4 ((nI_leI (a := (cntN (elg g l (sK g m) false) (tot g))) (b := i) (by omega) (by omega)).mpr q)
                  refine exf_go 4 (show wpC (d + 5) true 49 [.ref 71, .int (nI i)] h5 (fun r h' => Go (d + 5) true 145 82 [.ref 10, .int (nI m), .int (nI i), z3] [r] h' Q) from ?_)
                  refine c_atI cs.1 rk5 (j := i) (by omega) ?_
                  have hoi := ordE_in (E := (elg g l (sK g m) false)) (g := g) (kn := (sK g m)) (k := i) (by omega)
                  show Go (d + 5) true 145 82 [.ref 10, .int (nI m), .int (nI i), z3] [.int (nI (ordE (elg g l (sK g m) false) g (sK g m) i))] h5 Q
                  refine exf_go 8 (show vp_in (nI (ordE (elg g l (sK g m) false) g (sK g m) i)) (al h5 98) ∧ (Go (d + 5) true 145 94 [.ref 10, .int (nI m), .int (nI i), .int (nI (ordE (elg g l (sK g m) false) g (sK g m) i))] [.int (rI h5 98 ((nI (ordE (elg g l (sK g m) false) g (sK g m) i)).toNatClampNeg)), .int (nI (ordE (elg g l (sK g m) false) g (sK g m) i)), .ref 98] h5 Q) from ⟨(vp_in_nI (by rw [hal5]; omega) (by rw [hal5]; omega)), ?_⟩)
                  rw [show (rI h5 98 ((nI (ordE (elg g l (sK g m) false) g (sK g m) i)).toNatClampNeg) : Int32) = nI (soo g l m (ordE (elg g l (sK g m) false) g (sK g m) i)) from by rw [nI_clamp (by omega), hf5 _ (by omega), (sooK_hit (by omega)).1]]
                  have hsb := soo_le g l m (ordE (elg g l (sK g m) false) g (sK g m) i)
                  refine exf_go 2 (show wpC (d + 5) true 304 [.int (nI (soo g l m (ordE (elg g l (sK g m) false) g (sK g m) i))), .int (nI i)] h5 (fun r h' => Go (d + 5) true 145 98 [.ref 10, .int (nI m), .int (nI i), .int (nI (ordE (elg g l (sK g m) false) g (sK g m) i))] [r, .int (nI (ordE (elg g l (sK g m) false) g (sK g m) i)), .ref 98] h' Q) from ?_)
                  refine c_min (by omega) (by omega) ?_
                  show Go (d + 5) true 145 98 [.ref 10, .int (nI m), .int (nI i), .int (nI (ordE (elg g l (sK g m) false) g (sK g m) i))] [.int (nI (min (soo g l m (ordE (elg g l (sK g m) false) g (sK g m) i)) i)), .int (nI (ordE (elg g l (sK g m) false) g (sK g m) i)), .ref 98] h5 Q
                  refine exf_go 2 (show vp_in (nI (ordE (elg g l (sK g m) false) g (sK g m) i)) (al h5 98) ∧ (Go (d + 5) true 145 102 [.ref 10, .int (nI m), .int ((nI i) + 1), .int (nI (ordE (elg g l (sK g m) false) g (sK g m) i))] [] (uI h5 98 ((nI (ordE (elg g l (sK g m) false) g (sK g m) i)).toNatClampNeg) (nI (min (soo g l m (ordE (elg g l (sK g m) false) g (sK g m) i)) i))) Q) from ⟨(vp_in_nI (by rw [hal5]; omega) (by rw [hal5]; omega)), ?_⟩)
                  rw [show ((nI i) + 1 : Int32) = nI (i + 1) from nI_add i 1]
                  refine exf_go 1 (show Go (d + 5) true 145 63 [.ref 10, .int (nI m), .int (nI (i + 1)), .int (nI (ordE (elg g l (sK g m) false) g (sK g m) i))] [] (uI h5 98 ((nI (ordE (elg g l (sK g m) false) g (sK g m) i)).toNatClampNeg) (nI (min (soo g l m (ordE (elg g l (sK g m) false) g (sK g m) i)) i))) Q from ?_)
                  exact ih63 (.int (nI (ordE (elg g l (sK g m) false) g (sK g m) i))) (i + 1) _ (by omega) (by omega) (Or.inr ⟨_, rfl⟩) (q5.uI' _ _ _ rfl) (fun n hn => by rw [nI_clamp (by omega)]; exact (Decidable.em (n = ordE (elg g l (sK g m) false) g (sK g m) i)).elim (fun e => by rw [e, rI_uI_eq, (sooK_hit (by omega)).2]) (fun e => by rw [rI_uI_at e, sooK_miss (by omega) hn e]; exact hf5 n hn))
            exact L63 (cntN (elg g l (sK g m) false) (tot g) + 1) (.int y3) 0 h4 (by omega) (by omega) (by first | exact Or.inl rfl | exact Or.inr ⟨_, rfl⟩) Fq.rfl' (fun n hn => by rw [sooK_0, r4.I (a := 98) (fun _ => rfl)]; exact hf3 n hn)
        · skip
          show Go (d + 5) true 145 42 [.ref 10, .int (nI m), .int y2, mk_] [] h3 Q
          refine exf_go 4 (show Go (d + 5) true 145 50 [.ref 10, .int (nI m), .int y2, mk_] [.int (rI h3 31 13), .int (nI m)] h3 Q from ?_)
          rw [show (rI h3 31 13 : Int32) = nI (sM g) from cs_M cs3]
          refine exf_go 1 (show ((nI (sM g)) ≤ (nI m) → Go (d + 5) true 145 111 [.ref 10, .int (nI m), .int y2, mk_] [] h3 Q) ∧ (¬ ((nI (sM g)) ≤ (nI m)) → Go (d + 5) true 145 53 [.ref 10, .int (nI m), .int y2, mk_] [] h3 Q) from ⟨fun c5 => ?_, fun c5 => ?_⟩)
          · skip
            have c5 : (sM g) ≤ m := (nI_leI (a := (sM g)) (b := m) (by omega) (by omega)).mp c5
            refine exf_go 2 (show wpC (d + 5) true 178 [.ref 10] h3 (fun r h' => Go (d + 5) true 145 115 [.ref 10, .int (nI m), .int y2, mk_] [r] h' Q) from ?_)
            refine c_latest cs3 cl3 hf3 (fun n => soo_le g l m n) (by omega) (by omega) ?_
            show Go (d + 5) true 145 115 [.ref 10, .int (nI m), .int y2, mk_] [.int (oI (mxF (lft g l) (soo g l m) (tot g)).1)] h3 Q
            refine exf_go 1 (show Q (.int (oI (mxF (lft g l) (soo g l m) (tot g)).1)) h3 from ?_)
            rw [fHidden, if_neg hM, ← show m = sM g from by omega] at k
            exact k _ g3
          · skip
            have c5 : ¬ (sM g) ≤ m := fun q => c5 ((nI_leI (a := (sM g)) (b := m) (by omega) (by omega)).mpr q)
            refine exf_go 4 (show wpC (d + 5) true 168 [.ref 10, .int (nI m), .int 256] h3 (fun _ h' => Go (d + 5) true 145 61 [.ref 10, .int (nI m), .int y2, mk_] [] h' Q) from ?_)
            refine c_rankMate256 (m := m) wf3 cs3 cl3 (by omega) (fun h4 r4 rk4 => ?_)
            have p4 := r4.mono scK_C
            have g4 : Gq scC h h4 := g3.tr p4
            have cs4 := cs_gq cs g4; have cl4 := cl_gq cl g4; have wf4 := g4.2.2.2.1 wf
            have hcc := cntN_le (elg g l (sK g m) false) (tot g)
            show Go (d + 5) true 145 61 [.ref 10, .int (nI m), .int y2, mk_] [] h4 Q
            refine exf_go 2 (show Go (d + 5) true 145 63 [.ref 10, .int (nI m), .int 0, mk_] [] h4 Q from ?_)
            have L63 : ∀ (k63 : Nat) (z3 : Value) (i : Nat) (h5 : Hp), (cntN (elg g l (sK g m) false) (tot g) - i) < k63 → (i ≤ cntN (elg g l (sK g m) false) (tot g)) → (nzI z3) → (Fq (sAt 98) h4 h5) → (∀ n, n < tot g → rI h5 98 n = nI (sooK (elg g l (sK g m) false) g (sK g m) (soo g l m) i n)) → Go (d + 5) true 145 63 [.ref 10, .int (nI m), .int (nI i), z3] [] h5 Q := by
              intro k63
              induction k63 with
              | zero => intro z3 i h5 hk; exact absurd hk (Nat.not_lt_zero _)
              | succ k63 ih63 =>
                intro z3 i h5 hk hi hy q5 hf5
                have g5 : Gq scC h h5 := g4.tr (q5.mono (sAt_C (fun _ => rfl))).gq
                have cs5 := cs_gq cs g5; have rk5 := rkd_gq rk4 q5 rfl (fun _ => rfl)
                have hl4 : rL h4 98 = rL h3 98 := r4.2.2.1 98 rfl
                have hl5 : tot g ≤ rL h5 98 := by rw [show rL h5 98 = rL h4 98 from q5.L 98]; omega
                have hl55 := (g5.2.2.2.1 wf).2.1 98
                have hal5 : al h5 98 = rL h5 98 := rfl
                refine exf_go 4 (show Go (d + 5) true 145 71 [.ref 10, .int (nI m), .int (nI i), z3] [.int (rI h5 71 1), .int (nI i)] h5 Q from ?_)
                rw [show (rI h5 71 1 : Int32) = nI (cntN (elg g l (sK g m) false) (tot g)) from rk5.1]
                refine exf_go 1 (show ((nI (cntN (elg g l (sK g m) false) (tot g))) ≤ (nI i) → Go (d + 5) true 145 105 [.ref 10, .int (nI m), .int (nI i), z3] [] h5 Q) ∧ (¬ ((nI (cntN (elg g l (sK g m) false) (tot g))) ≤ (nI i)) → Go (d + 5) true 145 74 [.ref 10, .int (nI m), .int (nI i), z3] [] h5 Q) from ⟨fun c6 => ?_, fun c6 => ?_⟩)
                · skip
                  have c6 : (cntN (elg g l (sK g m) false) (tot g)) ≤ i := (nI_leI (a := (cntN (elg g l (sK g m) false) (tot g))) (b := i) (by omega) (by omega)).mp c6
                  refine exf_go 1 (show Go (d + 5) true 145 108 [.ref 10, .int ((nI m) + 1), .int (nI i), z3] [] h5 Q from ?_)
                  rw [show ((nI m) + 1 : Int32) = nI (m + 1) from nI_add m 1]
                  refine exf_go 1 (show Go (d + 5) true 145 42 [.ref 10, .int (nI (m + 1)), .int (nI i), z3] [] h5 Q from ?_)
                  exact ih42 (.int (nI i)) z3 (m + 1) h5 (by omega) (by omega) ⟨Or.inr ⟨_, rfl⟩, hy⟩ g5 (fun n hn => by rw [hf5 n hn, show i = cntN (elg g l (sK g m) false) (tot g) from by omega, sooK_end m n hn]) hl5
                · skip
                  have c6 : ¬ (cntN (elg g l (sK g m) false) (tot g)) ≤ i := fun q => c6 ((nI_leI (a := (cntN (elg g l (sK g m) false) (tot g))) (b := i) (by omega) (by omega)).mpr q)
                  refine exf_go 4 (show wpC (d + 5) true 49 [.ref 71, .int (nI i)] h5 (fun r h' => Go (d + 5) true 145 82 [.ref 10, .int (nI m), .int (nI i), z3] [r] h' Q) from ?_)
                  refine c_atI cs.1 rk5 (j := i) (by omega) ?_
                  have hoi := ordE_in (E := (elg g l (sK g m) false)) (g := g) (kn := (sK g m)) (k := i) (by omega)
                  show Go (d + 5) true 145 82 [.ref 10, .int (nI m), .int (nI i), z3] [.int (nI (ordE (elg g l (sK g m) false) g (sK g m) i))] h5 Q
                  refine exf_go 8 (show vp_in (nI (ordE (elg g l (sK g m) false) g (sK g m) i)) (al h5 98) ∧ (Go (d + 5) true 145 94 [.ref 10, .int (nI m), .int (nI i), .int (nI (ordE (elg g l (sK g m) false) g (sK g m) i))] [.int (rI h5 98 ((nI (ordE (elg g l (sK g m) false) g (sK g m) i)).toNatClampNeg)), .int (nI (ordE (elg g l (sK g m) false) g (sK g m) i)), .ref 98] h5 Q) from ⟨(vp_in_nI (by rw [hal5]; omega) (by rw [hal5]; omega)), ?_⟩)
                  rw [show (rI h5 98 ((nI (ordE (elg g l (sK g m) false) g (sK g m) i)).toNatClampNeg) : Int32) = nI (soo g l m (ordE (elg g l (sK g m) false) g (sK g m) i)) from by rw [nI_clamp (by omega), hf5 _ (by omega), (sooK_hit (by omega)).1]]
                  have hsb := soo_le g l m (ordE (elg g l (sK g m) false) g (sK g m) i)
                  refine exf_go 2 (show wpC (d + 5) true 304 [.int (nI (soo g l m (ordE (elg g l (sK g m) false) g (sK g m) i))), .int (nI i)] h5 (fun r h' => Go (d + 5) true 145 98 [.ref 10, .int (nI m), .int (nI i), .int (nI (ordE (elg g l (sK g m) false) g (sK g m) i))] [r, .int (nI (ordE (elg g l (sK g m) false) g (sK g m) i)), .ref 98] h' Q) from ?_)
                  refine c_min (by omega) (by omega) ?_
                  show Go (d + 5) true 145 98 [.ref 10, .int (nI m), .int (nI i), .int (nI (ordE (elg g l (sK g m) false) g (sK g m) i))] [.int (nI (min (soo g l m (ordE (elg g l (sK g m) false) g (sK g m) i)) i)), .int (nI (ordE (elg g l (sK g m) false) g (sK g m) i)), .ref 98] h5 Q
                  refine exf_go 2 (show vp_in (nI (ordE (elg g l (sK g m) false) g (sK g m) i)) (al h5 98) ∧ (Go (d + 5) true 145 102 [.ref 10, .int (nI m), .int ((nI i) + 1), .int (nI (ordE (elg g l (sK g m) false) g (sK g m) i))] [] (uI h5 98 ((nI (ordE (elg g l (sK g m) false) g (sK g m) i)).toNatClampNeg) (nI (min (soo g l m (ordE (elg g l (sK g m) false) g (sK g m) i)) i))) Q) from ⟨(vp_in_nI (by rw [hal5]; omega) (by rw [hal5]; omega)), ?_⟩)
                  rw [show ((nI i) + 1 : Int32) = nI (i + 1) from nI_add i 1]
                  refine exf_go 1 (show Go (d + 5) true 145 63 [.ref 10, .int (nI m), .int (nI (i + 1)), .int (nI (ordE (elg g l (sK g m) false) g (sK g m) i))] [] (uI h5 98 ((nI (ordE (elg g l (sK g m) false) g (sK g m) i)).toNatClampNeg) (nI (min (soo g l m (ordE (elg g l (sK g m) false) g (sK g m) i)) i))) Q from ?_)
                  exact ih63 (.int (nI (ordE (elg g l (sK g m) false) g (sK g m) i))) (i + 1) _ (by omega) (by omega) (Or.inr ⟨_, rfl⟩) (q5.uI' _ _ _ rfl) (fun n hn => by rw [nI_clamp (by omega)]; exact (Decidable.em (n = ordE (elg g l (sK g m) false) g (sK g m) i)).elim (fun e => by rw [e, rI_uI_eq, (sooK_hit (by omega)).2]) (fun e => by rw [rI_uI_at e, sooK_miss (by omega) hn e]; exact hf5 n hn))
            exact L63 (cntN (elg g l (sK g m) false) (tot g) + 1) mk_ 0 h4 (by omega) (by omega) (by first | exact Or.inl rfl | exact Or.inr ⟨_, rfl⟩) Fq.rfl' (fun n hn => by rw [sooK_0, r4.I (a := 98) (fun _ => rfl)]; exact hf3 n hn)
        · skip
          show Go (d + 5) true 145 42 [.ref 10, .int (nI m), .int y2, .int y3] [] h3 Q
          refine exf_go 4 (show Go (d + 5) true 145 50 [.ref 10, .int (nI m), .int y2, .int y3] [.int (rI h3 31 13), .int (nI m)] h3 Q from ?_)
          rw [show (rI h3 31 13 : Int32) = nI (sM g) from cs_M cs3]
          refine exf_go 1 (show ((nI (sM g)) ≤ (nI m) → Go (d + 5) true 145 111 [.ref 10, .int (nI m), .int y2, .int y3] [] h3 Q) ∧ (¬ ((nI (sM g)) ≤ (nI m)) → Go (d + 5) true 145 53 [.ref 10, .int (nI m), .int y2, .int y3] [] h3 Q) from ⟨fun c7 => ?_, fun c7 => ?_⟩)
          · skip
            have c7 : (sM g) ≤ m := (nI_leI (a := (sM g)) (b := m) (by omega) (by omega)).mp c7
            refine exf_go 2 (show wpC (d + 5) true 178 [.ref 10] h3 (fun r h' => Go (d + 5) true 145 115 [.ref 10, .int (nI m), .int y2, .int y3] [r] h' Q) from ?_)
            refine c_latest cs3 cl3 hf3 (fun n => soo_le g l m n) (by omega) (by omega) ?_
            show Go (d + 5) true 145 115 [.ref 10, .int (nI m), .int y2, .int y3] [.int (oI (mxF (lft g l) (soo g l m) (tot g)).1)] h3 Q
            refine exf_go 1 (show Q (.int (oI (mxF (lft g l) (soo g l m) (tot g)).1)) h3 from ?_)
            rw [fHidden, if_neg hM, ← show m = sM g from by omega] at k
            exact k _ g3
          · skip
            have c7 : ¬ (sM g) ≤ m := fun q => c7 ((nI_leI (a := (sM g)) (b := m) (by omega) (by omega)).mpr q)
            refine exf_go 4 (show wpC (d + 5) true 168 [.ref 10, .int (nI m), .int 256] h3 (fun _ h' => Go (d + 5) true 145 61 [.ref 10, .int (nI m), .int y2, .int y3] [] h' Q) from ?_)
            refine c_rankMate256 (m := m) wf3 cs3 cl3 (by omega) (fun h4 r4 rk4 => ?_)
            have p4 := r4.mono scK_C
            have g4 : Gq scC h h4 := g3.tr p4
            have cs4 := cs_gq cs g4; have cl4 := cl_gq cl g4; have wf4 := g4.2.2.2.1 wf
            have hcc := cntN_le (elg g l (sK g m) false) (tot g)
            show Go (d + 5) true 145 61 [.ref 10, .int (nI m), .int y2, .int y3] [] h4 Q
            refine exf_go 2 (show Go (d + 5) true 145 63 [.ref 10, .int (nI m), .int 0, .int y3] [] h4 Q from ?_)
            have L63 : ∀ (k63 : Nat) (z3 : Value) (i : Nat) (h5 : Hp), (cntN (elg g l (sK g m) false) (tot g) - i) < k63 → (i ≤ cntN (elg g l (sK g m) false) (tot g)) → (nzI z3) → (Fq (sAt 98) h4 h5) → (∀ n, n < tot g → rI h5 98 n = nI (sooK (elg g l (sK g m) false) g (sK g m) (soo g l m) i n)) → Go (d + 5) true 145 63 [.ref 10, .int (nI m), .int (nI i), z3] [] h5 Q := by
              intro k63
              induction k63 with
              | zero => intro z3 i h5 hk; exact absurd hk (Nat.not_lt_zero _)
              | succ k63 ih63 =>
                intro z3 i h5 hk hi hy q5 hf5
                have g5 : Gq scC h h5 := g4.tr (q5.mono (sAt_C (fun _ => rfl))).gq
                have cs5 := cs_gq cs g5; have rk5 := rkd_gq rk4 q5 rfl (fun _ => rfl)
                have hl4 : rL h4 98 = rL h3 98 := r4.2.2.1 98 rfl
                have hl5 : tot g ≤ rL h5 98 := by rw [show rL h5 98 = rL h4 98 from q5.L 98]; omega
                have hl55 := (g5.2.2.2.1 wf).2.1 98
                have hal5 : al h5 98 = rL h5 98 := rfl
                refine exf_go 4 (show Go (d + 5) true 145 71 [.ref 10, .int (nI m), .int (nI i), z3] [.int (rI h5 71 1), .int (nI i)] h5 Q from ?_)
                rw [show (rI h5 71 1 : Int32) = nI (cntN (elg g l (sK g m) false) (tot g)) from rk5.1]
                refine exf_go 1 (show ((nI (cntN (elg g l (sK g m) false) (tot g))) ≤ (nI i) → Go (d + 5) true 145 105 [.ref 10, .int (nI m), .int (nI i), z3] [] h5 Q) ∧ (¬ ((nI (cntN (elg g l (sK g m) false) (tot g))) ≤ (nI i)) → Go (d + 5) true 145 74 [.ref 10, .int (nI m), .int (nI i), z3] [] h5 Q) from ⟨fun c8 => ?_, fun c8 => ?_⟩)
                · skip
                  have c8 : (cntN (elg g l (sK g m) false) (tot g)) ≤ i := (nI_leI (a := (cntN (elg g l (sK g m) false) (tot g))) (b := i) (by omega) (by omega)).mp c8
                  refine exf_go 1 (show Go (d + 5) true 145 108 [.ref 10, .int ((nI m) + 1), .int (nI i), z3] [] h5 Q from ?_)
                  rw [show ((nI m) + 1 : Int32) = nI (m + 1) from nI_add m 1]
                  refine exf_go 1 (show Go (d + 5) true 145 42 [.ref 10, .int (nI (m + 1)), .int (nI i), z3] [] h5 Q from ?_)
                  exact ih42 (.int (nI i)) z3 (m + 1) h5 (by omega) (by omega) ⟨Or.inr ⟨_, rfl⟩, hy⟩ g5 (fun n hn => by rw [hf5 n hn, show i = cntN (elg g l (sK g m) false) (tot g) from by omega, sooK_end m n hn]) hl5
                · skip
                  have c8 : ¬ (cntN (elg g l (sK g m) false) (tot g)) ≤ i := fun q => c8 ((nI_leI (a := (cntN (elg g l (sK g m) false) (tot g))) (b := i) (by omega) (by omega)).mpr q)
                  refine exf_go 4 (show wpC (d + 5) true 49 [.ref 71, .int (nI i)] h5 (fun r h' => Go (d + 5) true 145 82 [.ref 10, .int (nI m), .int (nI i), z3] [r] h' Q) from ?_)
                  refine c_atI cs.1 rk5 (j := i) (by omega) ?_
                  have hoi := ordE_in (E := (elg g l (sK g m) false)) (g := g) (kn := (sK g m)) (k := i) (by omega)
                  show Go (d + 5) true 145 82 [.ref 10, .int (nI m), .int (nI i), z3] [.int (nI (ordE (elg g l (sK g m) false) g (sK g m) i))] h5 Q
                  refine exf_go 8 (show vp_in (nI (ordE (elg g l (sK g m) false) g (sK g m) i)) (al h5 98) ∧ (Go (d + 5) true 145 94 [.ref 10, .int (nI m), .int (nI i), .int (nI (ordE (elg g l (sK g m) false) g (sK g m) i))] [.int (rI h5 98 ((nI (ordE (elg g l (sK g m) false) g (sK g m) i)).toNatClampNeg)), .int (nI (ordE (elg g l (sK g m) false) g (sK g m) i)), .ref 98] h5 Q) from ⟨(vp_in_nI (by rw [hal5]; omega) (by rw [hal5]; omega)), ?_⟩)
                  rw [show (rI h5 98 ((nI (ordE (elg g l (sK g m) false) g (sK g m) i)).toNatClampNeg) : Int32) = nI (soo g l m (ordE (elg g l (sK g m) false) g (sK g m) i)) from by rw [nI_clamp (by omega), hf5 _ (by omega), (sooK_hit (by omega)).1]]
                  have hsb := soo_le g l m (ordE (elg g l (sK g m) false) g (sK g m) i)
                  refine exf_go 2 (show wpC (d + 5) true 304 [.int (nI (soo g l m (ordE (elg g l (sK g m) false) g (sK g m) i))), .int (nI i)] h5 (fun r h' => Go (d + 5) true 145 98 [.ref 10, .int (nI m), .int (nI i), .int (nI (ordE (elg g l (sK g m) false) g (sK g m) i))] [r, .int (nI (ordE (elg g l (sK g m) false) g (sK g m) i)), .ref 98] h' Q) from ?_)
                  refine c_min (by omega) (by omega) ?_
                  show Go (d + 5) true 145 98 [.ref 10, .int (nI m), .int (nI i), .int (nI (ordE (elg g l (sK g m) false) g (sK g m) i))] [.int (nI (min (soo g l m (ordE (elg g l (sK g m) false) g (sK g m) i)) i)), .int (nI (ordE (elg g l (sK g m) false) g (sK g m) i)), .ref 98] h5 Q
                  refine exf_go 2 (show vp_in (nI (ordE (elg g l (sK g m) false) g (sK g m) i)) (al h5 98) ∧ (Go (d + 5) true 145 102 [.ref 10, .int (nI m), .int ((nI i) + 1), .int (nI (ordE (elg g l (sK g m) false) g (sK g m) i))] [] (uI h5 98 ((nI (ordE (elg g l (sK g m) false) g (sK g m) i)).toNatClampNeg) (nI (min (soo g l m (ordE (elg g l (sK g m) false) g (sK g m) i)) i))) Q) from ⟨(vp_in_nI (by rw [hal5]; omega) (by rw [hal5]; omega)), ?_⟩)
                  rw [show ((nI i) + 1 : Int32) = nI (i + 1) from nI_add i 1]
                  refine exf_go 1 (show Go (d + 5) true 145 63 [.ref 10, .int (nI m), .int (nI (i + 1)), .int (nI (ordE (elg g l (sK g m) false) g (sK g m) i))] [] (uI h5 98 ((nI (ordE (elg g l (sK g m) false) g (sK g m) i)).toNatClampNeg) (nI (min (soo g l m (ordE (elg g l (sK g m) false) g (sK g m) i)) i))) Q from ?_)
                  exact ih63 (.int (nI (ordE (elg g l (sK g m) false) g (sK g m) i))) (i + 1) _ (by omega) (by omega) (Or.inr ⟨_, rfl⟩) (q5.uI' _ _ _ rfl) (fun n hn => by rw [nI_clamp (by omega)]; exact (Decidable.em (n = ordE (elg g l (sK g m) false) g (sK g m) i)).elim (fun e => by rw [e, rI_uI_eq, (sooK_hit (by omega)).2]) (fun e => by rw [rI_uI_at e, sooK_miss (by omega) hn e]; exact hf5 n hn))
            exact L63 (cntN (elg g l (sK g m) false) (tot g) + 1) (.int y3) 0 h4 (by omega) (by omega) (by first | exact Or.inl rfl | exact Or.inr ⟨_, rfl⟩) Fq.rfl' (fun n hn => by rw [sooK_0, r4.I (a := 98) (fun _ => rfl)]; exact hf3 n hn)
    exact L42 (sM g + 1) mk_ mk_ 0 h2 (by omega) (by omega) ⟨Or.inl rfl, Or.inl rfl⟩ g2 (fun n hn => hz n (by show n < rL h1 98; omega)) (by omega)
  refine exf_go 3 (show Go (d + 5) true 145 7 [.ref 10, mk_, mk_, mk_] [.int (rI h 31 13)] h Q from ?_)
  rw [show (rI h 31 13 : Int32) = nI (sM g) from cs_M cs]
  refine exf_go 1 (show (¬ (nI (sM g)) = 0 → Go (d + 5) true 145 12 [.ref 10, mk_, mk_, mk_] [] h Q) ∧ (¬ (¬ (nI (sM g)) = 0) → Go (d + 5) true 145 10 [.ref 10, mk_, mk_, mk_] [] h Q) from ⟨fun c9 => ?_, fun c9 => ?_⟩)
  · skip
    have c9 : ¬ (sM g) = 0 := fun q => c9 ((nI_eq (a := (sM g)) (b := 0) (by omega) (by omega)).mpr q)
    refine exf_go 6 (show Go (d + 5) true 145 24 [.ref 10, mk_, mk_, mk_] [.int (rI h 31 5), .ref 98, .ref 10] h Q from ?_)
    rw [show (rI h 31 5 : Int32) = nI (tot g) from cs_N cs]
    refine exf_go 1 (show wpC (d + 5) true 182 [.ref 98, .int (nI (tot g))] h (fun r h' => Go (d + 5) true 145 27 [.ref 10, mk_, mk_, mk_] [r, .ref 10] h' Q) from ?_)
    refine c_room98 wf (by omega) (fun r1 => ?_) (fun mr r1 r2 r3 => ?_)
    · skip
      show Go (d + 5) true 145 27 [.ref 10, mk_, mk_, mk_] [.ref 98, .ref 10] h Q
      refine exf_go 1 (show Go (d + 5) true 145 30 [.ref 10, mk_, mk_, mk_] [] (uN h 10 16 true) Q from ?_)
      exact X30 _ (Gq.uN' Gq.rfl' (wf.2.2 10 16 rfl)) (by show tot g ≤ rL h 98; omega) (by omega)
    · skip
      have hgw := grow (s := scC) (z := 98) wf (by omega) (fun _ => rfl) (fun _ => rfl) r1 r3
      show Go (d + 5) true 145 27 [.ref 10, mk_, mk_, mk_] [.ref 99, .ref 10] (nwH h 99 mr) Q
      refine exf_go 1 (show rN (nwH h 99 mr) 10 16 = true ∧ (Go (d + 5) true 145 30 [.ref 10, mk_, mk_, mk_] [] (adp (nwH h 99 mr) 98) Q) from ⟨(wf.2.2 10 16 rfl), ?_⟩)
      exact X30 _ hgw.1 (by rw [hgw.2.1]; omega) (by omega)
  · skip
    have c9 : (sM g) = 0 := (nI_eq (a := (sM g)) (b := 0) (by omega) (by omega)).mp (Classical.not_not.mp c9)
    refine exf_go 2 (show Q (.int (-1)) h from ?_)
    rw [fHidden, if_pos (by omega)] at k
    exact k _ Gq.rfl'
