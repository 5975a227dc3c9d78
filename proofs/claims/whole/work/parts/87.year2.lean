/-! Years: the calls. -/
def sYr (a x : Nat) : Bool := scH a x || s17 a x
theorem H_yr {h h1 : Hp} (q : Fq scH h h1) : Fq sYr h h1 := q.mono (fun a i e => by unfold sYr at e; rw [Bool.or_eq_false_iff] at e; exact e.1)
theorem D_yr {h h1 : Hp} (q : Fq s17 h h1) : Fq sYr h h1 := q.mono (fun a i e => by unfold sYr at e; rw [Bool.or_eq_false_iff] at e; exact e.2)
theorem s17_f {a x : Nat} (h : a ≠ 10) : s17 a x = false := by
  unfold s17
  rw [show Nat.beq a 10 = false from by rw [Bool.eq_false_iff]; intro z; exact h (Nat.eq_of_beq_eq_true z)]
  rfl
theorem cs_yr {g : ShG} {h h1 : Hp} (cs : CS 31 g h) (q : Fq sYr h h1) : CS 31 g h1 := cs_same cs (fun a u v => q.I (fun x => by unfold sYr; rw [scH_n (by omega), s17_f (by omega)]; rfl))
theorem cl_d {g : ShG} {l : LkG} {h h1 : Hp} (cl : CL 39 g l h) (q : Fq s17 h h1) : CL 39 g l h1 := cl_same cl (q.I (fun _ => s17_f (by decide))) (q.I (fun _ => s17_f (by decide))) (q.I (fun _ => s17_f (by decide))) (q.L 40)
theorem mk_d {g : ShG} {i c : Nat} {l0 l : LkG} {h h1 : Hp} (mk : CMK g i l0 l c h) (q : Fq s17 h h1) : CMK g i l0 l c h1 := mk_fq mk (q.I (fun _ => s17_f (by omega))) (q.I (fun _ => s17_f (by omega))) (q.I (fun _ => s17_f (by omega)))
theorem qs_d {i : Nat} {h h1 h2 : Hp} (qs1 : ∀ a, 42 ≤ a → a ≤ 70 → (a < 44 + 3 * i ∨ 46 + 3 * i < a) → rI h1 a = rI h a) (q2 : Fq s17 h1 h2) : ∀ a, 42 ≤ a → a ≤ 70 → (a < 44 + 3 * i ∨ 46 + 3 * i < a) → rI h2 a = rI h a := fun a u v z => (q2.I (fun x => s17_f (by omega))).trans (qs1 a u v z)
theorem c_year0 {d : Nat} {h : Hp} {g : ShG} {e : DeG} {x : Int32} {j : Nat} {Q : Po} (wf : WF h) (cs : CS 31 g h) (cd : CD g e h) (hj : j < 30) (k : ∀ h1, Fq sYr h h1 → CD g (if 0 < (yrF g e.1 x (j + 1)).2.2 then keepD e (yrF g e.1 x (j + 1)).1 else e) h1 → Q (.int (lX (yrF g e.1 x (j + 1)).1 - lX e.1)) h1) : wpC (d + 6) true 132 [.ref 10, .int x, .int (nI (j + 1))] h Q := by
  have hN := tot_b cs.1
  have h4 := cs.1.1
  have cd0 := cd
  obtain ⟨cl, i, ch⟩ := cd
  have hi9 := ch.1; have hm8 := ch.2.1; have hO1 := cl.1.2.1
  refine go_in rfl ?_
  have X107 : ∀ (z6 z7 : Value) (n c : Nat) (h2 : Hp), (yrF g e.1 x (j + 1) = yrF g e.1 x n) → (Fq sYr h h2) → (∀ a, 42 ≤ a → a ≤ 70 → (a < 44 + 3 * i ∨ 46 + 3 * i < a) → rI h2 a = rI h a) → (CL 39 g (yrF g e.1 x n).1 h2) → (CMK g i e.1 (yrF g e.1 x n).1 c h2) → Go (d + 5) true 132 107 [.ref 10, .int x, .int (nI (j + 1)), .int (lX e.1), .ref (44 + 3 * i), .int (nI ((yrF g e.1 x n).2.2)), z6, z7] [] h2 Q := by
    intro z6 z7 n c h2 hy q2 qs2 cl2 mk2
    have hyl := yr_le g e.1 x (j + 1)
    rw [hy] at hyl
    have hp2 := ch_p ch qs2
    refine exf_go 2 (show ((nI ((yrF g e.1 x n).2.2)) ≤ 0 → Go (d + 5) true 132 119 [.ref 10, .int x, .int (nI (j + 1)), .int (lX e.1), .ref (44 + 3 * i), .int (nI ((yrF g e.1 x n).2.2)), z6, z7] [] h2 Q) ∧ (¬ ((nI ((yrF g e.1 x n).2.2)) ≤ 0) → Go (d + 5) true 132 112 [.ref 10, .int x, .int (nI (j + 1)), .int (lX e.1), .ref (44 + 3 * i), .int (nI ((yrF g e.1 x n).2.2)), z6, z7] [] h2 Q) from ⟨fun c1 => ?_, fun c1 => ?_⟩)
    · skip
      have c1 : ((yrF g e.1 x n).2.2) ≤ 0 := (nI_leI (a := ((yrF g e.1 x n).2.2)) (b := 0) (by omega) (by omega)).mp c1
      refine exf_go 3 (show Go (d + 5) true 132 126 [.ref 10, .int x, .int (nI (j + 1)), .int (lX e.1), .ref (44 + 3 * i), .int (nI ((yrF g e.1 x n).2.2)), z6, z7] [.int (rI h2 39 4)] h2 Q from ?_)
      rw [show (rI h2 39 4 : Int32) = lX (yrF g e.1 x n).1 from cl_X cl2]
      refine exf_go 3 (show Q (.int ((lX (yrF g e.1 x n).1) - (lX e.1))) h2 from ?_)
      rw [hy] at k
      rw [if_neg (by omega)] at k
      rw [yr_0 g e.1 x n (by omega)] at cl2 k ⊢
      exact k _ q2 ⟨cl2, i, ch_keep0 ch qs2⟩
    · skip
      have c1 : ¬ ((yrF g e.1 x n).2.2) ≤ 0 := fun q => c1 ((nI_leI (a := ((yrF g e.1 x n).2.2)) (b := 0) (by omega) (by omega)).mpr q)
      refine exf_go 3 (show wpC (d + 5) true 14 [.ref 42] h2 (fun _ h' => Go (d + 5) true 132 119 [.ref 10, .int x, .int (nI (j + 1)), .int (lX e.1), .ref (44 + 3 * i), .int (nI ((yrF g e.1 x n).2.2)), z6, z7] [] h' Q) from ?_)
      refine c_keep hp2.1 hp2.2 hi9 hm8 ?_
      have cd2 := cd_keep ch qs2 cl2 mk2
      show Go (d + 5) true 132 119 [.ref 10, .int x, .int (nI (j + 1)), .int (lX e.1), .ref (44 + 3 * i), .int (nI ((yrF g e.1 x n).2.2)), z6, z7] [] (uI (uI h2 42 1 (nI ((i + 1) % 9))) 42 2 (nI (min 8 (e.2.1 + 1)))) Q
      refine exf_go 3 (show Go (d + 5) true 132 126 [.ref 10, .int x, .int (nI (j + 1)), .int (lX e.1), .ref (44 + 3 * i), .int (nI ((yrF g e.1 x n).2.2)), z6, z7] [.int (rI h2 39 4)] (uI (uI h2 42 1 (nI ((i + 1) % 9))) 42 2 (nI (min 8 (e.2.1 + 1)))) Q from ?_)
      rw [show (rI h2 39 4 : Int32) = lX (yrF g e.1 x n).1 from cl_X cl2]
      refine exf_go 3 (show Q (.int ((lX (yrF g e.1 x n).1) - (lX e.1))) (uI (uI h2 42 1 (nI ((i + 1) % 9))) 42 2 (nI (min 8 (e.2.1 + 1)))) from ?_)
      rw [hy] at k
      rw [if_pos (by omega)] at k
      exact k _ ((q2.uI' 42 1 _ rfl).uI' 42 2 _ rfl) cd2
  refine exf_go 3 (show ((nI (j + 1)) < 1 → Go (d + 5) true 132 11 [.ref 10, .int x, .int (nI (j + 1)), mk_, mk_, mk_, mk_, mk_] [] h Q) ∧ (¬ ((nI (j + 1)) < 1) → Go (d + 5) true 132 5 [.ref 10, .int x, .int (nI (j + 1)), mk_, mk_, mk_, mk_, mk_] [] h Q) from ⟨fun c2 => ?_, fun c2 => ?_⟩)
  · skip
    have c2 : (j + 1) < 1 := (nI_ltI (a := (j + 1)) (b := 1) (by omega) (by omega)).mp c2
    refine exf_go 2 (show Q (.int (-3)) h from ?_)
    exfalso; omega
  · skip
    have c2 : ¬ (j + 1) < 1 := fun q => c2 ((nI_ltI (a := (j + 1)) (b := 1) (by omega) (by omega)).mpr q)
    refine exf_go 3 (show ((nI (j + 1)) ≤ 30 → Go (d + 5) true 132 14 [.ref 10, .int x, .int (nI (j + 1)), mk_, mk_, mk_, mk_, mk_] [] h Q) ∧ (¬ ((nI (j + 1)) ≤ 30) → Go (d + 5) true 132 11 [.ref 10, .int x, .int (nI (j + 1)), mk_, mk_, mk_, mk_, mk_] [] h Q) from ⟨fun c3 => ?_, fun c3 => ?_⟩)
    · skip
      have c3 : (j + 1) ≤ 30 := (nI_leI (a := (j + 1)) (b := 30) (by omega) (by omega)).mp c3
      refine exf_go 3 (show Go (d + 5) true 132 21 [.ref 10, .int x, .int (nI (j + 1)), mk_, mk_, mk_, mk_, mk_] [.int (rI h 39 4)] h Q from ?_)
      rw [show (rI h 39 4 : Int32) = lX e.1 from cl_X cl]
      refine exf_go 6 (show wpC (d + 5) true 13 [.ref 42, .ref 39] h (fun r h' => Go (d + 5) true 132 33 [.ref 10, .int x, .int (nI (j + 1)), .int (lX e.1), mk_, mk_, mk_, mk_] [r] h' Q) from ?_)
      refine c_mark i hi9 wf cs.1 cl ch.2.2.1 (fun h1 q1 mk1 => ?_)
      have cs1 := cs_H cs (mk_H hi9 q1); have cl1 := cl_mk cl q1
      have qs1 : ∀ a, 42 ≤ a → a ≤ 70 → (a < 44 + 3 * i ∨ 46 + 3 * i < a) → rI h1 a = rI h a := fun a u v z => q1.I (fun x => sMk_f z)
      show Go (d + 5) true 132 33 [.ref 10, .int x, .int (nI (j + 1)), .int (lX e.1), mk_, mk_, mk_, mk_] [.ref (44 + 3 * i)] h1 Q
      refine exf_go 8 (show Go (d + 5) true 132 46 [.ref 10, .int x, .int (nI (j + 1)), .int (lX e.1), .ref (44 + 3 * i), .int 0, .int 0, mk_] [] (uI h1 10 17 x) Q from ?_)
      have L46 : ∀ (k46 : Nat) (z7 : Value) (n c : Nat) (h2 : Hp), (j + 1 - n) < k46 → (n ≤ j + 1) → (Fq sYr h h2) → (∀ a, 42 ≤ a → a ≤ 70 → (a < 44 + 3 * i ∨ 46 + 3 * i < a) → rI h2 a = rI h a) → (CL 39 g (yrF g e.1 x n).1 h2) → (CMK g i e.1 (yrF g e.1 x n).1 c h2) → (c ≤ n) → (rI h2 10 17 = (yrF g e.1 x n).2.1) → Go (d + 5) true 132 46 [.ref 10, .int x, .int (nI (j + 1)), .int (lX e.1), .ref (44 + 3 * i), .int (nI ((yrF g e.1 x n).2.2)), .int (nI n), z7] [] h2 Q := by
        intro k46
        induction k46 with
        | zero => intro z7 n c h2 hk; exact absurd hk (Nat.not_lt_zero _)
        | succ k46 ih46 =>
          intro z7 n c h2 hk hn q2 qs2 cl2 mk2 hcn hx2
          have cs2 := cs_yr cs q2
          have hO2 := cl2.1.2.1
          have hyl := yr_le g e.1 x n
          refine exf_go 3 (show ((nI (j + 1)) ≤ (nI n) → Go (d + 5) true 132 107 [.ref 10, .int x, .int (nI (j + 1)), .int (lX e.1), .ref (44 + 3 * i), .int (nI ((yrF g e.1 x n).2.2)), .int (nI n), z7] [] h2 Q) ∧ (¬ ((nI (j + 1)) ≤ (nI n)) → Go (d + 5) true 132 52 [.ref 10, .int x, .int (nI (j + 1)), .int (lX e.1), .ref (44 + 3 * i), .int (nI ((yrF g e.1 x n).2.2)), .int (nI n), z7] [] h2 Q) from ⟨fun c4 => ?_, fun c4 => ?_⟩)
          · skip
            have c4 : (j + 1) ≤ n := (nI_leI (a := (j + 1)) (b := n) (by omega) (by omega)).mp c4
            exact X107 (.int (nI n)) z7 n c h2 (by rw [show n = j + 1 from by omega]) q2 qs2 cl2 mk2
          · skip
            have c4 : ¬ (j + 1) ≤ n := fun q => c4 ((nI_leI (a := (j + 1)) (b := n) (by omega) (by omega)).mpr q)
            refine exf_go 3 (show Go (d + 5) true 132 59 [.ref 10, .int x, .int (nI (j + 1)), .int (lX e.1), .ref (44 + 3 * i), .int (nI ((yrF g e.1 x n).2.2)), .int (nI n), z7] [.int (rI h2 39 7)] h2 Q from ?_)
            rw [show (rI h2 39 7 : Int32) = nI (lO (yrF g e.1 x n).1) from cl_O cl2]
            refine exf_go 1 (show (¬ (nI (lO (yrF g e.1 x n).1)) = 0 → Go (d + 5) true 132 107 [.ref 10, .int x, .int (nI (j + 1)), .int (lX e.1), .ref (44 + 3 * i), .int (nI ((yrF g e.1 x n).2.2)), .int (nI n), z7] [] h2 Q) ∧ (¬ (¬ (nI (lO (yrF g e.1 x n).1)) = 0) → Go (d + 5) true 132 62 [.ref 10, .int x, .int (nI (j + 1)), .int (lX e.1), .ref (44 + 3 * i), .int (nI ((yrF g e.1 x n).2.2)), .int (nI n), z7] [] h2 Q) from ⟨fun c5 => ?_, fun c5 => ?_⟩)
            · skip
              have c5 : ¬ (lO (yrF g e.1 x n).1) = 0 := fun q => c5 ((nI_eq (a := (lO (yrF g e.1 x n).1)) (b := 0) (by omega) (by omega)).mpr q)
              exact X107 (.int (nI n)) z7 n c h2 (yr_end (Or.inl (by omega)) (by omega)) q2 qs2 cl2 mk2
            · skip
              have c5 : (lO (yrF g e.1 x n).1) = 0 := (nI_eq (a := (lO (yrF g e.1 x n).1)) (b := 0) (by omega) (by omega)).mp (Classical.not_not.mp c5)
              refine exf_go 3 (show wpC (d + 5) true 33 [.ref 39] h2 (fun r h' => Go (d + 5) true 132 69 [.ref 10, .int x, .int (nI (j + 1)), .int (lX e.1), .ref (44 + 3 * i), .int (nI ((yrF g e.1 x n).2.2)), .int (nI n), z7] [r] h' Q) from ?_)
              refine c_leftOnes cs2 cl2 ?_
              have hcc := cntN_le (lft g (yrF g e.1 x n).1) (tot g)
              show Go (d + 5) true 132 69 [.ref 10, .int x, .int (nI (j + 1)), .int (lX e.1), .ref (44 + 3 * i), .int (nI ((yrF g e.1 x n).2.2)), .int (nI n), z7] [.int (nI (cntN (lft g (yrF g e.1 x n).1) (tot g)))] h2 Q
              refine exf_go 3 (show (¬ (nI (cntN (lft g (yrF g e.1 x n).1) (tot g))) = 0 → Go (d + 5) true 132 79 [.ref 10, .int x, .int (nI (j + 1)), .int (lX e.1), .ref (44 + 3 * i), .int (nI ((yrF g e.1 x n).2.2)), .int (nI n), .int (nI (cntN (lft g (yrF g e.1 x n).1) (tot g)))] [] h2 Q) ∧ (¬ (¬ (nI (cntN (lft g (yrF g e.1 x n).1) (tot g))) = 0) → Go (d + 5) true 132 76 [.ref 10, .int x, .int (nI (j + 1)), .int (lX e.1), .ref (44 + 3 * i), .int (nI ((yrF g e.1 x n).2.2)), .int (nI n), .int (nI (cntN (lft g (yrF g e.1 x n).1) (tot g)))] [] h2 Q) from ⟨fun c6 => ?_, fun c6 => ?_⟩)
              · skip
                have c6 : ¬ (cntN (lft g (yrF g e.1 x n).1) (tot g)) = 0 := fun q => c6 ((nI_eq (a := (cntN (lft g (yrF g e.1 x n).1) (tot g))) (b := 0) (by omega) (by omega)).mpr q)
                have hgo : ¬ (lO (yrF g e.1 x n).1 = 1 ∨ cntL g (yrF g e.1 x n).1 = 0) := fun q => q.elim (fun z => by omega) (fun z => by have z : cntN (lft g (yrF g e.1 x n).1) (tot g) = 0 := z; omega)
                refine exf_go 7 (show wpC (d + 5) true 174 [.ref 10, .int (nI (cntN (lft g (yrF g e.1 x n).1) (tot g)))] h2 (fun r h' => Go (d + 5) true 132 93 [.ref 10, .int x, .int (nI (j + 1)), .int (lX e.1), .ref (44 + 3 * i), .int (nI ((yrF g e.1 x n).2.2)), .int (nI n), .int (nI (cntN (lft g (yrF g e.1 x n).1) (tot g)))] [r, .ref 31, .ref 39] h' Q) from ?_)
                refine c_draw cs2 cl2 (by omega) hx2 (fun h3 q3 hx3 => ?_)
                have hpk := pkN_b (g := g) (l := (yrF g e.1 x n).1) (show 0 < cntN (lft g (yrF g e.1 x n).1) (tot g) by omega) (yrF g e.1 x n).2.1
                show Go (d + 5) true 132 93 [.ref 10, .int x, .int (nI (j + 1)), .int (lX e.1), .ref (44 + 3 * i), .int (nI ((yrF g e.1 x n).2.2)), .int (nI n), .int (nI (cntN (lft g (yrF g e.1 x n).1) (tot g)))] [.int (nI (pkN g (yrF g e.1 x n).1 (yrF g e.1 x n).2.1)), .ref 31, .ref 39] h3 Q
                refine exf_go 2 (show wpC (d + 5) true 34 [.ref 39, .ref 31, .int (nI (pkN g (yrF g e.1 x n).1 (yrF g e.1 x n).2.1)), .ref (44 + 3 * i)] h3 (fun _ h' => Go (d + 5) true 132 98 [.ref 10, .int x, .int (nI (j + 1)), .int (lX e.1), .ref (44 + 3 * i), .int (nI ((yrF g e.1 x n).2.2)), .int (nI n), .int (nI (cntN (lft g (yrF g e.1 x n).1) (tot g)))] [] h' Q) from ?_)
                refine c_attempt i hi9 (cs_yr cs2 (D_yr q3)) (cl_d cl2 q3) (mk_d mk2 q3) (n := pkN g (yrF g e.1 x n).1 (yrF g e.1 x n).2.1) (by omega) (by omega) (fun h4 c4 hc4 q4 cl4 mk4 => ?_)
                show Go (d + 5) true 132 98 [.ref 10, .int x, .int (nI (j + 1)), .int (lX e.1), .ref (44 + 3 * i), .int (nI ((yrF g e.1 x n).2.2)), .int (nI n), .int (nI (cntN (lft g (yrF g e.1 x n).1) (tot g)))] [] h4 Q
                refine exf_go 1 (show Go (d + 5) true 132 101 [.ref 10, .int x, .int (nI (j + 1)), .int (lX e.1), .ref (44 + 3 * i), .int ((nI ((yrF g e.1 x n).2.2)) + 1), .int (nI n), .int (nI (cntN (lft g (yrF g e.1 x n).1) (tot g)))] [] h4 Q from ?_)
                rw [show ((nI ((yrF g e.1 x n).2.2)) + 1 : Int32) = nI (((yrF g e.1 x n).2.2) + 1) from nI_add ((yrF g e.1 x n).2.2) 1]
                refine exf_go 1 (show Go (d + 5) true 132 104 [.ref 10, .int x, .int (nI (j + 1)), .int (lX e.1), .ref (44 + 3 * i), .int (nI (((yrF g e.1 x n).2.2) + 1)), .int ((nI n) + 1), .int (nI (cntN (lft g (yrF g e.1 x n).1) (tot g)))] [] h4 Q from ?_)
                rw [show ((nI n) + 1 : Int32) = nI (n + 1) from nI_add n 1]
                refine exf_go 1 (show Go (d + 5) true 132 46 [.ref 10, .int x, .int (nI (j + 1)), .int (lX e.1), .ref (44 + 3 * i), .int (nI (((yrF g e.1 x n).2.2) + 1)), .int (nI (n + 1)), .int (nI (cntN (lft g (yrF g e.1 x n).1) (tot g)))] [] h4 Q from ?_)
                rw [← show (yrF g e.1 x (n + 1)).2.2 = (yrF g e.1 x n).2.2 + 1 from by rw [yr_go hgo]]
                exact ih46 (.int (nI (cntN (lft g (yrF g e.1 x n).1) (tot g)))) (n + 1) c4 h4 (by omega) (by omega) ((q2.tr (D_yr q3)).tr (H_yr (lm_H hi9 q4))) (qs_lm (qs_d qs2 q3) q4) (by rw [yr_go hgo]; exact cl4) (by rw [yr_go hgo]; exact mk4) (by omega) (by rw [yr_go hgo]; exact ((q4.1 10 17 (sLm_f (by omega) (by omega))).1).trans hx3)
              · skip
                have c6 : (cntN (lft g (yrF g e.1 x n).1) (tot g)) = 0 := (nI_eq (a := (cntN (lft g (yrF g e.1 x n).1) (tot g))) (b := 0) (by omega) (by omega)).mp (Classical.not_not.mp c6)
                refine exf_go 1 (show Go (d + 5) true 132 107 [.ref 10, .int x, .int (nI (j + 1)), .int (lX e.1), .ref (44 + 3 * i), .int (nI ((yrF g e.1 x n).2.2)), .int (nI n), .int (nI (cntN (lft g (yrF g e.1 x n).1) (tot g)))] [] h2 Q from ?_)
                exact X107 (.int (nI n)) (.int (nI (cntN (lft g (yrF g e.1 x n).1) (tot g)))) n c h2 (yr_end (Or.inr (by show cntN _ _ = 0; omega)) (by omega)) q2 qs2 cl2 mk2
      exact L46 (j + 1 + 1) mk_ 0 0 _ (by omega) (by omega) (Fq.uI' (H_yr (mk_H hi9 q1)) 10 17 x rfl) (qs_d qs1 (Fq.uI' Fq.rfl' 10 17 x rfl)) (cl_d cl1 (Fq.uI' Fq.rfl' 10 17 x rfl)) (mk_d mk1 (Fq.uI' Fq.rfl' 10 17 x rfl)) (by omega) rI_uI_eq
    · skip
      have c3 : ¬ (j + 1) ≤ 30 := fun q => c3 ((nI_leI (a := (j + 1)) (b := 30) (by omega) (by omega)).mpr q)
      refine exf_go 2 (show Q (.int (-3)) h from ?_)
      exfalso; omega
theorem yn_in {y : Int32} {N : Nat} (hN : N < 2 ^ 31) (h1 : ¬ y < 1) (h2 : y ≤ nI N) (h : ixN (y - 1) N = none) : False := by
  obtain ⟨j, e, _⟩ := len_in hN h1 h2
  rw [h] at e
  cases e
theorem yn_eq {y : Int32} {N j : Nat} (hN : N < 2 ^ 31) (h : ixN (y - 1) N = some j) : y = nI (j + 1) ∧ j < N := by
  by_cases h1 : y < 1
  · rw [len_no1 hN h1] at h; cases h
  · by_cases h2 : y ≤ nI N
    · obtain ⟨j2, e, e2, e3⟩ := len_in hN h1 h2
      rw [h] at e
      cases e
      exact ⟨e2, e3⟩
    · rw [len_no2 hN h1 h2] at h; cases h
theorem c_yearN {d : Nat} {h : Hp} {x y : Int32} {Q : Po} (hn : ixN (y - 1) 30 = none) (k : Q (.int (-3)) h) : wpC (d + 6) true 132 [.ref 10, .int x, .int y] h Q := by
  refine go_in rfl ?_
  refine exf_go 3 (show (y < 1 → Go (d + 5) true 132 11 [.ref 10, .int x, .int y, mk_, mk_, mk_, mk_, mk_] [] h Q) ∧ (¬ (y < 1) → Go (d + 5) true 132 5 [.ref 10, .int x, .int y, mk_, mk_, mk_, mk_, mk_] [] h Q) from ⟨fun c1 => ?_, fun c1 => ?_⟩)
  · skip
    refine exf_go 2 (show Q (.int (-3)) h from ?_)
    exact k
  · skip
    refine exf_go 3 (show (y ≤ 30 → Go (d + 5) true 132 14 [.ref 10, .int x, .int y, mk_, mk_, mk_, mk_, mk_] [] h Q) ∧ (¬ (y ≤ 30) → Go (d + 5) true 132 11 [.ref 10, .int x, .int y, mk_, mk_, mk_, mk_, mk_] [] h Q) from ⟨fun c2 => ?_, fun c2 => ?_⟩)
    · skip
      exact (yn_in (N := 30) (by decide) c1 c2 hn).elim
    · skip
      refine exf_go 2 (show Q (.int (-3)) h from ?_)
      exact k
theorem c_year {d : Nat} {h : Hp} {g : ShG} {e : DeG} {x y : Int32} {Q : Po} (wf : WF h) (cs : CS 31 g h) (cd : CD g e h) (k : ∀ h1, Fq sYr h h1 → CD g (dYear g e x y).1 h1 → Q (.int (dYear g e x y).2) h1) : wpC (d + 6) true 132 [.ref 10, .int x, .int y] h Q := by
  cases hy : ixN (y - 1) 30 with
  | none =>
    simp only [dYear, hy] at k
    exact c_yearN hy (k _ Fq.rfl' cd)
  | some j =>
    simp only [dYear, hy] at k
    obtain ⟨e1, e2⟩ := yn_eq (by decide) hy
    subst e1
    exact c_year0 wf cs cd e2 k
theorem m_draw {d : Nat} {h : Hp} {x : Int32} {b : Nat} {Q : Po} (hx : rI h 130 24 = x) (hb : 0 < b) (hb2 : b < 2 ^ 31) (k : Q (.int (nI (drD x % b))) (uI h 130 24 (nxD x))) : wpC (d + 1) true 260 [.ref 130, .int (nI b)] h Q := by
  have hdb := drD_b x
  refine go_in rfl ?_
  refine exf_go 4 (show Go d true 260 8 [.ref 130, .int (nI b)] [.int (rI h 130 24), .int 1103515245, .ref 130] h Q from ?_)
  rw [show (rI h 130 24 : Int32) = x from hx]
  refine exf_go 3 (show Go d true 260 13 [.ref 130, .int (nI b)] [.int ((1103515245 * x) + 12345), .ref 130] h Q from ?_)
  rw [show ((1103515245 * x) + 12345 : Int32) = nxD x from rfl]
  refine exf_go 5 (show Go d true 260 23 [.ref 130, .int (nI b)] [.int (((nxD x).toUInt32 >>> ((16 : Int32).toUInt32 &&& Int32.toUInt32 31)).toInt32)] (uI h 130 24 (nxD x)) Q from ?_)
  rw [show (((nxD x).toUInt32 >>> ((16 : Int32).toUInt32 &&& Int32.toUInt32 31)).toInt32 : Int32) = nI (drD x) from us_16 x]
  refine exf_go 2 (show ¬ (nI b) = 0 ∧ (Go d true 260 25 [.ref 130, .int (nI b)] [.int ((nI (drD x)) - (nI (drD x)) / (nI b) * (nI b))] (uI h 130 24 (nxD x)) Q) from ⟨(nI_ne0 (n := b) (by omega) (by omega)), ?_⟩)
  rw [show ((nI (drD x)) - (nI (drD x)) / (nI b) * (nI b) : Int32) = nI ((drD x) % b) from pk_rem (a := (drD x)) (d := b) (by omega) (by omega) (by omega)]
  refine exf_go 1 (show Q (.int (nI ((drD x) % b))) (uI h 130 24 (nxD x)) from ?_)
  exact k
theorem m_byN {d : Nat} {h : Hp} {g : ShG} {l : LkG} {j : Nat} {Q : Po} (ms : MS g l h) (mw : MW g (evr g) h) (hj : j < cntN (lft g l) (tot g)) (k : Q (.int (nI (byN g l j))) h) : wpC (d + 4) true 261 [.ref 130, .int (nI j)] h Q := by
  have hN := tot_b ms.1.1
  have hcc := cntN_le (lft g l) (tot g)
  refine go_in rfl ?_
  refine exf_go 4 (show Go (d + 3) true 261 4 [.ref 130, .int (nI j), .int 0, .int (nI j)] [] h Q from ?_)
  have L4 : ∀ (k4 : Nat) (n s : Nat), (tot g - n) < k4 → (s + cntN (lft g l) n = j) → Go (d + 3) true 261 4 [.ref 130, .int (nI j), .int (nI n), .int (nI s)] [] h Q := by
    intro k4
    induction k4 with
    | zero => intro n s hk; exact absurd hk (Nat.not_lt_zero _)
    | succ k4 ih4 =>
      intro n s hk hs
      have hnt : n < tot g := Nat.lt_of_not_le (fun q => by have := cnt_up (lft g l) q; omega)
      refine exf_go 4 (show wpC (d + 3) true 226 [.ref 130, .int (nI n), .int 1] h (fun r h' => Go (d + 3) true 261 10 [.ref 130, .int (nI j), .int (nI n), .int (nI s)] [r] h' Q) from ?_)
      refine m_isLeft1 ms mw (by omega) (fun b1 => ?_) (fun b1 => ?_)
      · skip
        rw [elg_lft ms.1.1 ms.1.2] at b1
        have hzb1 : b2n (lft g l n) = 1 := by rw [b1]; rfl
        show Go (d + 3) true 261 10 [.ref 130, .int (nI j), .int (nI n), .int (nI s)] [.int 1] h Q
        refine exf_go 1 (show ((1 : Int32) = 0 → Go (d + 3) true 261 17 [.ref 130, .int (nI j), .int (nI n), .int (nI s)] [] h Q) ∧ (¬ ((1 : Int32) = 0) → Go (d + 3) true 261 13 [.ref 130, .int (nI j), .int (nI n), .int (nI s)] [] h Q) from ⟨fun c2 => ?_, fun c2 => ?_⟩)
        · skip
          exact absurd c2 (by decide)
        · skip
          refine exf_go 2 (show ((nI s) ≤ 0 → Go (d + 3) true 261 40 [.ref 130, .int (nI j), .int (nI n), .int (nI s)] [] h Q) ∧ (¬ ((nI s) ≤ 0) → Go (d + 3) true 261 17 [.ref 130, .int (nI j), .int (nI n), .int (nI s)] [] h Q) from ⟨fun c3 => ?_, fun c3 => ?_⟩)
          · skip
            have c3 : s ≤ 0 := (nI_leI (a := s) (b := 0) (by omega) (by omega)).mp c3
            refine exf_go 2 (show Q (.int (nI n)) h from ?_)
            have e := byN_at (g := g) (l := l) (n := n) (by omega) (by assumption)
            rw [show cntN (lft g l) n = j from by omega] at e
            rw [e] at k; exact k
          · skip
            have c3 : ¬ s ≤ 0 := fun q => c3 ((nI_leI (a := s) (b := 0) (by omega) (by omega)).mpr q)
            refine exf_go 5 (show wpC (d + 3) true 226 [.ref 130, .int (nI n), .int 1] h (fun r h' => Go (d + 3) true 261 24 [.ref 130, .int (nI j), .int (nI n), .int (nI s)] [r, .int (nI s)] h' Q) from ?_)
            refine m_isLeft1 ms mw (by omega) (fun b4 => ?_) (fun b4 => ?_)
            · skip
              rw [elg_lft ms.1.1 ms.1.2] at b4
              have hzb4 : b2n (lft g l n) = 1 := by rw [b4]; rfl
              show Go (d + 3) true 261 24 [.ref 130, .int (nI j), .int (nI n), .int (nI s)] [.int 1, .int (nI s)] h Q
              refine exf_go 1 (show ((1 : Int32) = 0 → Go (d + 3) true 261 31 [.ref 130, .int (nI j), .int (nI n), .int (nI s)] [.int (nI s)] h Q) ∧ (¬ ((1 : Int32) = 0) → Go (d + 3) true 261 27 [.ref 130, .int (nI j), .int (nI n), .int (nI s)] [.int (nI s)] h Q) from ⟨fun c5 => ?_, fun c5 => ?_⟩)
              · skip
                exact absurd c5 (by decide)
              · skip
                refine exf_go 3 (show Go (d + 3) true 261 33 [.ref 130, .int (nI j), .int (nI n), .int (nI s)] [.int ((nI s) - 1)] h Q from ?_)
                rw [show ((nI s) - 1 : Int32) = nI (s - 1) from pk_sub (a := s) (b := 1) (by omega)]
                refine exf_go 2 (show Go (d + 3) true 261 37 [.ref 130, .int (nI j), .int ((nI n) + 1), .int (nI (s - 1))] [] h Q from ?_)
                rw [show ((nI n) + 1 : Int32) = nI (n + 1) from nI_add n 1]
                refine exf_go 1 (show Go (d + 3) true 261 4 [.ref 130, .int (nI j), .int (nI (n + 1)), .int (nI (s - 1))] [] h Q from ?_)
                exact ih4 (n + 1) (s - 1) (by omega) (by first | (rw [← cn_y (p := lft g l) rfl (by assumption)]; omega) | (rw [← cn_n (p := lft g l) rfl (by assumption)]; omega))
            · skip
              rw [elg_lft ms.1.1 ms.1.2] at b4
              have hzb4 : b2n (lft g l n) = 0 := by rw [b4]; rfl
              show Go (d + 3) true 261 24 [.ref 130, .int (nI j), .int (nI n), .int (nI s)] [.int 0, .int (nI s)] h Q
              refine exf_go 1 (show ((0 : Int32) = 0 → Go (d + 3) true 261 31 [.ref 130, .int (nI j), .int (nI n), .int (nI s)] [.int (nI s)] h Q) ∧ (¬ ((0 : Int32) = 0) → Go (d + 3) true 261 27 [.ref 130, .int (nI j), .int (nI n), .int (nI s)] [.int (nI s)] h Q) from ⟨fun c6 => ?_, fun c6 => ?_⟩)
              · skip
                refine exf_go 2 (show Go (d + 3) true 261 33 [.ref 130, .int (nI j), .int (nI n), .int (nI s)] [.int ((nI s) - 0)] h Q from ?_)
                rw [show ((nI s) - 0 : Int32) = nI (s - 0) from pk_sub (a := s) (b := 0) (by omega)]
                refine exf_go 2 (show Go (d + 3) true 261 37 [.ref 130, .int (nI j), .int ((nI n) + 1), .int (nI (s - 0))] [] h Q from ?_)
                rw [show ((nI n) + 1 : Int32) = nI (n + 1) from nI_add n 1]
                refine exf_go 1 (show Go (d + 3) true 261 4 [.ref 130, .int (nI j), .int (nI (n + 1)), .int (nI (s - 0))] [] h Q from ?_)
                exact ih4 (n + 1) (s - 0) (by omega) (by first | (rw [← cn_y (p := lft g l) rfl (by assumption)]; omega) | (rw [← cn_n (p := lft g l) rfl (by assumption)]; omega))
              · skip
                exact absurd (by decide) c6
      · skip
        rw [elg_lft ms.1.1 ms.1.2] at b1
        have hzb1 : b2n (lft g l n) = 0 := by rw [b1]; rfl
        show Go (d + 3) true 261 10 [.ref 130, .int (nI j), .int (nI n), .int (nI s)] [.int 0] h Q
        refine exf_go 1 (show ((0 : Int32) = 0 → Go (d + 3) true 261 17 [.ref 130, .int (nI j), .int (nI n), .int (nI s)] [] h Q) ∧ (¬ ((0 : Int32) = 0) → Go (d + 3) true 261 13 [.ref 130, .int (nI j), .int (nI n), .int (nI s)] [] h Q) from ⟨fun c7 => ?_, fun c7 => ?_⟩)
        · skip
          refine exf_go 5 (show wpC (d + 3) true 226 [.ref 130, .int (nI n), .int 1] h (fun r h' => Go (d + 3) true 261 24 [.ref 130, .int (nI j), .int (nI n), .int (nI s)] [r, .int (nI s)] h' Q) from ?_)
          refine m_isLeft1 ms mw (by omega) (fun b8 => ?_) (fun b8 => ?_)
          · skip
            rw [elg_lft ms.1.1 ms.1.2] at b8
            have hzb8 : b2n (lft g l n) = 1 := by rw [b8]; rfl
            show Go (d + 3) true 261 24 [.ref 130, .int (nI j), .int (nI n), .int (nI s)] [.int 1, .int (nI s)] h Q
            refine exf_go 1 (show ((1 : Int32) = 0 → Go (d + 3) true 261 31 [.ref 130, .int (nI j), .int (nI n), .int (nI s)] [.int (nI s)] h Q) ∧ (¬ ((1 : Int32) = 0) → Go (d + 3) true 261 27 [.ref 130, .int (nI j), .int (nI n), .int (nI s)] [.int (nI s)] h Q) from ⟨fun c9 => ?_, fun c9 => ?_⟩)
            · skip
              exact absurd c9 (by decide)
            · skip
              refine exf_go 3 (show Go (d + 3) true 261 33 [.ref 130, .int (nI j), .int (nI n), .int (nI s)] [.int ((nI s) - 1)] h Q from ?_)
              rw [show ((nI s) - 1 : Int32) = nI (s - 1) from pk_sub (a := s) (b := 1) (by omega)]
              refine exf_go 2 (show Go (d + 3) true 261 37 [.ref 130, .int (nI j), .int ((nI n) + 1), .int (nI (s - 1))] [] h Q from ?_)
              rw [show ((nI n) + 1 : Int32) = nI (n + 1) from nI_add n 1]
              refine exf_go 1 (show Go (d + 3) true 261 4 [.ref 130, .int (nI j), .int (nI (n + 1)), .int (nI (s - 1))] [] h Q from ?_)
              exact ih4 (n + 1) (s - 1) (by omega) (by first | (rw [← cn_y (p := lft g l) rfl (by assumption)]; omega) | (rw [← cn_n (p := lft g l) rfl (by assumption)]; omega))
          · skip
            rw [elg_lft ms.1.1 ms.1.2] at b8
            have hzb8 : b2n (lft g l n) = 0 := by rw [b8]; rfl
            show Go (d + 3) true 261 24 [.ref 130, .int (nI j), .int (nI n), .int (nI s)] [.int 0, .int (nI s)] h Q
            refine exf_go 1 (show ((0 : Int32) = 0 → Go (d + 3) true 261 31 [.ref 130, .int (nI j), .int (nI n), .int (nI s)] [.int (nI s)] h Q) ∧ (¬ ((0 : Int32) = 0) → Go (d + 3) true 261 27 [.ref 130, .int (nI j), .int (nI n), .int (nI s)] [.int (nI s)] h Q) from ⟨fun c10 => ?_, fun c10 => ?_⟩)
            · skip
              refine exf_go 2 (show Go (d + 3) true 261 33 [.ref 130, .int (nI j), .int (nI n), .int (nI s)] [.int ((nI s) - 0)] h Q from ?_)
              rw [show ((nI s) - 0 : Int32) = nI (s - 0) from pk_sub (a := s) (b := 0) (by omega)]
              refine exf_go 2 (show Go (d + 3) true 261 37 [.ref 130, .int (nI j), .int ((nI n) + 1), .int (nI (s - 0))] [] h Q from ?_)
              rw [show ((nI n) + 1 : Int32) = nI (n + 1) from nI_add n 1]
              refine exf_go 1 (show Go (d + 3) true 261 4 [.ref 130, .int (nI j), .int (nI (n + 1)), .int (nI (s - 0))] [] h Q from ?_)
              exact ih4 (n + 1) (s - 0) (by omega) (by first | (rw [← cn_y (p := lft g l) rfl (by assumption)]; omega) | (rw [← cn_n (p := lft g l) rfl (by assumption)]; omega))
            · skip
              exact absurd (by decide) c10
        · skip
          exact absurd (by decide) c7
  exact L4 (tot g + 1) 0 j (by omega) rfl
theorem md_yr {g : ShG} {e : DeG} {l : LkG} {h h2 h3 : Hp} (md : MD g e h) (hw : ∀ i, i < 321 → rI h2 141 i = rI h 131 (50 + i)) (hm : ∀ i, 371 ≤ i → i ≤ 2939 → rI h2 131 i = rI h 131 i) (ms2 : MS g l h2) (q2 : Fq sNt h2 h3) (h0 : rI h3 131 371 = nI (min 8 (e.2.1 + 1))) (h2' : ∀ j, j < 321 → rI h3 131 (blk (min 7 e.2.1) j) = rI h2 141 j) (h3' : ∀ b j, b < min 7 e.2.1 → j < 321 → rI h3 131 (blk b j) = rI h2 131 (blk (if e.2.1 = 8 then b + 1 else b) j)) : MD g (keepD e l) h3 := by
  refine ⟨ms_nt ms2 q2, ?_⟩
  refine mh_note (W := rI h2 141) md.1.1.1 md.1.1.2 md.2 (sn_cg md.1.1.1 (sn_ms md.1) (fun j hj => hw j hj)) h0 h2' (fun b j u v => ?_) l
  rw [h3' b j u v]
  exact hm _ (by unfold blk; omega) (by have := md.2.2.1; unfold blk; split <;> omega)
theorem yw_no {j : Nat} (hj : j < 30) (u : lN (j + 1) < 1 ∨ (30 : Int64) < lN (j + 1)) : False := by
  rcases u with z | z
  · exact absurd ((pk_lLT (a := j + 1) (b := 1) (by omega) (by omega)).mp z) (by omega)
  · exact absurd ((pk_lLT (a := 30) (b := j + 1) (by omega) (by omega)).mp z) (by omega)
theorem m_year0 {d : Nat} {h : Hp} {g : ShG} {e : DeG} {x : Int32} {j : Nat} {Q : Po} (md : MD g e h) (hj : j < 30) (k : ∀ h1, Fq sDe h h1 → MD g (if 0 < (yrF g e.1 x (j + 1)).2.2 then keepD e (yrF g e.1 x (j + 1)).1 else e) h1 → Q (.int (lX (yrF g e.1 x (j + 1)).1 - lX e.1)) h1) : wpC (d + 6) true 262 [.ref 130, .int x, .int (nI (j + 1))] h Q := by
  have hN := tot_b md.1.1.1
  have h4 := md.1.1.1.1
  have md0 := md
  obtain ⟨ms, mh⟩ := md
  have hm8 := mh.2.1; have hO1 := ms.1.2.2.1; have hA := ms.1.2.1
  have mdk0 := md_M md0 (h1 := uI h 130 0 0) (Fq.uI' Fq.rfl' _ _ _ rfl)
  refine go_in rfl ?_
  refine exf_go 5 (show Go (d + 5) true 262 7 [.ref 130, .int x, .int (nI (j + 1)), mk_, mk_, mk_] [.long ((nI (j + 1)).toInt64)] (uI h 130 0 0) Q from ?_)
  rw [show ((nI (j + 1)).toInt64 : Int64) = lN (j + 1) from nI_l (n := (j + 1)) (by omega)]
  refine exf_go 3 (show wpC (d + 5) true 183 [.long (lN (j + 1)), .long 1, .long 30] (uI h 130 0 0) (fun r h' => Go (d + 5) true 262 14 [.ref 130, .int x, .int (nI (j + 1)), mk_, mk_, mk_] [r] h' Q) from ?_)
  refine m_within (fun u1 v1 => ?_) (fun u1 => (yw_no hj u1).elim)
  show Go (d + 5) true 262 14 [.ref 130, .int x, .int (nI (j + 1)), mk_, mk_, mk_] [.int 1] (uI h 130 0 0) Q
  refine exf_go 1 (show (¬ (1 : Int32) = 0 → Go (d + 5) true 262 20 [.ref 130, .int x, .int (nI (j + 1)), mk_, mk_, mk_] [] (uI h 130 0 0) Q) ∧ (¬ (¬ (1 : Int32) = 0) → Go (d + 5) true 262 17 [.ref 130, .int x, .int (nI (j + 1)), mk_, mk_, mk_] [] (uI h 130 0 0) Q) from ⟨fun c1 => ?_, fun c1 => ?_⟩)
  · skip
    refine exf_go 2 (show wpC (d + 5) true 248 [.ref 130] (uI h 130 0 0) (fun _ h' => Go (d + 5) true 262 24 [.ref 130, .int x, .int (nI (j + 1)), mk_, mk_, mk_] [] h' Q) from ?_)
    have mdk := (md_M (h1 := uI h 130 0 0) md0 (Fq.uI' Fq.rfl' _ _ _ rfl))
    have qdk : Fq sDe h _ := M_D (h1 := uI h 130 0 0) (Fq.uI' Fq.rfl' _ _ _ rfl)
    refine m_keeps (fun h1 q1 hk1 => ?_)
    have ms1 := ms_fq mdk.1 (q1.mono (sAt_s (fun _ => rfl)))
    show Go (d + 5) true 262 24 [.ref 130, .int x, .int (nI (j + 1)), mk_, mk_, mk_] [] h1 Q
    refine exf_go 7 (show Go (d + 5) true 262 34 [.ref 130, .int x, .int (nI (j + 1)), .int 0, .int 0, mk_] [] (uI h1 130 24 x) Q from ?_)
    have L34 : ∀ (k34 : Nat) (z5 : Value) (n : Nat) (h2 : Hp), (j + 1 - n) < k34 → (n ≤ j + 1) → (Fq sDe h h2) → (MS g (yrF g e.1 x n).1 h2) → (rI h2 130 24 = (yrF g e.1 x n).2.1) → (∀ i, i < 321 → rI h2 141 i = rI (uI h 130 0 0) 131 (50 + i)) → (∀ i, 371 ≤ i → i ≤ 2939 → rI h2 131 i = rI (uI h 130 0 0) 131 i) → Go (d + 5) true 262 34 [.ref 130, .int x, .int (nI (j + 1)), .int (nI ((yrF g e.1 x n).2.2)), .int (nI n), z5] [] h2 Q := by
      intro k34
      induction k34 with
      | zero => intro z5 n h2 hk; exact absurd hk (Nat.not_lt_zero _)
      | succ k34 ih34 =>
        intro z5 n h2 hk hn q2 ms2 hx2 hw2 hm2
        have hO2 := ms2.1.2.2.1; have hyl := yr_le g e.1 x n
        refine exf_go 3 (show ((nI (j + 1)) ≤ (nI n) → Go (d + 5) true 262 124 [.ref 130, .int x, .int (nI (j + 1)), .int (nI ((yrF g e.1 x n).2.2)), .int (nI n), z5] [] h2 Q) ∧ (¬ ((nI (j + 1)) ≤ (nI n)) → Go (d + 5) true 262 40 [.ref 130, .int x, .int (nI (j + 1)), .int (nI ((yrF g e.1 x n).2.2)), .int (nI n), z5] [] h2 Q) from ⟨fun c2 => ?_, fun c2 => ?_⟩)
        · skip
          have c2 : (j + 1) ≤ n := (nI_leI (a := (j + 1)) (b := n) (by omega) (by omega)).mp c2
          refine exf_go 2 (show ((nI ((yrF g e.1 x n).2.2)) ≤ 0 → Go (d + 5) true 262 132 [.ref 130, .int x, .int (nI (j + 1)), .int (nI ((yrF g e.1 x n).2.2)), .int (nI n), z5] [] h2 Q) ∧ (¬ ((nI ((yrF g e.1 x n).2.2)) ≤ 0) → Go (d + 5) true 262 128 [.ref 130, .int x, .int (nI (j + 1)), .int (nI ((yrF g e.1 x n).2.2)), .int (nI n), z5] [] h2 Q) from ⟨fun c3 => ?_, fun c3 => ?_⟩)
          · skip
            have c3 : ((yrF g e.1 x n).2.2) ≤ 0 := (nI_leI (a := ((yrF g e.1 x n).2.2)) (b := 0) (by omega) (by omega)).mp c3
            refine exf_go 4 (show vp_in 51 41523 ∧ (Go (d + 5) true 262 139 [.ref 130, .int x, .int (nI (j + 1)), .int (nI ((yrF g e.1 x n).2.2)), .int (nI n), z5] [.int (rI h2 131 51)] h2 Q) from ⟨(vp_in_nI (n := 51) (by decide) (by decide)), ?_⟩)
            rw [show (rI h2 131 51 : Int32) = lX (yrF g e.1 x n).1 from ms_X ms2]
            refine exf_go 4 (show vp_in 1 321 ∧ (Go (d + 5) true 262 145 [.ref 130, .int x, .int (nI (j + 1)), .int (nI ((yrF g e.1 x n).2.2)), .int (nI n), z5] [.int (rI h2 141 1), .int (lX (yrF g e.1 x n).1)] h2 Q) from ⟨(vp_in_nI (n := 1) (by decide) (by decide)), ?_⟩)
            rw [show (rI h2 141 1 : Int32) = lX e.1 from (hw2 1 (by decide)).trans (ms_X mdk0.1)]
            refine exf_go 2 (show Q (.int ((lX (yrF g e.1 x n).1) - (lX e.1))) h2 from ?_)
            rw [← show n = j + 1 from by omega] at k
            rw [if_neg (by omega)] at k
            rw [yr_0 g e.1 x n (by omega)] at ms2 k ⊢
            exact k _ q2 ⟨ms2, mh_D ms2.1.1 mdk0.2 hm2⟩
          · skip
            have c3 : ¬ ((yrF g e.1 x n).2.2) ≤ 0 := fun q => c3 ((nI_leI (a := ((yrF g e.1 x n).2.2)) (b := 0) (by omega) (by omega)).mpr q)
            refine exf_go 2 (show wpC (d + 5) true 250 [.ref 130] h2 (fun _ h' => Go (d + 5) true 262 132 [.ref 130, .int x, .int (nI (j + 1)), .int (nI ((yrF g e.1 x n).2.2)), .int (nI n), z5] [] h' Q) from ?_)
            refine m_notes ((hm2 371 (by decide) (by decide)).trans mdk0.2.1) hm8 (fun h5 q5 n0 n1 n2 => ?_)
            have md5 := md_yr mdk0 hw2 hm2 ms2 q5 n0 n1 n2
            show Go (d + 5) true 262 132 [.ref 130, .int x, .int (nI (j + 1)), .int (nI ((yrF g e.1 x n).2.2)), .int (nI n), z5] [] h5 Q
            refine exf_go 4 (show vp_in 51 41523 ∧ (Go (d + 5) true 262 139 [.ref 130, .int x, .int (nI (j + 1)), .int (nI ((yrF g e.1 x n).2.2)), .int (nI n), z5] [.int (rI h5 131 51)] h5 Q) from ⟨(vp_in_nI (n := 51) (by decide) (by decide)), ?_⟩)
            rw [show (rI h5 131 51 : Int32) = lX (yrF g e.1 x n).1 from ms_X md5.1]
            refine exf_go 4 (show vp_in 1 321 ∧ (Go (d + 5) true 262 145 [.ref 130, .int x, .int (nI (j + 1)), .int (nI ((yrF g e.1 x n).2.2)), .int (nI n), z5] [.int (rI h5 141 1), .int (lX (yrF g e.1 x n).1)] h5 Q) from ⟨(vp_in_nI (n := 1) (by decide) (by decide)), ?_⟩)
            rw [show (rI h5 141 1 : Int32) = lX e.1 from (congrFun (q5.I (a := 141) (fun _ => rfl)) 1).trans ((hw2 1 (by decide)).trans (ms_X mdk0.1))]
            refine exf_go 2 (show Q (.int ((lX (yrF g e.1 x n).1) - (lX e.1))) h5 from ?_)
            rw [← show n = j + 1 from by omega] at k
            rw [if_pos (by omega)] at k
            exact k _ (q2.tr (nt_D q5)) md5
        · skip
          have c2 : ¬ (j + 1) ≤ n := fun q => c2 ((nI_leI (a := (j + 1)) (b := n) (by omega) (by omega)).mpr q)
          refine exf_go 2 (show wpC (d + 5) true 228 [.ref 130] h2 (fun _ h' => Go (d + 5) true 262 44 [.ref 130, .int x, .int (nI (j + 1)), .int (nI ((yrF g e.1 x n).2.2)), .int (nI n), z5] [] h' Q) from ?_)
          refine m_left2 ms2 (fun h3 q3 mw3 mo3 => ?_)
          have ms3 := ms_fq ms2 (q3.mono sOrd_M); have hcc := cntN_le (lft g (yrF g e.1 x n).1) (tot g); have hx3 : rI h3 130 24 = (yrF g e.1 x n).2.1 := (q3.1 130 24 rfl).1.trans hx2; have e13 : ∀ i, i < 321 → rI h3 141 i = rI (uI h 130 0 0) 131 (50 + i) := fun i hi => by rw [q3.I (a := 141) (fun _ => rfl)]; exact hw2 i hi
          show Go (d + 5) true 262 44 [.ref 130, .int x, .int (nI (j + 1)), .int (nI ((yrF g e.1 x n).2.2)), .int (nI n), z5] [] h3 Q
          refine exf_go 4 (show vp_in 53 41523 ∧ (Go (d + 5) true 262 51 [.ref 130, .int x, .int (nI (j + 1)), .int (nI ((yrF g e.1 x n).2.2)), .int (nI n), z5] [.int (rI h3 131 53)] h3 Q) from ⟨(vp_in_nI (n := 53) (by decide) (by decide)), ?_⟩)
          rw [show (rI h3 131 53 : Int32) = nI (lO (yrF g e.1 x n).1) from ms_Op ms3]
          refine exf_go 2 (show ((nI (lO (yrF g e.1 x n).1)) = 1 → Go (d + 5) true 262 118 [.ref 130, .int x, .int (nI (j + 1)), .int (nI ((yrF g e.1 x n).2.2)), .int (nI n), z5] [] h3 Q) ∧ (¬ ((nI (lO (yrF g e.1 x n).1)) = 1) → Go (d + 5) true 262 55 [.ref 130, .int x, .int (nI (j + 1)), .int (nI ((yrF g e.1 x n).2.2)), .int (nI n), z5] [] h3 Q) from ⟨fun c4 => ?_, fun c4 => ?_⟩)
          · skip
            have c4 : (lO (yrF g e.1 x n).1) = 1 := (nI_eq (a := (lO (yrF g e.1 x n).1)) (b := 1) (by omega) (by omega)).mp c4
            refine exf_go 1 (show Go (d + 5) true 262 121 [.ref 130, .int x, .int (nI (j + 1)), .int (nI ((yrF g e.1 x n).2.2)), .int ((nI n) + 1), z5] [] h3 Q from ?_)
            rw [show ((nI n) + 1 : Int32) = nI (n + 1) from nI_add n 1]
            refine exf_go 1 (show Go (d + 5) true 262 34 [.ref 130, .int x, .int (nI (j + 1)), .int (nI ((yrF g e.1 x n).2.2)), .int (nI (n + 1)), z5] [] h3 Q from ?_)
            have hno : yrF g e.1 x (n + 1) = yrF g e.1 x n := by rw [yrF, if_pos (Or.inl (by omega))]
            rw [← hno]
            exact ih34 z5 (n + 1) h3 (by omega) (by omega) (q2.tr (ord_D q3)) (by rw [hno]; exact ms3) (by rw [hno]; exact hx3) e13 (fun i u v => ((q3.1 131 i rfl).1).trans (hm2 i u v))
          · skip
            have c4 : ¬ (lO (yrF g e.1 x n).1) = 1 := fun q => c4 ((nI_eq (a := (lO (yrF g e.1 x n).1)) (b := 1) (by omega) (by omega)).mpr q)
            refine exf_go 2 (show Go (d + 5) true 262 59 [.ref 130, .int x, .int (nI (j + 1)), .int (nI ((yrF g e.1 x n).2.2)), .int (nI n), z5] [.int (rI h3 130 22)] h3 Q from ?_)
            rw [show (rI h3 130 22 : Int32) = nI (cntN (lft g (yrF g e.1 x n).1) (tot g)) from mo3.1]
            refine exf_go 1 (show (¬ (nI (cntN (lft g (yrF g e.1 x n).1) (tot g))) = 0 → Go (d + 5) true 262 65 [.ref 130, .int x, .int (nI (j + 1)), .int (nI ((yrF g e.1 x n).2.2)), .int (nI n), z5] [] h3 Q) ∧ (¬ (¬ (nI (cntN (lft g (yrF g e.1 x n).1) (tot g))) = 0) → Go (d + 5) true 262 62 [.ref 130, .int x, .int (nI (j + 1)), .int (nI ((yrF g e.1 x n).2.2)), .int (nI n), z5] [] h3 Q) from ⟨fun c5 => ?_, fun c5 => ?_⟩)
            · skip
              have c5 : ¬ (cntN (lft g (yrF g e.1 x n).1) (tot g)) = 0 := fun q => c5 ((nI_eq (a := (cntN (lft g (yrF g e.1 x n).1) (tot g))) (b := 0) (by omega) (by omega)).mpr q)
              refine exf_go 3 (show wpC (d + 5) true 260 [.ref 130, .int 3] h3 (fun r h' => Go (d + 5) true 262 70 [.ref 130, .int x, .int (nI (j + 1)), .int (nI ((yrF g e.1 x n).2.2)), .int (nI n), z5] [r] h' Q) from ?_)
              refine m_draw (x := (yrF g e.1 x n).2.1) hx3 (b := 3) (by omega) (by omega) ?_
              show Go (d + 5) true 262 70 [.ref 130, .int x, .int (nI (j + 1)), .int (nI ((yrF g e.1 x n).2.2)), .int (nI n), z5] [.int (nI (drD (yrF g e.1 x n).2.1 % 3))] (uI h3 130 24 (nxD (yrF g e.1 x n).2.1)) Q
              refine exf_go 4 (show (¬ (nI (drD (yrF g e.1 x n).2.1 % 3)) = 0 → Go (d + 5) true 262 87 [.ref 130, .int x, .int (nI (j + 1)), .int (nI ((yrF g e.1 x n).2.2)), .int (nI n), .int (nI (drD (yrF g e.1 x n).2.1 % 3))] [.ref 130] (uI h3 130 24 (nxD (yrF g e.1 x n).2.1)) Q) ∧ (¬ (¬ (nI (drD (yrF g e.1 x n).2.1 % 3)) = 0) → Go (d + 5) true 262 78 [.ref 130, .int x, .int (nI (j + 1)), .int (nI ((yrF g e.1 x n).2.2)), .int (nI n), .int (nI (drD (yrF g e.1 x n).2.1 % 3))] [.ref 130] (uI h3 130 24 (nxD (yrF g e.1 x n).2.1)) Q) from ⟨fun c6 => ?_, fun c6 => ?_⟩)
              · skip
                have c6 : ¬ (drD (yrF g e.1 x n).2.1 % 3) = 0 := fun q => c6 ((nI_eq (a := (drD (yrF g e.1 x n).2.1 % 3)) (b := 0) (by omega) (by omega)).mpr q)
                refine exf_go 3 (show (¬ (nI (drD (yrF g e.1 x n).2.1 % 3)) = 1 → Go (d + 5) true 262 108 [.ref 130, .int x, .int (nI (j + 1)), .int (nI ((yrF g e.1 x n).2.2)), .int (nI n), .int (nI (drD (yrF g e.1 x n).2.1 % 3))] [.ref 130] (uI h3 130 24 (nxD (yrF g e.1 x n).2.1)) Q) ∧ (¬ (¬ (nI (drD (yrF g e.1 x n).2.1 % 3)) = 1) → Go (d + 5) true 262 93 [.ref 130, .int x, .int (nI (j + 1)), .int (nI ((yrF g e.1 x n).2.2)), .int (nI n), .int (nI (drD (yrF g e.1 x n).2.1 % 3))] [.ref 130] (uI h3 130 24 (nxD (yrF g e.1 x n).2.1)) Q) from ⟨fun c7 => ?_, fun c7 => ?_⟩)
                · skip
                  have c7 : ¬ (drD (yrF g e.1 x n).2.1 % 3) = 1 := fun q => c7 ((nI_eq (a := (drD (yrF g e.1 x n).2.1 % 3)) (b := 1) (by omega) (by omega)).mpr q)
                  refine exf_go 2 (show wpC (d + 5) true 264 [.ref 130] (uI h3 130 24 (nxD (yrF g e.1 x n).2.1)) (fun r h' => Go (d + 5) true 262 112 [.ref 130, .int x, .int (nI (j + 1)), .int (nI ((yrF g e.1 x n).2.2)), .int (nI n), .int (nI (drD (yrF g e.1 x n).2.1 % 3))] [r, .ref 130] h' Q) from ?_)
                  refine m_nearestOf (ms_fq ms3 (Fq.uI' Fq.rfl' _ _ _ rfl)) (mw_fq mw3 rfl) ?_
                  rw [(nrN_e (l := (yrF g e.1 x n).1) (show 0 < cntN (lft g (yrF g e.1 x n).1) (tot g) from by omega)).1]
                  show Go (d + 5) true 262 112 [.ref 130, .int x, .int (nI (j + 1)), .int (nI ((yrF g e.1 x n).2.2)), .int (nI n), .int (nI (drD (yrF g e.1 x n).2.1 % 3))] [.int (nI (nrN g (yrF g e.1 x n).1)), .ref 130] (uI h3 130 24 (nxD (yrF g e.1 x n).2.1)) Q
                  refine exf_go 1 (show wpC (d + 5) true 252 [.ref 130, .int (nI (nrN g (yrF g e.1 x n).1))] (uI h3 130 24 (nxD (yrF g e.1 x n).2.1)) (fun _ h' => Go (d + 5) true 262 115 [.ref 130, .int x, .int (nI (j + 1)), .int (nI ((yrF g e.1 x n).2.2)), .int (nI n), .int (nI (drD (yrF g e.1 x n).2.1 % 3))] [] h' Q) from ?_)
                  have ea : pkX (yrF g e.1 x n).2.1 = nxD (yrF g e.1 x n).2.1 := by unfold pkX; rw [if_neg (by omega)]
                  have eb : pkN g (yrF g e.1 x n).1 (yrF g e.1 x n).2.1 = nrN g (yrF g e.1 x n).1 := by unfold pkN; rw [if_neg (by omega), if_neg (by omega)]
                  have hpk := pkN_b (g := g) (l := (yrF g e.1 x n).1) (show 0 < cntN (lft g (yrF g e.1 x n).1) (tot g) by omega) (yrF g e.1 x n).2.1
                  have hgo : ¬ (lO (yrF g e.1 x n).1 = 1 ∨ cntL g (yrF g e.1 x n).1 = 0) := fun q => q.elim (fun z => by omega) (fun z => by have z : cntN (lft g (yrF g e.1 x n).1) (tot g) = 0 := z; omega)
                  refine m_goesTo (ms_fq ms3 (Fq.uI' Fq.rfl' _ _ _ rfl)) (n := (nrN g (yrF g e.1 x n).1)) (by omega) (fun h4 q4 ms4 => ?_)
                  show Go (d + 5) true 262 115 [.ref 130, .int x, .int (nI (j + 1)), .int (nI ((yrF g e.1 x n).2.2)), .int (nI n), .int (nI (drD (yrF g e.1 x n).2.1 % 3))] [] h4 Q
                  refine exf_go 1 (show Go (d + 5) true 262 118 [.ref 130, .int x, .int (nI (j + 1)), .int ((nI ((yrF g e.1 x n).2.2)) + 1), .int (nI n), .int (nI (drD (yrF g e.1 x n).2.1 % 3))] [] h4 Q from ?_)
                  rw [show ((nI ((yrF g e.1 x n).2.2)) + 1 : Int32) = nI (((yrF g e.1 x n).2.2) + 1) from nI_add ((yrF g e.1 x n).2.2) 1]
                  refine exf_go 1 (show Go (d + 5) true 262 121 [.ref 130, .int x, .int (nI (j + 1)), .int (nI (((yrF g e.1 x n).2.2) + 1)), .int ((nI n) + 1), .int (nI (drD (yrF g e.1 x n).2.1 % 3))] [] h4 Q from ?_)
                  rw [show ((nI n) + 1 : Int32) = nI (n + 1) from nI_add n 1]
                  refine exf_go 1 (show Go (d + 5) true 262 34 [.ref 130, .int x, .int (nI (j + 1)), .int (nI (((yrF g e.1 x n).2.2) + 1)), .int (nI (n + 1)), .int (nI (drD (yrF g e.1 x n).2.1 % 3))] [] h4 Q from ?_)
                  rw [← show (yrF g e.1 x (n + 1)).2.2 = (yrF g e.1 x n).2.2 + 1 from by rw [yr_go hgo]]
                  exact ih34 (.int (nI (drD (yrF g e.1 x n).2.1 % 3))) (n + 1) h4 (by omega) (by omega) ((q2.tr (ord_D q3)).tr ((M_D (h1 := uI h3 130 24 (nxD (yrF g e.1 x n).2.1)) (Fq.uI' Fq.rfl' _ _ _ rfl)).tr (go_D q4))) (by rw [yr_go hgo, eb]; exact ms4) (by rw [yr_go hgo, ea]; exact ((q4.1 130 24 (sGo_ne (by decide))).1).trans rI_uI_eq) (fun i hi => by rw [q4.I (a := 141) (fun _ => sGo_ne (by decide))]; exact e13 i hi) (fun i u v => ((q4.1 131 i (sGo_f (by omega))).1).trans (((q3.1 131 i rfl).1).trans (hm2 i u v)))
                · skip
                  have c7 : (drD (yrF g e.1 x n).2.1 % 3) = 1 := (nI_eq (a := (drD (yrF g e.1 x n).2.1 % 3)) (b := 1) (by omega) (by omega)).mp (Classical.not_not.mp c7)
                  refine exf_go 4 (show Go (d + 5) true 262 99 [.ref 130, .int x, .int (nI (j + 1)), .int (nI ((yrF g e.1 x n).2.2)), .int (nI n), .int (nI (drD (yrF g e.1 x n).2.1 % 3))] [.int (rI h3 130 22), .ref 130, .ref 130, .ref 130] (uI h3 130 24 (nxD (yrF g e.1 x n).2.1)) Q from ?_)
                  rw [show (rI h3 130 22 : Int32) = nI (cntN (lft g (yrF g e.1 x n).1) (tot g)) from mo3.1]
                  refine exf_go 1 (show wpC (d + 5) true 260 [.ref 130, .int (nI (cntN (lft g (yrF g e.1 x n).1) (tot g)))] (uI h3 130 24 (nxD (yrF g e.1 x n).2.1)) (fun r h' => Go (d + 5) true 262 102 [.ref 130, .int x, .int (nI (j + 1)), .int (nI ((yrF g e.1 x n).2.2)), .int (nI n), .int (nI (drD (yrF g e.1 x n).2.1 % 3))] [r, .ref 130, .ref 130] h' Q) from ?_)
                  refine m_draw (x := (nxD (yrF g e.1 x n).2.1)) rI_uI_eq (b := (cntN (lft g (yrF g e.1 x n).1) (tot g))) (by omega) (by omega) ?_
                  show Go (d + 5) true 262 102 [.ref 130, .int x, .int (nI (j + 1)), .int (nI ((yrF g e.1 x n).2.2)), .int (nI n), .int (nI (drD (yrF g e.1 x n).2.1 % 3))] [.int (nI (drD (nxD (yrF g e.1 x n).2.1) % (cntN (lft g (yrF g e.1 x n).1) (tot g)))), .ref 130, .ref 130] (uI (uI h3 130 24 (nxD (yrF g e.1 x n).2.1)) 130 24 (nxD (nxD (yrF g e.1 x n).2.1))) Q
                  refine exf_go 1 (show wpC (d + 5) true 261 [.ref 130, .int (nI (drD (nxD (yrF g e.1 x n).2.1) % (cntN (lft g (yrF g e.1 x n).1) (tot g))))] (uI (uI h3 130 24 (nxD (yrF g e.1 x n).2.1)) 130 24 (nxD (nxD (yrF g e.1 x n).2.1))) (fun r h' => Go (d + 5) true 262 105 [.ref 130, .int x, .int (nI (j + 1)), .int (nI ((yrF g e.1 x n).2.2)), .int (nI n), .int (nI (drD (yrF g e.1 x n).2.1 % 3))] [r, .ref 130] h' Q) from ?_)
                  refine m_byN (ms_fq ms3 (Fq.uI' (Fq.uI' Fq.rfl' _ _ _ rfl) _ _ _ rfl)) (mw_fq mw3 rfl) (j := (drD (nxD (yrF g e.1 x n).2.1) % (cntN (lft g (yrF g e.1 x n).1) (tot g)))) (Nat.mod_lt _ (by omega)) ?_
                  show Go (d + 5) true 262 105 [.ref 130, .int x, .int (nI (j + 1)), .int (nI ((yrF g e.1 x n).2.2)), .int (nI n), .int (nI (drD (yrF g e.1 x n).2.1 % 3))] [.int (nI (byN g (yrF g e.1 x n).1 (drD (nxD (yrF g e.1 x n).2.1) % (cntN (lft g (yrF g e.1 x n).1) (tot g))))), .ref 130] (uI (uI h3 130 24 (nxD (yrF g e.1 x n).2.1)) 130 24 (nxD (nxD (yrF g e.1 x n).2.1))) Q
                  refine exf_go 2 (show wpC (d + 5) true 252 [.ref 130, .int (nI (byN g (yrF g e.1 x n).1 (drD (nxD (yrF g e.1 x n).2.1) % (cntN (lft g (yrF g e.1 x n).1) (tot g)))))] (uI (uI h3 130 24 (nxD (yrF g e.1 x n).2.1)) 130 24 (nxD (nxD (yrF g e.1 x n).2.1))) (fun _ h' => Go (d + 5) true 262 115 [.ref 130, .int x, .int (nI (j + 1)), .int (nI ((yrF g e.1 x n).2.2)), .int (nI n), .int (nI (drD (yrF g e.1 x n).2.1 % 3))] [] h' Q) from ?_)
                  have ea : pkX (yrF g e.1 x n).2.1 = nxD (nxD (yrF g e.1 x n).2.1) := by unfold pkX; rw [if_pos (by omega)]
                  have eb : pkN g (yrF g e.1 x n).1 (yrF g e.1 x n).2.1 = byN g (yrF g e.1 x n).1 (drD (nxD (yrF g e.1 x n).2.1) % (cntN (lft g (yrF g e.1 x n).1) (tot g))) := by unfold pkN; rw [if_neg (by omega), if_pos (by omega)]; rfl
                  have hpk := pkN_b (g := g) (l := (yrF g e.1 x n).1) (show 0 < cntN (lft g (yrF g e.1 x n).1) (tot g) by omega) (yrF g e.1 x n).2.1
                  have hgo : ¬ (lO (yrF g e.1 x n).1 = 1 ∨ cntL g (yrF g e.1 x n).1 = 0) := fun q => q.elim (fun z => by omega) (fun z => by have z : cntN (lft g (yrF g e.1 x n).1) (tot g) = 0 := z; omega)
                  refine m_goesTo (ms_fq ms3 (Fq.uI' (Fq.uI' Fq.rfl' _ _ _ rfl) _ _ _ rfl)) (n := (byN g (yrF g e.1 x n).1 (drD (nxD (yrF g e.1 x n).2.1) % (cntN (lft g (yrF g e.1 x n).1) (tot g))))) (by omega) (fun h4 q4 ms4 => ?_)
                  show Go (d + 5) true 262 115 [.ref 130, .int x, .int (nI (j + 1)), .int (nI ((yrF g e.1 x n).2.2)), .int (nI n), .int (nI (drD (yrF g e.1 x n).2.1 % 3))] [] h4 Q
                  refine exf_go 1 (show Go (d + 5) true 262 118 [.ref 130, .int x, .int (nI (j + 1)), .int ((nI ((yrF g e.1 x n).2.2)) + 1), .int (nI n), .int (nI (drD (yrF g e.1 x n).2.1 % 3))] [] h4 Q from ?_)
                  rw [show ((nI ((yrF g e.1 x n).2.2)) + 1 : Int32) = nI (((yrF g e.1 x n).2.2) + 1) from nI_add ((yrF g e.1 x n).2.2) 1]
                  refine exf_go 1 (show Go (d + 5) true 262 121 [.ref 130, .int x, .int (nI (j + 1)), .int (nI (((yrF g e.1 x n).2.2) + 1)), .int ((nI n) + 1), .int (nI (drD (yrF g e.1 x n).2.1 % 3))] [] h4 Q from ?_)
                  rw [show ((nI n) + 1 : Int32) = nI (n + 1) from nI_add n 1]
                  refine exf_go 1 (show Go (d + 5) true 262 34 [.ref 130, .int x, .int (nI (j + 1)), .int (nI (((yrF g e.1 x n).2.2) + 1)), .int (nI (n + 1)), .int (nI (drD (yrF g e.1 x n).2.1 % 3))] [] h4 Q from ?_)
                  rw [← show (yrF g e.1 x (n + 1)).2.2 = (yrF g e.1 x n).2.2 + 1 from by rw [yr_go hgo]]
                  exact ih34 (.int (nI (drD (yrF g e.1 x n).2.1 % 3))) (n + 1) h4 (by omega) (by omega) ((q2.tr (ord_D q3)).tr ((M_D (h1 := uI (uI h3 130 24 (nxD (yrF g e.1 x n).2.1)) 130 24 (nxD (nxD (yrF g e.1 x n).2.1))) (Fq.uI' (Fq.uI' Fq.rfl' _ _ _ rfl) _ _ _ rfl)).tr (go_D q4))) (by rw [yr_go hgo, eb]; exact ms4) (by rw [yr_go hgo, ea]; exact ((q4.1 130 24 (sGo_ne (by decide))).1).trans rI_uI_eq) (fun i hi => by rw [q4.I (a := 141) (fun _ => sGo_ne (by decide))]; exact e13 i hi) (fun i u v => ((q4.1 131 i (sGo_f (by omega))).1).trans (((q3.1 131 i rfl).1).trans (hm2 i u v)))
              · skip
                have c6 : (drD (yrF g e.1 x n).2.1 % 3) = 0 := (nI_eq (a := (drD (yrF g e.1 x n).2.1 % 3)) (b := 0) (by omega) (by omega)).mp (Classical.not_not.mp c6)
                refine exf_go 4 (show vp_in 0 10000 ∧ (Go (d + 5) true 262 84 [.ref 130, .int x, .int (nI (j + 1)), .int (nI ((yrF g e.1 x n).2.2)), .int (nI n), .int (nI (drD (yrF g e.1 x n).2.1 % 3))] [.int (rI h3 140 0), .ref 130] (uI h3 130 24 (nxD (yrF g e.1 x n).2.1)) Q) from ⟨(vp_in_nI (n := 0) (by decide) (by decide)), ?_⟩)
                rw [show (rI h3 140 0 : Int32) = nI (ordOf h3 0) from mo_at ms2.1.1 mo3 (k := 0) (by omega)]
                refine exf_go 2 (show wpC (d + 5) true 252 [.ref 130, .int (nI (ordOf h3 0))] (uI h3 130 24 (nxD (yrF g e.1 x n).2.1)) (fun _ h' => Go (d + 5) true 262 115 [.ref 130, .int x, .int (nI (j + 1)), .int (nI ((yrF g e.1 x n).2.2)), .int (nI n), .int (nI (drD (yrF g e.1 x n).2.1 % 3))] [] h' Q) from ?_)
                have ea : pkX (yrF g e.1 x n).2.1 = nxD (yrF g e.1 x n).2.1 := by unfold pkX; rw [if_neg (by omega)]
                have eb : pkN g (yrF g e.1 x n).1 (yrF g e.1 x n).2.1 = ordOf h3 0 := by unfold pkN; rw [if_pos (by omega)]; exact (mo_E ms2.1.1 mo3 (by omega)).symm
                have hpk := pkN_b (g := g) (l := (yrF g e.1 x n).1) (show 0 < cntN (lft g (yrF g e.1 x n).1) (tot g) by omega) (yrF g e.1 x n).2.1
                have hgo : ¬ (lO (yrF g e.1 x n).1 = 1 ∨ cntL g (yrF g e.1 x n).1 = 0) := fun q => q.elim (fun z => by omega) (fun z => by have z : cntN (lft g (yrF g e.1 x n).1) (tot g) = 0 := z; omega)
                refine m_goesTo (ms_fq ms3 (Fq.uI' Fq.rfl' _ _ _ rfl)) (n := (ordOf h3 0)) (by omega) (fun h4 q4 ms4 => ?_)
                show Go (d + 5) true 262 115 [.ref 130, .int x, .int (nI (j + 1)), .int (nI ((yrF g e.1 x n).2.2)), .int (nI n), .int (nI (drD (yrF g e.1 x n).2.1 % 3))] [] h4 Q
                refine exf_go 1 (show Go (d + 5) true 262 118 [.ref 130, .int x, .int (nI (j + 1)), .int ((nI ((yrF g e.1 x n).2.2)) + 1), .int (nI n), .int (nI (drD (yrF g e.1 x n).2.1 % 3))] [] h4 Q from ?_)
                rw [show ((nI ((yrF g e.1 x n).2.2)) + 1 : Int32) = nI (((yrF g e.1 x n).2.2) + 1) from nI_add ((yrF g e.1 x n).2.2) 1]
                refine exf_go 1 (show Go (d + 5) true 262 121 [.ref 130, .int x, .int (nI (j + 1)), .int (nI (((yrF g e.1 x n).2.2) + 1)), .int ((nI n) + 1), .int (nI (drD (yrF g e.1 x n).2.1 % 3))] [] h4 Q from ?_)
                rw [show ((nI n) + 1 : Int32) = nI (n + 1) from nI_add n 1]
                refine exf_go 1 (show Go (d + 5) true 262 34 [.ref 130, .int x, .int (nI (j + 1)), .int (nI (((yrF g e.1 x n).2.2) + 1)), .int (nI (n + 1)), .int (nI (drD (yrF g e.1 x n).2.1 % 3))] [] h4 Q from ?_)
                rw [← show (yrF g e.1 x (n + 1)).2.2 = (yrF g e.1 x n).2.2 + 1 from by rw [yr_go hgo]]
                exact ih34 (.int (nI (drD (yrF g e.1 x n).2.1 % 3))) (n + 1) h4 (by omega) (by omega) ((q2.tr (ord_D q3)).tr ((M_D (h1 := uI h3 130 24 (nxD (yrF g e.1 x n).2.1)) (Fq.uI' Fq.rfl' _ _ _ rfl)).tr (go_D q4))) (by rw [yr_go hgo, eb]; exact ms4) (by rw [yr_go hgo, ea]; exact ((q4.1 130 24 (sGo_ne (by decide))).1).trans rI_uI_eq) (fun i hi => by rw [q4.I (a := 141) (fun _ => sGo_ne (by decide))]; exact e13 i hi) (fun i u v => ((q4.1 131 i (sGo_f (by omega))).1).trans (((q3.1 131 i rfl).1).trans (hm2 i u v)))
            · skip
              have c5 : (cntN (lft g (yrF g e.1 x n).1) (tot g)) = 0 := (nI_eq (a := (cntN (lft g (yrF g e.1 x n).1) (tot g))) (b := 0) (by omega) (by omega)).mp (Classical.not_not.mp c5)
              refine exf_go 2 (show Go (d + 5) true 262 121 [.ref 130, .int x, .int (nI (j + 1)), .int (nI ((yrF g e.1 x n).2.2)), .int ((nI n) + 1), z5] [] h3 Q from ?_)
              rw [show ((nI n) + 1 : Int32) = nI (n + 1) from nI_add n 1]
              refine exf_go 1 (show Go (d + 5) true 262 34 [.ref 130, .int x, .int (nI (j + 1)), .int (nI ((yrF g e.1 x n).2.2)), .int (nI (n + 1)), z5] [] h3 Q from ?_)
              have hno : yrF g e.1 x (n + 1) = yrF g e.1 x n := by rw [yrF, if_pos (Or.inr (show cntL g (yrF g e.1 x n).1 = 0 from by unfold cntL; omega))]
              rw [← hno]
              exact ih34 z5 (n + 1) h3 (by omega) (by omega) (q2.tr (ord_D q3)) (by rw [hno]; exact ms3) (by rw [hno]; exact hx3) e13 (fun i u v => ((q3.1 131 i rfl).1).trans (hm2 i u v))
    exact L34 (j + 1 + 1) mk_ 0 _ (by omega) (by omega) ((qdk.tr (q1.mono (sAt_s (fun _ => rfl)))).uI' 130 24 x rfl) (ms_fq ms1 (Fq.uI' Fq.rfl' 130 24 x rfl)) rI_uI_eq (fun i hi => hk1 i hi) (fun i u v => (q1.1 131 i rfl).1)
  · skip
    exact absurd (by decide) c1
theorem yw_nn {y : Int32} (hn : ixN (y - 1) 30 = none) (h1 : ¬ y.toInt64 < 1) (h2 : ¬ (30 : Int64) < y.toInt64) : False := yn_in (N := 30) (by decide) (lw_1 h1) (lw_2 (n := 30) (by decide) h2) hn
theorem m_yearN {d : Nat} {h : Hp} {x y : Int32} {Q : Po} (hn : ixN (y - 1) 30 = none) (k : Q (.int (-3)) (uI h 130 0 0)) : wpC (d + 6) true 262 [.ref 130, .int x, .int y] h Q := by
  refine go_in rfl ?_
  refine exf_go 8 (show wpC (d + 5) true 183 [.long y.toInt64, .long 1, .long 30] (uI h 130 0 0) (fun r h' => Go (d + 5) true 262 14 [.ref 130, .int x, .int y, mk_, mk_, mk_] [r] h' Q) from ?_)
  refine m_within (fun u1 v1 => (yw_nn hn u1 v1).elim) (fun u1 => ?_)
  show Go (d + 5) true 262 14 [.ref 130, .int x, .int y, mk_, mk_, mk_] [.int 0] (uI h 130 0 0) Q
  refine exf_go 1 (show (¬ (0 : Int32) = 0 → Go (d + 5) true 262 20 [.ref 130, .int x, .int y, mk_, mk_, mk_] [] (uI h 130 0 0) Q) ∧ (¬ (¬ (0 : Int32) = 0) → Go (d + 5) true 262 17 [.ref 130, .int x, .int y, mk_, mk_, mk_] [] (uI h 130 0 0) Q) from ⟨fun c1 => ?_, fun c1 => ?_⟩)
  · skip
    exact absurd c1 (by decide)
  · skip
    refine exf_go 2 (show Q (.int (-3)) (uI h 130 0 0) from ?_)
    exact k
theorem m_year {d : Nat} {h : Hp} {g : ShG} {e : DeG} {x y : Int32} {Q : Po} (md : MD g e h) (k : ∀ h1, Fq sDe h h1 → MD g (dYear g e x y).1 h1 → Q (.int (dYear g e x y).2) h1) : wpC (d + 6) true 262 [.ref 130, .int x, .int y] h Q := by
  cases hy : ixN (y - 1) 30 with
  | none =>
    simp only [dYear, hy] at k
    exact m_yearN hy (k _ (M_D (Fq.uI' Fq.rfl' 130 0 0 rfl)) (md_M md (Fq.uI' Fq.rfl' 130 0 0 rfl)))
  | some j =>
    simp only [dYear, hy] at k
    obtain ⟨e1, e2⟩ := yn_eq (by decide) hy
    subst e1
    exact m_year0 md e2 k
