/-! The model: rows by their seconds. -/
def stU (g : ShG) (R : Nat → Nat) (s n c : Nat) : Nat := sumN (fun m => if trn g m c = s then R m else 0) n
theorem st_y {g : ShG} {R : Nat → Nat} {s n c : Nat} (h : trn g n c = s) : stU g R s n c + R n = stU g R s (n + 1) c := by unfold stU; rw [sumN, if_pos h]
theorem st_n {g : ShG} {R : Nat → Nat} {s n c : Nat} (h : ¬ trn g n c = s) : stU g R s n c = stU g R s (n + 1) c := by unfold stU; rw [sumN, if_neg h, Nat.add_zero]
theorem st_0 {g : ShG} {R : Nat → Nat} {s n c : Nat} (h : R n = 0) : stU g R s n c = stU g R s (n + 1) c := by unfold stU; rw [sumN, h, ite_self, Nat.add_zero]
theorem m_goesOn {d : Nat} {h : Hp} {g : ShG} {l : LkG} {R : Nat → Nat} {s : Nat} {Q : Po} (ms : MS g l h) (mh : MHV g (aft g (sW g - 2)) h) (hR : ∀ x, x < tot g → rJ h 147 x = lN (R x)) (hRb : ∀ x, R x ≤ 10000) (hs : s < 1000) (k : ∀ h1, Fq scM h h1 → MHV g (aft g (sW g - 2)) h1 → (∀ x, x < tot g → rJ h1 147 x = lN (stU g R s (tot g) x)) → Q mk_ h1) : wpC (d + 2) true 288 [.ref 130, .long (lN s)] h Q := by
  have htb := tot_b ms.1.1
  refine go_in rfl ?_
  refine exf_go 2 (show Go (d + 1) true 288 2 [.ref 130, .long (lN s), mk_, .int 0, mk_] [] h Q from ?_)
  have L2 : ∀ (k2 : Nat) (n : Nat) (h1 : Hp), (tot g - n) < k2 → (n ≤ tot g) → (Fq scM h h1) → (MHV g (aft g (sW g - 2)) h1) → (∀ x, x < tot g → rJ h1 147 x = lN (R x)) → (∀ x, x < n → rJ h1 148 x = lN (stU g R s 0 x)) → Go (d + 1) true 288 2 [.ref 130, .long (lN s), mk_, .int (nI n), mk_] [] h1 Q := by
    intro k2
    induction k2 with
    | zero => intro n h1 hk; exact absurd hk (Nat.not_lt_zero _)
    | succ k2 ih2 =>
      intro n h1 hk hn q1 mh1 hR1 hZ
      have ms1 := ms_fq ms q1
      refine exf_go 5 (show vp_in 4 41523 ∧ (Go (d + 1) true 288 9 [.ref 130, .long (lN s), mk_, .int (nI n), mk_] [.int (rI h1 131 4), .int (nI n)] h1 Q) from ⟨(vp_in_nI (n := 4) (by decide) (by decide)), ?_⟩)
      rw [show (rI h1 131 4 : Int32) = nI (tot g) from ms_N ms1]
      refine exf_go 1 (show ((nI (tot g)) ≤ (nI n) → Go (d + 1) true 288 25 [.ref 130, .long (lN s), mk_, .int (nI n), mk_] [] h1 Q) ∧ (¬ ((nI (tot g)) ≤ (nI n)) → Go (d + 1) true 288 12 [.ref 130, .long (lN s), mk_, .int (nI n), mk_] [] h1 Q) from ⟨fun c1 => ?_, fun c1 => ?_⟩)
      · skip
        have c1 : (tot g) ≤ n := (nI_leI (a := (tot g)) (b := n) (by omega) (by omega)).mp c1
        refine exf_go 2 (show Go (d + 1) true 288 27 [.ref 130, .long (lN s), mk_, .int 0, mk_] [] h1 Q from ?_)
        have L27 : ∀ (k27 : Nat) (z4 : Value) (n : Nat) (h2 : Hp), (tot g - n) < k27 → (n ≤ tot g) → (Fq scM h h2) → (MHV g (aft g (sW g - 2)) h2) → (∀ x, x < tot g → rJ h2 147 x = lN (R x)) → (∀ x, x < tot g → rJ h2 148 x = lN (stU g R s n x)) → Go (d + 1) true 288 27 [.ref 130, .long (lN s), mk_, .int (nI n), z4] [] h2 Q := by
          intro k27
          induction k27 with
          | zero => intro z4 n h2 hk; exact absurd hk (Nat.not_lt_zero _)
          | succ k27 ih27 =>
            intro z4 n h2 hk hn q2 mh2 hR2 hT
            have ms2 := ms_fq ms q2
            refine exf_go 5 (show vp_in 4 41523 ∧ (Go (d + 1) true 288 34 [.ref 130, .long (lN s), mk_, .int (nI n), z4] [.int (rI h2 131 4), .int (nI n)] h2 Q) from ⟨(vp_in_nI (n := 4) (by decide) (by decide)), ?_⟩)
            rw [show (rI h2 131 4 : Int32) = nI (tot g) from ms_N ms2]
            refine exf_go 1 (show ((nI (tot g)) ≤ (nI n) → Go (d + 1) true 288 106 [.ref 130, .long (lN s), mk_, .int (nI n), z4] [] h2 Q) ∧ (¬ ((nI (tot g)) ≤ (nI n)) → Go (d + 1) true 288 37 [.ref 130, .long (lN s), mk_, .int (nI n), z4] [] h2 Q) from ⟨fun c2 => ?_, fun c2 => ?_⟩)
            · skip
              have c2 : (tot g) ≤ n := (nI_leI (a := (tot g)) (b := n) (by omega) (by omega)).mp c2
              refine exf_go 2 (show Go (d + 1) true 288 108 [.ref 130, .long (lN s), mk_, .int 0, z4] [] h2 Q from ?_)
              have L108 : ∀ (k108 : Nat) (z4 : Value) (n : Nat) (h4 : Hp), (tot g - n) < k108 → (n ≤ tot g) → (Fq scM h h4) → (MHV g (aft g (sW g - 2)) h4) → (∀ x, x < tot g → rJ h4 148 x = lN (stU g R s (tot g) x)) → (∀ x, x < n → rJ h4 147 x = lN (stU g R s (tot g) x)) → Go (d + 1) true 288 108 [.ref 130, .long (lN s), mk_, .int (nI n), z4] [] h4 Q := by
                intro k108
                induction k108 with
                | zero => intro z4 n h4 hk; exact absurd hk (Nat.not_lt_zero _)
                | succ k108 ih108 =>
                  intro z4 n h4 hk hn q4 mh4 hT4 hY
                  have ms4 := ms_fq ms q4
                  refine exf_go 5 (show vp_in 4 41523 ∧ (Go (d + 1) true 288 115 [.ref 130, .long (lN s), mk_, .int (nI n), z4] [.int (rI h4 131 4), .int (nI n)] h4 Q) from ⟨(vp_in_nI (n := 4) (by decide) (by decide)), ?_⟩)
                  rw [show (rI h4 131 4 : Int32) = nI (tot g) from ms_N ms4]
                  refine exf_go 1 (show ((nI (tot g)) ≤ (nI n) → Go (d + 1) true 288 136 [.ref 130, .long (lN s), mk_, .int (nI n), z4] [] h4 Q) ∧ (¬ ((nI (tot g)) ≤ (nI n)) → Go (d + 1) true 288 118 [.ref 130, .long (lN s), mk_, .int (nI n), z4] [] h4 Q) from ⟨fun c3 => ?_, fun c3 => ?_⟩)
                  · skip
                    have c3 : (tot g) ≤ n := (nI_leI (a := (tot g)) (b := n) (by omega) (by omega)).mp c3
                    refine exf_go 1 (show Q (mk_) h4 from ?_)
                    exact k h4 q4 mh4 (fun x hx => hY x (by omega))
                  · skip
                    have c3 : ¬ (tot g) ≤ n := fun q => c3 ((nI_leI (a := (tot g)) (b := n) (by omega) (by omega)).mpr q)
                    refine exf_go 7 (show vp_in (nI n) 10000 ∧ (Go (d + 1) true 288 129 [.ref 130, .long (lN s), mk_, .int (nI n), z4] [.long (rJ h4 148 ((nI n).toNatClampNeg)), .int (nI n), .ref 147] h4 Q) from ⟨(vp_in_nI (by omega) (by omega)), ?_⟩)
                    rw [show (rJ h4 148 ((nI n).toNatClampNeg) : Int64) = lN (stU g R s (tot g) n) from by rw [nI_clamp (by omega)]; exact hT4 _ (by omega)]
                    refine exf_go 2 (show vp_in (nI n) 10000 ∧ (Go (d + 1) true 288 133 [.ref 130, .long (lN s), mk_, .int ((nI n) + 1), z4] [] (uJ h4 147 ((nI n).toNatClampNeg) (lN (stU g R s (tot g) n))) Q) from ⟨(vp_in_nI (by omega) (by omega)), ?_⟩)
                    rw [show ((nI n) + 1 : Int32) = nI (n + 1) from nI_add n 1]
                    refine exf_go 1 (show Go (d + 1) true 288 108 [.ref 130, .long (lN s), mk_, .int (nI (n + 1)), z4] [] (uJ h4 147 ((nI n).toNatClampNeg) (lN (stU g R s (tot g) n))) Q from ?_)
                    exact ih108 z4 (n + 1) _ (by omega) (by omega) (q4.uJ' _ _ _ rfl) mh4 hT4 (fun x hx => (Decidable.em (x = n)).elim (fun e => by rw [nI_clamp (by omega), e, rJ_uJ_eq]) (fun e => by rw [nI_clamp (by omega), rJ_uJ_at e]; exact hY x (by omega)))
              exact L108 (tot g + 1) z4 0 h2 (by omega) (by omega) q2 mh2 (fun x hx => by rw [hT x hx, show n = tot g from by omega]) (fun x hx => absurd hx (Nat.not_lt_zero _))
            · skip
              have c2 : ¬ (tot g) ≤ n := fun q => c2 ((nI_leI (a := (tot g)) (b := n) (by omega) (by omega)).mpr q)
              refine exf_go 4 (show vp_in (nI n) 10000 ∧ (Go (d + 1) true 288 43 [.ref 130, .long (lN s), mk_, .int (nI n), z4] [.long (rJ h2 147 ((nI n).toNatClampNeg))] h2 Q) from ⟨(vp_in_nI (by omega) (by omega)), ?_⟩)
              rw [show (rJ h2 147 ((nI n).toNatClampNeg) : Int64) = lN (R n) from by rw [nI_clamp (by omega)]; exact hR2 _ (by omega)]
              have := hRb n
              refine exf_go 3 (show (¬ (lg_cmp (lN (R n)) 0) = 0 → Go (d + 1) true 288 51 [.ref 130, .long (lN s), mk_, .int (nI n), z4] [] h2 Q) ∧ (¬ (¬ (lg_cmp (lN (R n)) 0) = 0) → Go (d + 1) true 288 48 [.ref 130, .long (lN s), mk_, .int (nI n), z4] [] h2 Q) from ⟨fun c4 => ?_, fun c4 => ?_⟩)
              · skip
                have c4 : ¬ ((lN (R n)) = 0) := fun q => c4 ((lg_cmp_eq _ _).mpr q)
                have c4 : ¬ ((R n) = 0) := fun q => c4 ((pk_lEQ (a := (R n)) (b := 0) (by omega) (by omega)).mpr q)
                refine exf_go 2 (show Go (d + 1) true 288 54 [.ref 130, .long (lN s), mk_, .int (nI n), .int 0] [] h2 Q from ?_)
                have L54 : ∀ (k54 : Nat) (c : Nat) (h3 : Hp), (tot g - c) < k54 → (c ≤ tot g) → (Fq scM h h3) → (MHV g (aft g (sW g - 2)) h3) → (∀ x, x < tot g → rJ h3 147 x = lN (R x)) → (∀ x, x < c → rJ h3 148 x = lN (stU g R s (n + 1) x)) → (∀ x, c ≤ x → x < tot g → rJ h3 148 x = lN (stU g R s n x)) → Go (d + 1) true 288 54 [.ref 130, .long (lN s), mk_, .int (nI n), .int (nI c)] [] h3 Q := by
                  intro k54
                  induction k54 with
                  | zero => intro c h3 hk; exact absurd hk (Nat.not_lt_zero _)
                  | succ k54 ih54 =>
                    intro c h3 hk hc q3 mh3 hR3 hA hC
                    have ms3 := ms_fq ms q3
                    have ht3 := trn_b ms.1.1 n c
                    refine exf_go 5 (show vp_in 4 41523 ∧ (Go (d + 1) true 288 62 [.ref 130, .long (lN s), mk_, .int (nI n), .int (nI c)] [.int (rI h3 131 4), .int (nI c)] h3 Q) from ⟨(vp_in_nI (n := 4) (by decide) (by decide)), ?_⟩)
                    rw [show (rI h3 131 4 : Int32) = nI (tot g) from ms_N ms3]
                    refine exf_go 1 (show ((nI (tot g)) ≤ (nI c) → Go (d + 1) true 288 100 [.ref 130, .long (lN s), mk_, .int (nI n), .int (nI c)] [] h3 Q) ∧ (¬ ((nI (tot g)) ≤ (nI c)) → Go (d + 1) true 288 65 [.ref 130, .long (lN s), mk_, .int (nI n), .int (nI c)] [] h3 Q) from ⟨fun c5 => ?_, fun c5 => ?_⟩)
                    · skip
                      have c5 : (tot g) ≤ c := (nI_leI (a := (tot g)) (b := c) (by omega) (by omega)).mp c5
                      refine exf_go 1 (show Go (d + 1) true 288 103 [.ref 130, .long (lN s), mk_, .int ((nI n) + 1), .int (nI c)] [] h3 Q from ?_)
                      rw [show ((nI n) + 1 : Int32) = nI (n + 1) from nI_add n 1]
                      refine exf_go 1 (show Go (d + 1) true 288 27 [.ref 130, .long (lN s), mk_, .int (nI (n + 1)), .int (nI c)] [] h3 Q from ?_)
                      exact ih27 (.int (nI c)) (n + 1) h3 (by omega) (by omega) q3 mh3 hR3 (fun x hx => hA x (by omega))
                    · skip
                      have c5 : ¬ (tot g) ≤ c := fun q => c5 ((nI_leI (a := (tot g)) (b := c) (by omega) (by omega)).mpr q)
                      refine exf_go 4 (show wpC (d + 1) true 286 [.ref 130, .int (nI n), .int (nI c)] h3 (fun r h' => Go (d + 1) true 288 72 [.ref 130, .long (lN s), mk_, .int (nI n), .int (nI c)] [r] h' Q) from ?_)
                      refine m_fast (x := n) (y := c) mh3 (by omega) (by omega) (by omega) ?_
                      rw [trn_cut ms.1.1 (by have := ms.1.1.1; omega)]
                      show Go (d + 1) true 288 72 [.ref 130, .long (lN s), mk_, .int (nI n), .int (nI c)] [.int (nI (trn g n c))] h3 Q
                      refine exf_go 1 (show Go (d + 1) true 288 73 [.ref 130, .long (lN s), mk_, .int (nI n), .int (nI c)] [.long ((nI (trn g n c)).toInt64)] h3 Q from ?_)
                      rw [show ((nI (trn g n c)).toInt64 : Int64) = lN (trn g n c) from nI_l (n := (trn g n c)) (by omega)]
                      refine exf_go 3 (show (¬ (lg_cmp (lN (trn g n c)) (lN s)) = 0 → Go (d + 1) true 288 94 [.ref 130, .long (lN s), mk_, .int (nI n), .int (nI c)] [] h3 Q) ∧ (¬ (¬ (lg_cmp (lN (trn g n c)) (lN s)) = 0) → Go (d + 1) true 288 78 [.ref 130, .long (lN s), mk_, .int (nI n), .int (nI c)] [] h3 Q) from ⟨fun c6 => ?_, fun c6 => ?_⟩)
                      · skip
                        have c6 : ¬ ((lN (trn g n c)) = (lN s)) := fun q => c6 ((lg_cmp_eq _ _).mpr q)
                        have c6 : ¬ ((trn g n c) = s) := fun q => c6 ((pk_lEQ (a := (trn g n c)) (b := s) (by omega) (by omega)).mpr q)
                        refine exf_go 1 (show Go (d + 1) true 288 97 [.ref 130, .long (lN s), mk_, .int (nI n), .int ((nI c) + 1)] [] h3 Q from ?_)
                        rw [show ((nI c) + 1 : Int32) = nI (c + 1) from nI_add c 1]
                        refine exf_go 1 (show Go (d + 1) true 288 54 [.ref 130, .long (lN s), mk_, .int (nI n), .int (nI (c + 1))] [] h3 Q from ?_)
                        exact ih54 (c + 1) _ (by omega) (by omega) q3 mh3 hR3 (fun x hx => (Decidable.em (x = c)).elim (fun e => by rw [e, ← st_n (by assumption)]; exact hC c (Nat.le_refl _) (by omega)) (fun e => hA x (by omega))) (fun x hx => hC x (by omega))
                      · skip
                        have c6 : (lN (trn g n c)) = (lN s) := (lg_cmp_eq _ _).mp (Classical.not_not.mp c6)
                        have c6 : (trn g n c) = s := (pk_lEQ (a := (trn g n c)) (b := s) (by omega) (by omega)).mp c6
                        refine exf_go 5 (show vp_in (nI c) 10000 ∧ (Go (d + 1) true 288 86 [.ref 130, .long (lN s), mk_, .int (nI n), .int (nI c)] [.long (rJ h3 148 ((nI c).toNatClampNeg)), .int (nI c), .ref 148] h3 Q) from ⟨(vp_in_nI (by omega) (by omega)), ?_⟩)
                        rw [show (rJ h3 148 ((nI c).toNatClampNeg) : Int64) = lN (stU g R s n c) from by rw [nI_clamp (by omega)]; exact hC _ (Nat.le_refl _) (by omega)]
                        refine exf_go 4 (show vp_in (nI n) 10000 ∧ (Go (d + 1) true 288 92 [.ref 130, .long (lN s), mk_, .int (nI n), .int (nI c)] [.long (rJ h3 147 ((nI n).toNatClampNeg)), .long (lN (stU g R s n c)), .int (nI c), .ref 148] h3 Q) from ⟨(vp_in_nI (by omega) (by omega)), ?_⟩)
                        rw [show (rJ h3 147 ((nI n).toNatClampNeg) : Int64) = lN (R n) from by rw [nI_clamp (by omega)]; exact hR3 _ (by omega)]
                        have := hRb n
                        refine exf_go 1 (show Go (d + 1) true 288 93 [.ref 130, .long (lN s), mk_, .int (nI n), .int (nI c)] [.long ((lN (stU g R s n c)) + (lN (R n))), .int (nI c), .ref 148] h3 Q from ?_)
                        rw [show ((lN (stU g R s n c)) + (lN (R n)) : Int64) = lN ((stU g R s n c) + (R n)) from lN_add (stU g R s n c) (R n)]
                        refine exf_go 2 (show vp_in (nI c) 10000 ∧ (Go (d + 1) true 288 97 [.ref 130, .long (lN s), mk_, .int (nI n), .int ((nI c) + 1)] [] (uJ h3 148 ((nI c).toNatClampNeg) (lN ((stU g R s n c) + (R n)))) Q) from ⟨(vp_in_nI (by omega) (by omega)), ?_⟩)
                        rw [show ((nI c) + 1 : Int32) = nI (c + 1) from nI_add c 1]
                        refine exf_go 1 (show Go (d + 1) true 288 54 [.ref 130, .long (lN s), mk_, .int (nI n), .int (nI (c + 1))] [] (uJ h3 148 ((nI c).toNatClampNeg) (lN ((stU g R s n c) + (R n)))) Q from ?_)
                        exact ih54 (c + 1) _ (by omega) (by omega) (q3.uJ' _ _ _ rfl) mh3 hR3 (fun x hx => (Decidable.em (x = c)).elim (fun e => by rw [nI_clamp (by omega), e, rJ_uJ_eq]; exact congrArg lN (st_y (by assumption))) (fun e => by rw [nI_clamp (by omega), rJ_uJ_at e]; exact hA x (by omega))) (fun x hx hx2 => by rw [nI_clamp (by omega), rJ_uJ_at (by omega)]; exact hC x (by omega) hx2)
                exact L54 (tot g + 1) 0 h2 (by omega) (by omega) q2 mh2 hR2 (fun x hx => absurd hx (Nat.not_lt_zero _)) (fun x _ hx => hT x hx)
              · skip
                have c4 : (lN (R n)) = 0 := (lg_cmp_eq _ _).mp (Classical.not_not.mp c4)
                have c4 : (R n) = 0 := (pk_lEQ (a := (R n)) (b := 0) (by omega) (by omega)).mp c4
                refine exf_go 2 (show Go (d + 1) true 288 103 [.ref 130, .long (lN s), mk_, .int ((nI n) + 1), z4] [] h2 Q from ?_)
                rw [show ((nI n) + 1 : Int32) = nI (n + 1) from nI_add n 1]
                refine exf_go 1 (show Go (d + 1) true 288 27 [.ref 130, .long (lN s), mk_, .int (nI (n + 1)), z4] [] h2 Q from ?_)
                exact ih27 z4 (n + 1) h2 (by omega) (by omega) q2 mh2 hR2 (fun x hx => by rw [← st_0 (by omega)]; exact hT x hx)
        exact L27 (tot g + 1) mk_ 0 h1 (by omega) (by omega) q1 mh1 hR1 (fun x hx => hZ x (by omega))
      · skip
        have c1 : ¬ (tot g) ≤ n := fun q => c1 ((nI_leI (a := (tot g)) (b := n) (by omega) (by omega)).mpr q)
        refine exf_go 6 (show vp_in (nI n) 10000 ∧ (Go (d + 1) true 288 22 [.ref 130, .long (lN s), mk_, .int ((nI n) + 1), mk_] [] (uJ h1 148 ((nI n).toNatClampNeg) 0) Q) from ⟨(vp_in_nI (by omega) (by omega)), ?_⟩)
        rw [show ((nI n) + 1 : Int32) = nI (n + 1) from nI_add n 1]
        refine exf_go 1 (show Go (d + 1) true 288 2 [.ref 130, .long (lN s), mk_, .int (nI (n + 1)), mk_] [] (uJ h1 148 ((nI n).toNatClampNeg) 0) Q from ?_)
        exact ih2 (n + 1) _ (by omega) (by omega) (q1.uJ' _ _ _ rfl) mh1 hR1 (fun x hx => (Decidable.em (x = n)).elim (fun e => by rw [nI_clamp (by omega), e, rJ_uJ_eq]; rfl) (fun e => by rw [nI_clamp (by omega), rJ_uJ_at e]; exact hZ x (by omega)))
  exact L2 (tot g + 1) 0 h (by omega) (by omega) Fq.rfl' mh hR (fun x hx => absurd hx (Nat.not_lt_zero _))
/-- rows that end in each number, behind so many seconds -/
def rowR (g : ShG) (l : LkG) (vs : Nat → Int64) : Nat → Nat → Nat
  | 0, n => if n = lA l then 1 else 0
  | k + 1, n => stU g (rowR g l vs k) (sec (vs k)) (tot g) n
theorem rowR_0 (g : ShG) (l : LkG) (vs : Nat → Int64) (n : Nat) : rowR g l vs 0 n ≤ 1 := by
  show (if n = lA l then 1 else 0) ≤ 1
  split <;> omega
theorem rowR_1 {g : ShG} {l : LkG} (hl : lA l < tot g) (vs : Nat → Int64) (n : Nat) : rowR g l vs 1 n = i01 (trn g (lA l) n = sec (vs 0)) := by
  show sumN (fun m => if trn g m n = sec (vs 0) then (if m = lA l then 1 else 0) else 0) (tot g) = _
  rw [sumN_cg _ (f2 := fun m => if m = lA l then i01 (trn g (lA l) n = sec (vs 0)) else 0) (fun m _ => ?_), sumN_one _ _ hl]
  by_cases e : m = lA l
  · rw [if_pos e, if_pos e, e]; rfl
  · rw [if_neg e, if_neg e, ite_self]
theorem rowR_b {g : ShG} {l : LkG} (hl : lA l < tot g) (vs : Nat → Int64) {k : Nat} (hk : k < 2) (n : Nat) : rowR g l vs k n ≤ 10000 := by
  match k, hk with
  | 0, _ => have := rowR_0 g l vs n; omega
  | 1, _ => rw [rowR_1 hl]; unfold i01; split <;> omega
theorem rows_1 {g : ShG} {l : LkG} (hl : lA l < tot g) (vs : Nat → Int64) : sumN (rowR g l vs 1) (tot g) = cntN (fun m => decide (trn g (lA l) m = sec (vs 0))) (tot g) := by
  rw [cnt_01]
  exact sumN_cg _ (fun n _ => rowR_1 hl vs n)
theorem rows_2 {g : ShG} {l : LkG} (hl : lA l < tot g) (vs : Nat → Int64) : sumN (rowR g l vs 2) (tot g) = fRow2 g (lA l) (sec (vs 0)) (sec (vs 1)) := by
  show sumN (fun n => sumN (fun m => if trn g m n = sec (vs 1) then rowR g l vs 1 m else 0) (tot g)) (tot g) = _
  rw [sumN_swap (fun n m => if trn g m n = sec (vs 1) then rowR g l vs 1 m else 0)]
  unfold fRow2
  refine sumN_cg _ (fun m _ => ?_)
  rw [rowR_1 hl]
  by_cases e : trn g (lA l) m = sec (vs 0)
  · rw [if_pos e, cnt_01]
    refine sumN_cg _ (fun n _ => ?_)
    unfold i01
    rw [if_pos e]
  · rw [if_neg e, sumN_cg _ (f2 := fun _ => 0) (fun n _ => ?_), sumN_0]
    unfold i01
    rw [if_neg e, ite_self]
theorem m_laysRows {d : Nat} {h : Hp} {g : ShG} {l : LkG} {tt so n : Nat} {vs : Nat → Int64} {Q : Po} (ms : MS g l h) (htt : tt < 4) (mt : MT tt (some (so, n, vs)) h) (hn : n ≤ 2) (haw : awB vs 1000 n = true) (kk : ∀ h1, Fq scM h h1 → (∀ x, x < tot g → rJ h1 147 x = lN (rowR g l vs n x)) → Q mk_ h1) : wpC (d + 3) true 289 [.ref 130, .int (nI tt), .int (nI n)] h Q := by
  have htb := tot_b ms.1.1
  have hla := ms.1.2.1
  refine go_in rfl ?_
  refine exf_go 2 (show wpC (d + 2) true 285 [.ref 130] h (fun _ h' => Go (d + 2) true 289 4 [.ref 130, .int (nI tt), .int (nI n), mk_] [] h' Q) from ?_)
  refine m_halves ms (fun h1 q1 mh1 => ?_)
  have ms1 := ms_fq ms q1
  show Go (d + 2) true 289 4 [.ref 130, .int (nI tt), .int (nI n), mk_] [] h1 Q
  refine exf_go 2 (show Go (d + 2) true 289 6 [.ref 130, .int (nI tt), .int (nI n), .int 0] [] h1 Q from ?_)
  have L6 : ∀ (k6 : Nat) (j : Nat) (h1 : Hp), (tot g - j) < k6 → (j ≤ tot g) → (Fq scM h h1) → (MHV g (aft g (sW g - 2)) h1) → (∀ x, x < j → rJ h1 147 x = lN (rowR g l vs 0 x)) → Go (d + 2) true 289 6 [.ref 130, .int (nI tt), .int (nI n), .int (nI j)] [] h1 Q := by
    intro k6
    induction k6 with
    | zero => intro j h1 hk; exact absurd hk (Nat.not_lt_zero _)
    | succ k6 ih6 =>
      intro j h1 hk hj q1 mh1 hR1
      have ms1 := ms_fq ms q1
      refine exf_go 5 (show vp_in 4 41523 ∧ (Go (d + 2) true 289 13 [.ref 130, .int (nI tt), .int (nI n), .int (nI j)] [.int (rI h1 131 4), .int (nI j)] h1 Q) from ⟨(vp_in_nI (n := 4) (by decide) (by decide)), ?_⟩)
      rw [show (rI h1 131 4 : Int32) = nI (tot g) from ms_N ms1]
      refine exf_go 1 (show ((nI (tot g)) ≤ (nI j) → Go (d + 2) true 289 44 [.ref 130, .int (nI tt), .int (nI n), .int (nI j)] [] h1 Q) ∧ (¬ ((nI (tot g)) ≤ (nI j)) → Go (d + 2) true 289 16 [.ref 130, .int (nI tt), .int (nI n), .int (nI j)] [] h1 Q) from ⟨fun c1 => ?_, fun c1 => ?_⟩)
      · skip
        have c1 : (tot g) ≤ j := (nI_leI (a := (tot g)) (b := j) (by omega) (by omega)).mp c1
        refine exf_go 2 (show Go (d + 2) true 289 46 [.ref 130, .int (nI tt), .int (nI n), .int 0] [] h1 Q from ?_)
        have L46 : ∀ (k46 : Nat) (k : Nat) (h2 : Hp), (n - k) < k46 → (k ≤ n) → (Fq scM h h2) → (MHV g (aft g (sW g - 2)) h2) → (∀ x, x < tot g → rJ h2 147 x = lN (rowR g l vs k x)) → Go (d + 2) true 289 46 [.ref 130, .int (nI tt), .int (nI n), .int (nI k)] [] h2 Q := by
          intro k46
          induction k46 with
          | zero => intro k h2 hk; exact absurd hk (Nat.not_lt_zero _)
          | succ k46 ih46 =>
            intro k h2 hk hk q2 mh2 hR2
            have ms2 := ms_fq ms q2
            have mt2 : MT tt (some (so, n, vs)) h2 := mt_same mt (q2.1 149 tt rfl).1 (q2.1 150 tt rfl).1 (fun i _ => (q2.1 151 _ rfl).2)
            refine exf_go 3 (show ((nI n) ≤ (nI k) → Go (d + 2) true 289 72 [.ref 130, .int (nI tt), .int (nI n), .int (nI k)] [] h2 Q) ∧ (¬ ((nI n) ≤ (nI k)) → Go (d + 2) true 289 51 [.ref 130, .int (nI tt), .int (nI n), .int (nI k)] [] h2 Q) from ⟨fun c2 => ?_, fun c2 => ?_⟩)
            · skip
              have c2 : n ≤ k := (nI_leI (a := n) (b := k) (by omega) (by omega)).mp c2
              refine exf_go 1 (show Q (mk_) h2 from ?_)
              exact kk h2 q2 (by rw [← show k = n from by omega]; exact hR2)
            · skip
              have c2 : ¬ n ≤ k := fun q => c2 ((nI_leI (a := n) (b := k) (by omega) (by omega)).mpr q)
              have hsc := sec_at haw (i := k) (by omega)
              refine exf_go 6 (show Go (d + 2) true 289 60 [.ref 130, .int (nI tt), .int (nI n), .int (nI k)] [.int (40 * (nI tt)), .ref 151, .ref 130] h2 Q from ?_)
              rw [show (40 * (nI tt) : Int32) = nI (40 * tt) from pk_mul 40 tt]
              refine exf_go 2 (show Go (d + 2) true 289 62 [.ref 130, .int (nI tt), .int (nI n), .int (nI k)] [.int ((nI (40 * tt)) + (nI k)), .ref 151, .ref 130] h2 Q from ?_)
              rw [show ((nI (40 * tt)) + (nI k) : Int32) = nI ((40 * tt) + k) from nI_add (40 * tt) k]
              refine exf_go 1 (show vp_in (nI ((40 * tt) + k)) 160 ∧ (Go (d + 2) true 289 63 [.ref 130, .int (nI tt), .int (nI n), .int (nI k)] [.long (rJ h2 151 ((nI ((40 * tt) + k)).toNatClampNeg)), .ref 130] h2 Q) from ⟨(vp_in_nI (by omega) (by omega)), ?_⟩)
              rw [show (rJ h2 151 ((nI ((40 * tt) + k)).toNatClampNeg) : Int64) = lN (sec (vs k)) from by rw [nI_clamp (by omega)]; exact (mt2.2.2.2.2 _ (by omega)).trans hsc.1]
              refine exf_go 1 (show wpC (d + 2) true 288 [.ref 130, .long (lN (sec (vs k)))] h2 (fun _ h' => Go (d + 2) true 289 66 [.ref 130, .int (nI tt), .int (nI n), .int (nI k)] [] h' Q) from ?_)
              refine m_goesOn (R := rowR g l vs k) (s := sec (vs k)) ms2 mh2 hR2 (rowR_b ms.1.2.1 vs (by omega)) hsc.2 (fun h3 q3 mh3 hR3 => ?_)
              show Go (d + 2) true 289 66 [.ref 130, .int (nI tt), .int (nI n), .int (nI k)] [] h3 Q
              refine exf_go 1 (show Go (d + 2) true 289 69 [.ref 130, .int (nI tt), .int (nI n), .int ((nI k) + 1)] [] h3 Q from ?_)
              rw [show ((nI k) + 1 : Int32) = nI (k + 1) from nI_add k 1]
              refine exf_go 1 (show Go (d + 2) true 289 46 [.ref 130, .int (nI tt), .int (nI n), .int (nI (k + 1))] [] h3 Q from ?_)
              exact ih46 (k + 1) h3 (by omega) (by omega) (q2.tr q3) mh3 hR3
        exact L46 (n + 1) 0 h1 (by omega) (by omega) q1 mh1 (fun x hx => hR1 x (by omega))
      · skip
        have c1 : ¬ (tot g) ≤ j := fun q => c1 ((nI_leI (a := (tot g)) (b := j) (by omega) (by omega)).mpr q)
        refine exf_go 8 (show vp_in 50 41523 ∧ (Go (d + 2) true 289 29 [.ref 130, .int (nI tt), .int (nI n), .int (nI j)] [.int (rI h1 131 50), .int (nI j), .int (nI j), .ref 147] h1 Q) from ⟨(vp_in_nI (n := 50) (by decide) (by decide)), ?_⟩)
        rw [show (rI h1 131 50 : Int32) = nI (lA l) from ms_A ms1]
        refine exf_go 1 (show (¬ (nI j) = (nI (lA l)) → Go (d + 2) true 289 36 [.ref 130, .int (nI tt), .int (nI n), .int (nI j)] [.int (nI j), .ref 147] h1 Q) ∧ (¬ (¬ (nI j) = (nI (lA l))) → Go (d + 2) true 289 32 [.ref 130, .int (nI tt), .int (nI n), .int (nI j)] [.int (nI j), .ref 147] h1 Q) from ⟨fun c3 => ?_, fun c3 => ?_⟩)
        · skip
          have c3 : ¬ j = (lA l) := fun q => c3 ((nI_eq (a := j) (b := (lA l)) (by omega) (by omega)).mpr q)
          refine exf_go 3 (show vp_in (nI j) 10000 ∧ (Go (d + 2) true 289 41 [.ref 130, .int (nI tt), .int (nI n), .int ((nI j) + 1)] [] (uJ h1 147 ((nI j).toNatClampNeg) 0) Q) from ⟨(vp_in_nI (by omega) (by omega)), ?_⟩)
          rw [show ((nI j) + 1 : Int32) = nI (j + 1) from nI_add j 1]
          refine exf_go 1 (show Go (d + 2) true 289 6 [.ref 130, .int (nI tt), .int (nI n), .int (nI (j + 1))] [] (uJ h1 147 ((nI j).toNatClampNeg) 0) Q from ?_)
          exact ih6 (j + 1) _ (by omega) (by omega) (q1.uJ' _ _ _ rfl) mh1 (fun x hx => (Decidable.em (x = j)).elim (fun e => by rw [nI_clamp (by omega), e, rJ_uJ_eq]; show _ = lN (if j = lA l then 1 else 0); (first | (rw [if_pos (by omega)]; done) | (rw [if_neg (by omega)]; done) | (rw [if_pos (by omega)]; decide) | (rw [if_neg (by omega)]; decide))) (fun e => by rw [nI_clamp (by omega), rJ_uJ_at e]; exact hR1 x (by omega)))
        · skip
          have c3 : j = (lA l) := (nI_eq (a := j) (b := (lA l)) (by omega) (by omega)).mp (Classical.not_not.mp c3)
          refine exf_go 4 (show vp_in (nI j) 10000 ∧ (Go (d + 2) true 289 41 [.ref 130, .int (nI tt), .int (nI n), .int ((nI j) + 1)] [] (uJ h1 147 ((nI j).toNatClampNeg) 1) Q) from ⟨(vp_in_nI (by omega) (by omega)), ?_⟩)
          rw [show ((nI j) + 1 : Int32) = nI (j + 1) from nI_add j 1]
          refine exf_go 1 (show Go (d + 2) true 289 6 [.ref 130, .int (nI tt), .int (nI n), .int (nI (j + 1))] [] (uJ h1 147 ((nI j).toNatClampNeg) 1) Q from ?_)
          exact ih6 (j + 1) _ (by omega) (by omega) (q1.uJ' _ _ _ rfl) mh1 (fun x hx => (Decidable.em (x = j)).elim (fun e => by rw [nI_clamp (by omega), e, rJ_uJ_eq]; show _ = lN (if j = lA l then 1 else 0); (first | (rw [if_pos (by omega)]; done) | (rw [if_neg (by omega)]; done) | (rw [if_pos (by omega)]; decide) | (rw [if_neg (by omega)]; decide))) (fun e => by rw [nI_clamp (by omega), rJ_uJ_at e]; exact hR1 x (by omega)))
  exact L6 (tot g + 1) 0 h1 (by omega) (by omega) q1 mh1 (fun x hx => absurd hx (Nat.not_lt_zero _))
theorem m_rows {d : Nat} {h : Hp} {g : ShG} {l : LkG} {tr : Nat → TrG} {x : Int32} {Q : Po} (ms : MS g l h) (ma : MTA tr h) (k : ∀ h1, Fq scM h h1 → Q (.long (fRows g l tr x)) h1) : wpC (d + 4) true 290 [.ref 130, .int x] h Q := by
  have htb := tot_b ms.1.1
  have hla := ms.1.2.1
  refine go_in rfl ?_
  refine exf_go 6 (show wpC (d + 3) true 287 [.ref 130, .int x] (uI h 130 0 0) (fun r h' => Go (d + 3) true 290 10 [.ref 130, .int x, mk_, mk_, mk_, mk_] [r] h' Q) from ?_)
  refine m_noSec (mta_fq (s := scM) ma (Fq.uI' Fq.rfl' _ _ _ rfl) (fun _ => rfl) (fun _ => rfl) (fun _ => rfl)) (fun en => ?_) (fun tt et ht hq => ?_) (fun tt so n vs et ht hq h12 => ?_) (fun tt so n vs et ht hq h12 haw => ?_) (fun tt so n vs et etq ht hq mt h12 haw => ?_)
  · skip
    show Go (d + 3) true 290 10 [.ref 130, .int x, mk_, mk_, mk_, mk_] [.int (-2)] (uI h 130 0 0) Q
    refine exf_go 3 (show (((-2) : Int32) = 0 → Go (d + 3) true 290 18 [.ref 130, .int x, .int (-2), mk_, mk_, mk_] [] (uI h 130 0 0) Q) ∧ (¬ (((-2) : Int32) = 0) → Go (d + 3) true 290 15 [.ref 130, .int x, .int (-2), mk_, mk_, mk_] [] (uI h 130 0 0) Q) from ⟨fun c1 => ?_, fun c1 => ?_⟩)
    · skip
      exact absurd c1 (by decide)
    · skip
      refine exf_go 3 (show Q (.long (((-2) : Int32).toInt64)) (uI h 130 0 0) from ?_)
      simp only [fRows, en] at k; exact k _ (Fq.uI' Fq.rfl' _ _ _ rfl)
  · skip
    show Go (d + 3) true 290 10 [.ref 130, .int x, mk_, mk_, mk_, mk_] [.int (-6)] (uI h 130 0 0) Q
    refine exf_go 3 (show (((-6) : Int32) = 0 → Go (d + 3) true 290 18 [.ref 130, .int x, .int (-6), mk_, mk_, mk_] [] (uI h 130 0 0) Q) ∧ (¬ (((-6) : Int32) = 0) → Go (d + 3) true 290 15 [.ref 130, .int x, .int (-6), mk_, mk_, mk_] [] (uI h 130 0 0) Q) from ⟨fun c2 => ?_, fun c2 => ?_⟩)
    · skip
      exact absurd c2 (by decide)
    · skip
      refine exf_go 3 (show Q (.long (((-6) : Int32).toInt64)) (uI h 130 0 0) from ?_)
      simp only [fRows, et, hq] at k; exact k _ (Fq.uI' Fq.rfl' _ _ _ rfl)
  · skip
    show Go (d + 3) true 290 10 [.ref 130, .int x, mk_, mk_, mk_, mk_] [.int (-4)] (uI h 130 0 0) Q
    refine exf_go 3 (show (((-4) : Int32) = 0 → Go (d + 3) true 290 18 [.ref 130, .int x, .int (-4), mk_, mk_, mk_] [] (uI h 130 0 0) Q) ∧ (¬ (((-4) : Int32) = 0) → Go (d + 3) true 290 15 [.ref 130, .int x, .int (-4), mk_, mk_, mk_] [] (uI h 130 0 0) Q) from ⟨fun c3 => ?_, fun c3 => ?_⟩)
    · skip
      exact absurd c3 (by decide)
    · skip
      refine exf_go 3 (show Q (.long (((-4) : Int32).toInt64)) (uI h 130 0 0) from ?_)
      simp only [fRows, et, hq] at k; rw [if_pos h12] at k; exact k _ (Fq.uI' Fq.rfl' _ _ _ rfl)
  · skip
    show Go (d + 3) true 290 10 [.ref 130, .int x, mk_, mk_, mk_, mk_] [.int (-3)] (uI h 130 0 0) Q
    refine exf_go 3 (show (((-3) : Int32) = 0 → Go (d + 3) true 290 18 [.ref 130, .int x, .int (-3), mk_, mk_, mk_] [] (uI h 130 0 0) Q) ∧ (¬ (((-3) : Int32) = 0) → Go (d + 3) true 290 15 [.ref 130, .int x, .int (-3), mk_, mk_, mk_] [] (uI h 130 0 0) Q) from ⟨fun c4 => ?_, fun c4 => ?_⟩)
    · skip
      exact absurd c4 (by decide)
    · skip
      refine exf_go 3 (show Q (.long (((-3) : Int32).toInt64)) (uI h 130 0 0) from ?_)
      simp only [fRows, et, hq] at k; rw [if_neg h12, if_neg (by rw [haw]; decide)] at k; exact k _ (Fq.uI' Fq.rfl' _ _ _ rfl)
  · skip
    subst etq
    show Go (d + 3) true 290 10 [.ref 130, .int (nI tt), mk_, mk_, mk_, mk_] [.int 0] (uI h 130 0 0) Q
    refine exf_go 3 (show ((0 : Int32) = 0 → Go (d + 3) true 290 18 [.ref 130, .int (nI tt), .int 0, mk_, mk_, mk_] [] (uI h 130 0 0) Q) ∧ (¬ ((0 : Int32) = 0) → Go (d + 3) true 290 15 [.ref 130, .int (nI tt), .int 0, mk_, mk_, mk_] [] (uI h 130 0 0) Q) from ⟨fun c5 => ?_, fun c5 => ?_⟩)
    · skip
      refine exf_go 6 (show vp_in (nI tt) 4 ∧ (Go (d + 3) true 290 26 [.ref 130, .int (nI tt), .int 0, mk_, mk_, mk_] [.int (rI h 150 ((nI tt).toNatClampNeg)), .int (nI tt), .ref 130] (uI h 130 0 0) Q) from ⟨(vp_in_nI (by omega) (by omega)), ?_⟩)
      rw [show (rI h 150 ((nI tt).toNatClampNeg) : Int32) = nI n from by rw [nI_clamp (by omega)]; exact mt.2.2.2.1]
      refine exf_go 1 (show wpC (d + 3) true 289 [.ref 130, .int (nI tt), .int (nI n)] (uI h 130 0 0) (fun _ h' => Go (d + 3) true 290 29 [.ref 130, .int (nI tt), .int 0, mk_, mk_, mk_] [] h' Q) from ?_)
      refine m_laysRows (so := so) (vs := vs) (ms_fq ms (Fq.uI' Fq.rfl' _ _ _ rfl)) ht mt (by omega) haw (fun h1 q1 hR1 => ?_)
      have ms1 := ms_fq ms ((Fq.uI' Fq.rfl' _ _ _ rfl).tr q1)
      show Go (d + 3) true 290 29 [.ref 130, .int (nI tt), .int 0, mk_, mk_, mk_] [] h1 Q
      refine exf_go 4 (show Go (d + 3) true 290 34 [.ref 130, .int (nI tt), .int 0, .long 0, mk_, .int 0] [] h1 Q from ?_)
      have L34 : ∀ (k34 : Nat) (j u : Nat), (tot g - j) < k34 → (j ≤ tot g) → (u = sumN (rowR g l vs n) j) → Go (d + 3) true 290 34 [.ref 130, .int (nI tt), .int 0, .long (lN u), mk_, .int (nI j)] [] h1 Q := by
        intro k34
        induction k34 with
        | zero => intro j u hk; exact absurd hk (Nat.not_lt_zero _)
        | succ k34 ih34 =>
          intro j u hk hj hu
          refine exf_go 5 (show vp_in 4 41523 ∧ (Go (d + 3) true 290 42 [.ref 130, .int (nI tt), .int 0, .long (lN u), mk_, .int (nI j)] [.int (rI h1 131 4), .int (nI j)] h1 Q) from ⟨(vp_in_nI (n := 4) (by decide) (by decide)), ?_⟩)
          rw [show (rI h1 131 4 : Int32) = nI (tot g) from ms_N ms1]
          refine exf_go 1 (show ((nI (tot g)) ≤ (nI j) → Go (d + 3) true 290 61 [.ref 130, .int (nI tt), .int 0, .long (lN u), mk_, .int (nI j)] [] h1 Q) ∧ (¬ ((nI (tot g)) ≤ (nI j)) → Go (d + 3) true 290 45 [.ref 130, .int (nI tt), .int 0, .long (lN u), mk_, .int (nI j)] [] h1 Q) from ⟨fun c6 => ?_, fun c6 => ?_⟩)
          · skip
            have c6 : (tot g) ≤ j := (nI_leI (a := (tot g)) (b := j) (by omega) (by omega)).mp c6
            refine exf_go 2 (show Q (.long (lN u)) h1 from ?_)
            simp only [fRows, et, hq] at k; rw [if_neg h12, if_pos haw] at k
            rw [hu, show j = tot g from by omega]
            by_cases e1 : n = 1
            · rw [if_pos e1] at k; subst e1; rw [rows_1 hla]; exact k _ ((Fq.uI' Fq.rfl' _ _ _ rfl).tr q1)
            · rw [if_neg e1] at k; have e2 : n = 2 := by omega
              subst e2; rw [rows_2 hla]; exact k _ ((Fq.uI' Fq.rfl' _ _ _ rfl).tr q1)
          · skip
            have c6 : ¬ (tot g) ≤ j := fun q => c6 ((nI_leI (a := (tot g)) (b := j) (by omega) (by omega)).mpr q)
            refine exf_go 5 (show vp_in (nI j) 10000 ∧ (Go (d + 3) true 290 53 [.ref 130, .int (nI tt), .int 0, .long (lN u), mk_, .int (nI j)] [.long (rJ h1 147 ((nI j).toNatClampNeg)), .long (lN u)] h1 Q) from ⟨(vp_in_nI (by omega) (by omega)), ?_⟩)
            rw [show (rJ h1 147 ((nI j).toNatClampNeg) : Int64) = lN (rowR g l vs n j) from by rw [nI_clamp (by omega)]; exact hR1 _ (by omega)]
            refine exf_go 1 (show Go (d + 3) true 290 54 [.ref 130, .int (nI tt), .int 0, .long (lN u), mk_, .int (nI j)] [.long ((lN u) + (lN (rowR g l vs n j)))] h1 Q from ?_)
            rw [show ((lN u) + (lN (rowR g l vs n j)) : Int64) = lN (u + (rowR g l vs n j)) from lN_add u (rowR g l vs n j)]
            refine exf_go 2 (show Go (d + 3) true 290 58 [.ref 130, .int (nI tt), .int 0, .long (lN (u + (rowR g l vs n j))), mk_, .int ((nI j) + 1)] [] h1 Q from ?_)
            rw [show ((nI j) + 1 : Int32) = nI (j + 1) from nI_add j 1]
            refine exf_go 1 (show Go (d + 3) true 290 34 [.ref 130, .int (nI tt), .int 0, .long (lN (u + (rowR g l vs n j))), mk_, .int (nI (j + 1))] [] h1 Q from ?_)
            exact ih34 (j + 1) (u + (rowR g l vs n j)) (by omega) (by omega) (by rw [sumN, hu])
      exact L34 (tot g + 1) 0 0 (by omega) (by omega) rfl
    · skip
      exact absurd (by decide) c5
