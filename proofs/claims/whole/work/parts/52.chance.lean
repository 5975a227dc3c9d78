/-! The model: chances. -/
/-- the weight of the first j in order -/
def fstL (g : ShG) (l : LkG) (j : Nat) : Nat := sumN (fun k => wtA g (sH g (ordL g l k))) j
theorem fst_of {g : ShG} {l : LkG} {h : Hp} (hg : ShW g) (mo : MO (lft g l) g (evr g) h) {j : Nat} (hj : j ≤ cntN (lft g l) (tot g)) : sumN (fun k => wtA g (sH g (ordOf h k))) j = fstL g l j := sumN_cg j (fun k hk => by rw [mo_L hg mo (by omega)])
theorem sumN_ge {f : Nat → Nat} {i : Nat} : ∀ n, i < n → f i ≤ sumN f n
  | 0, h => absurd h (Nat.not_lt_zero _)
  | n + 1, h => by
    rw [sumN]
    by_cases e : i = n
    · rw [e]; omega
    · have := sumN_ge (f := f) (i := i) n (by omega); omega
theorem sumL_pos {g : ShG} {l : LkG} (hg : ShW g) (h : 0 < cntN (lft g l) (tot g)) : 0 < sumL g l := by
  obtain ⟨n, hn, e⟩ := cnt_ex _ h
  have h1 : lwt g l n ≤ sumL g l := sumN_ge _ hn
  have h2 : 0 < wtA g (sH g n) := by
    have := of_decide_eq_true e
    have h3 := sH_b hg n
    unfold cel nol at this
    refine Nat.pos_of_ne_zero (fun q => ?_)
    rw [if_pos q] at this
    omega
  rw [lwt, e] at h1
  simp only [if_true] at h1
  omega
def fChance (g : ShG) (l : LkG) (x y : Int32) : Int64 := match ixN y 2 with
  | none => -2
  | some _ => if x < 0 then -3 else if cntL g l = 0 then -5 else fPart (fstL g l (min x.toNatClampNeg (cntL g l))) (sumL g l) y
theorem m_weightFirst {d : Nat} {h : Hp} {g : ShG} {l : LkG} {n : Nat} {Q : Po} (ms : MS g l h) (mw : MW g (evr g) h) (mo : MO (lft g l) g (evr g) h) (hn : n < 2 ^ 31) (k : Q (.long (lN (fstL g l (min n (cntN (lft g l) (tot g)))))) h) : wpC (d + 2) true 241 [.ref 130, .int (nI n)] h Q := by
  have hN := tot_b ms.1.1
  have h4 := ms.1.1.1
  have h8 := ms.1.1.2.2.2.1
  have he := evr_b ms.1.1
  have hev : evr g = 2 ^ sC g - 1 := rfl
  have hcc := cntN_le (lft g l) (tot g)
  refine go_in rfl ?_
  refine exf_go 4 (show Go (d + 1) true 241 5 [.ref 130, .int (nI n), .long 0, mk_, .int 0] [] h Q from ?_)
  have L5 : ∀ (k5 : Nat) (j s : Nat), (n - j) < k5 → (j ≤ cntN (lft g l) (tot g)) → (j ≤ n) → (s = sumN (fun j => wtA g (sH g (ordOf h j))) j) → Go (d + 1) true 241 5 [.ref 130, .int (nI n), .long (lN s), mk_, .int (nI j)] [] h Q := by
    intro k5
    induction k5 with
    | zero => intro j s hk; exact absurd hk (Nat.not_lt_zero _)
    | succ k5 ih5 =>
      intro j s hk hj hjn hs
      refine exf_go 3 (show ((nI n) ≤ (nI j) → Go (d + 1) true 241 35 [.ref 130, .int (nI n), .long (lN s), mk_, .int (nI j)] [] h Q) ∧ (¬ ((nI n) ≤ (nI j)) → Go (d + 1) true 241 11 [.ref 130, .int (nI n), .long (lN s), mk_, .int (nI j)] [] h Q) from ⟨fun c1 => ?_, fun c1 => ?_⟩)
      · skip
        have c1 : n ≤ j := (nI_leI (a := n) (b := j) (by omega) (by omega)).mp c1
        refine exf_go 2 (show Q (.long (lN s)) h from ?_)
        rw [hs, fst_of ms.1.1 mo hj, show j = min n (cntN (lft g l) (tot g)) from by omega]; exact k
      · skip
        have c1 : ¬ n ≤ j := fun q => c1 ((nI_leI (a := n) (b := j) (by omega) (by omega)).mpr q)
        refine exf_go 3 (show Go (d + 1) true 241 17 [.ref 130, .int (nI n), .long (lN s), mk_, .int (nI j)] [.int (rI h 130 22), .int (nI j)] h Q from ?_)
        rw [show (rI h 130 22 : Int32) = nI (cntN (lft g l) (tot g)) from mo.1]
        refine exf_go 1 (show ((nI (cntN (lft g l) (tot g))) ≤ (nI j) → Go (d + 1) true 241 35 [.ref 130, .int (nI n), .long (lN s), mk_, .int (nI j)] [] h Q) ∧ (¬ ((nI (cntN (lft g l) (tot g))) ≤ (nI j)) → Go (d + 1) true 241 20 [.ref 130, .int (nI n), .long (lN s), mk_, .int (nI j)] [] h Q) from ⟨fun c2 => ?_, fun c2 => ?_⟩)
        · skip
          have c2 : (cntN (lft g l) (tot g)) ≤ j := (nI_leI (a := (cntN (lft g l) (tot g))) (b := j) (by omega) (by omega)).mp c2
          refine exf_go 2 (show Q (.long (lN s)) h from ?_)
          rw [hs, fst_of ms.1.1 mo hj, show j = min n (cntN (lft g l) (tot g)) from by omega]; exact k
        · skip
          have c2 : ¬ (cntN (lft g l) (tot g)) ≤ j := fun q => c2 ((nI_leI (a := (cntN (lft g l) (tot g))) (b := j) (by omega) (by omega)).mpr q)
          refine exf_go 4 (show wpC (d + 1) true 229 [.ref 130, .int (nI j)] h (fun r h' => Go (d + 1) true 241 27 [.ref 130, .int (nI n), .long (lN s), mk_, .int (nI j)] [r, .long (lN s)] h' Q) from ?_)
          refine m_weightAt ms mw mo (by omega) ?_
          have := wtA_b ms.1.1 (sH g (ordOf h j))
          show Go (d + 1) true 241 27 [.ref 130, .int (nI n), .long (lN s), mk_, .int (nI j)] [.long (lN (wtA g (sH g (ordOf h j)))), .long (lN s)] h Q
          refine exf_go 1 (show Go (d + 1) true 241 28 [.ref 130, .int (nI n), .long (lN s), mk_, .int (nI j)] [.long ((lN s) + (lN (wtA g (sH g (ordOf h j)))))] h Q from ?_)
          rw [show ((lN s) + (lN (wtA g (sH g (ordOf h j)))) : Int64) = lN (s + (wtA g (sH g (ordOf h j)))) from lN_add s (wtA g (sH g (ordOf h j)))]
          refine exf_go 2 (show Go (d + 1) true 241 32 [.ref 130, .int (nI n), .long (lN (s + (wtA g (sH g (ordOf h j))))), mk_, .int ((nI j) + 1)] [] h Q from ?_)
          rw [show ((nI j) + 1 : Int32) = nI (j + 1) from nI_add j 1]
          refine exf_go 1 (show Go (d + 1) true 241 5 [.ref 130, .int (nI n), .long (lN (s + (wtA g (sH g (ordOf h j))))), mk_, .int (nI (j + 1))] [] h Q from ?_)
          exact ih5 (j + 1) (s + (wtA g (sH g (ordOf h j)))) (by omega) (by omega) (by omega) (by rw [hs]; rfl)
  exact L5 (n + 1) 0 0 (by omega) (by omega) (by omega) rfl
