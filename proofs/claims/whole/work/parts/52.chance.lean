/-! The model: chances. -/
/-- the weight of the first j in order -/
def fstL (g : ShG) (l : LkG) (j : Nat) : Nat := sumN (fun k => wtA g (sH g (ordL g l k))) j
theorem fst_of {g : ShG} {l : LkG} {h : Hp} (hg : ShW g) (mo : MO (lft g l) g (evr g) h) {j : Nat} (hj : j ≤ cntN (lft g l) (tot g)) : sumN (fun k => wtA g (sH g (ordOf h k))) j = fstL g l j := sumN_cg j (fun k hk => by rw [mo_L hg mo (by omega)])
theorem sumN_ge {f : Nat → Nat} {i : Nat} : ∀ n, i < n → f i ≤ sumN f n
  | 0, h => absurd h (Nat.not_lt_zero _)
  | n + 1, h => by
    rw [sumN]
    by_cases e : i = n
    · rw [e]; omega
    · have := sumN_ge (f := f) (i := i) n (by omega); omega
theorem sumL_pos {g : ShG} {l : LkG} (hg : ShW g) (h : 0 < cntN (lft g l) (tot g)) : 0 < sumL g l := by
  obtain ⟨n, hn, e⟩ := cnt_ex _ h
  have h1 : lwt g l n ≤ sumL g l := sumN_ge _ hn
  have h2 : 0 < wtA g (sH g n) := by
    have := of_decide_eq_true e
    have h3 := sH_b hg n
    unfold cel nol at this
    refine Nat.pos_of_ne_zero (fun q => ?_)
    rw [if_pos q] at this
    omega
  rw [lwt, e] at h1
  simp only [if_true] at h1
  omega
def fChance (g : ShG) (l : LkG) (x y : Int32) : Int64 := match ixN y 2 with
  | none => -2
  | some _ => if x < 0 then -3 else if cntL g l = 0 then -5 else fPart (fstL g l (min x.toNatClampNeg (cntL g l))) (sumL g l) y
theorem m_weightFirst {d : Nat} {h : Hp} {g : ShG} {l : LkG} {n : Nat} {Q : Po} (ms : MS g l h) (mw : MW g (evr g) h) (mo : MO (lft g l) g (evr g) h) (hn : n < 2 ^ 31) (k : Q (.long (lN (fstL g l (min n (cntN (lft g l) (tot g)))))) h) : wpC (d + 2) true 241 [.ref 130, .int (nI n)] h Q := by
  have hN := tot_b ms.1.1
  have h4 := ms.1.1.1
  have h8 := ms.1.1.2.2.2.1
  have he := evr_b ms.1.1
  have hev : evr g = 2 ^ sC g - 1 := rfl
  have hcc := cntN_le (lft g l) (tot g)
  refine go_in rfl ?_
  refine exf_go 4 (show Go (d + 1) true 241 5 [.ref 130, .int (nI n), .long 0, mk_, .int 0] [] h Q from ?_)
  have L5 : ∀ (k5 : Nat) (j s : Nat), (n - j) < k5 → (j ≤ cntN (lft g l) (tot g)) → (j ≤ n) → (s = sumN (fun j => wtA g (sH g (ordOf h j))) j) → Go (d + 1) true 241 5 [.ref 130, .int (nI n), .long (lN s), mk_, .int (nI j)] [] h Q := by
    intro k5
    induction k5 with
    | zero => intro j s hk; exact absurd hk (Nat.not_lt_zero _)
    | succ k5 ih5 =>
      intro j s hk hj hjn hs
      refine exf_go 3 (show ((nI n) ≤ (nI j) → Go (d + 1) true 241 35 [.ref 130, .int (nI n), .long (lN s), mk_, .int (nI j)] [] h Q) ∧ (¬ ((nI n) ≤ (nI j)) → Go (d + 1) true 241 11 [.ref 130, .int (nI n), .long (lN s), mk_, .int (nI j)] [] h Q) from ⟨fun c1 => ?_, fun c1 => ?_⟩)
      · skip
        have c1 : n ≤ j := (nI_leI (a := n) (b := j) (by omega) (by omega)).mp c1
        refine exf_go 2 (show Q (.long (lN s)) h from ?_)
        rw [hs, fst_of ms.1.1 mo hj, show j = min n (cntN (lft g l) (tot g)) from by omega]; exact k
      · skip
        have c1 : ¬ n ≤ j := fun q => c1 ((nI_leI (a := n) (b := j) (by omega) (by omega)).mpr q)
        refine exf_go 3 (show Go (d + 1) true 241 17 [.ref 130, .int (nI n), .long (lN s), mk_, .int (nI j)] [.int (rI h 130 22), .int (nI j)] h Q from ?_)
        rw [show (rI h 130 22 : Int32) = nI (cntN (lft g l) (tot g)) from mo.1]
        refine exf_go 1 (show ((nI (cntN (lft g l) (tot g))) ≤ (nI j) → Go (d + 1) true 241 35 [.ref 130, .int (nI n), .long (lN s), mk_, .int (nI j)] [] h Q) ∧ (¬ ((nI (cntN (lft g l) (tot g))) ≤ (nI j)) → Go (d + 1) true 241 20 [.ref 130, .int (nI n), .long (lN s), mk_, .int (nI j)] [] h Q) from ⟨fun c2 => ?_, fun c2 => ?_⟩)
        · skip
          have c2 : (cntN (lft g l) (tot g)) ≤ j := (nI_leI (a := (cntN (lft g l) (tot g))) (b := j) (by omega) (by omega)).mp c2
          refine exf_go 2 (show Q (.long (lN s)) h from ?_)
          rw [hs, fst_of ms.1.1 mo hj, show j = min n (cntN (lft g l) (tot g)) from by omega]; exact k
        · skip
          have c2 : ¬ (cntN (lft g l) (tot g)) ≤ j := fun q => c2 ((nI_leI (a := (cntN (lft g l) (tot g))) (b := j) (by omega) (by omega)).mpr q)
          refine exf_go 4 (show wpC (d + 1) true 229 [.ref 130, .int (nI j)] h (fun r h' => Go (d + 1) true 241 27 [.ref 130, .int (nI n), .long (lN s), mk_, .int (nI j)] [r, .long (lN s)] h' Q) from ?_)
          refine m_weightAt ms mw mo (by omega) ?_
          have := wtA_b ms.1.1 (sH g (ordOf h j))
          show Go (d + 1) true 241 27 [.ref 130, .int (nI n), .long (lN s), mk_, .int (nI j)] [.long (lN (wtA g (sH g (ordOf h j)))), .long (lN s)] h Q
          refine exf_go 1 (show Go (d + 1) true 241 28 [.ref 130, .int (nI n), .long (lN s), mk_, .int (nI j)] [.long ((lN s) + (lN (wtA g (sH g (ordOf h j)))))] h Q from ?_)
          rw [show ((lN s) + (lN (wtA g (sH g (ordOf h j)))) : Int64) = lN (s + (wtA g (sH g (ordOf h j)))) from lN_add s (wtA g (sH g (ordOf h j)))]
          refine exf_go 2 (show Go (d + 1) true 241 32 [.ref 130, .int (nI n), .long (lN (s + (wtA g (sH g (ordOf h j))))), mk_, .int ((nI j) + 1)] [] h Q from ?_)
          rw [show ((nI j) + 1 : Int32) = nI (j + 1) from nI_add j 1]
          refine exf_go 1 (show Go (d + 1) true 241 5 [.ref 130, .int (nI n), .long (lN (s + (wtA g (sH g (ordOf h j))))), mk_, .int (nI (j + 1))] [] h Q from ?_)
          exact ih5 (j + 1) (s + (wtA g (sH g (ordOf h j)))) (by omega) (by omega) (by omega) (by rw [hs]; rfl)
  exact L5 (n + 1) 0 0 (by omega) (by omega) (by omega) rfl
theorem fstL_b {g : ShG} {l : LkG} (hg : ShW g) {j : Nat} (hj : j ≤ 10000) : fstL g l j ≤ 1000000000000 := sumN_b (fun k => wtA_b hg _) j hj
theorem m_chance {d : Nat} {h : Hp} {g : ShG} {l : LkG} {x y : Int32} {Q : Po} (ms : MS g l h) (k : ∀ h1, Fq scM h h1 → Q (.long (fChance g l x y)) h1) : wpC (d + 134) true 242 [.ref 130, .int x, .int y] h Q := by
  have hN := tot_b ms.1.1
  have h4 := ms.1.1.1
  have h8 := ms.1.1.2.2.2.1
  have he := evr_b ms.1.1
  have hev : evr g = 2 ^ sC g - 1 := rfl
  refine go_in rfl ?_
  refine exf_go 8 (show wpC (d + 133) true 183 [.long y.toInt64, .long 0, .long 1] (uI h 130 0 0) (fun r h' => Go (d + 133) true 242 12 [.ref 130, .int x, .int y] [r] h' Q) from ?_)
  refine m_within (fun u1 v1 => ?_) (fun u1 => ?_)
  · skip
    obtain ⟨jy, ey, eyq, eyr⟩ := wi_in (n := 2) (by omega) u1 v1
    subst eyq
    show Go (d + 133) true 242 12 [.ref 130, .int x, .int (nI jy)] [.int 1] (uI h 130 0 0) Q
    refine exf_go 1 (show (¬ (1 : Int32) = 0 → Go (d + 133) true 242 19 [.ref 130, .int x, .int (nI jy)] [] (uI h 130 0 0) Q) ∧ (¬ (¬ (1 : Int32) = 0) → Go (d + 133) true 242 15 [.ref 130, .int x, .int (nI jy)] [] (uI h 130 0 0) Q) from ⟨fun c2 => ?_, fun c2 => ?_⟩)
    · skip
      refine exf_go 2 (show (0 ≤ x → Go (d + 133) true 242 27 [.ref 130, .int x, .int (nI jy)] [] (uI h 130 0 0) Q) ∧ (¬ (0 ≤ x) → Go (d + 133) true 242 23 [.ref 130, .int x, .int (nI jy)] [] (uI h 130 0 0) Q) from ⟨fun c3 => ?_, fun c3 => ?_⟩)
      · skip
        obtain ⟨j, e1, e2⟩ := nI_of (Int32.not_lt.mpr c3)
        subst e2
        have e3 := nI_pos e1
        refine exf_go 2 (show wpC (d + 133) true 228 [.ref 130] (uI h 130 0 0) (fun _ h' => Go (d + 133) true 242 31 [.ref 130, .int (nI j), .int (nI jy)] [] h' Q) from ?_)
        refine m_laysLeft (ms_fq ms (Fq.uI' Fq.rfl' _ _ _ rfl)) (fun h1 p1 mw1 mo1 => ?_)
        have q1 := Fq.tr (Fq.uI' Fq.rfl' _ _ _ rfl) p1
        have ms1 := ms_fq ms q1
        have hcc := cntN_le (lft g l) (tot g)
        show Go (d + 133) true 242 31 [.ref 130, .int (nI j), .int (nI jy)] [] h1 Q
        refine exf_go 2 (show Go (d + 133) true 242 35 [.ref 130, .int (nI j), .int (nI jy)] [.int (rI h1 130 22)] h1 Q from ?_)
        rw [show (rI h1 130 22 : Int32) = nI (cntN (lft g l) (tot g)) from mo1.1]
        refine exf_go 1 (show (¬ (nI (cntN (lft g l) (tot g))) = 0 → Go (d + 133) true 242 44 [.ref 130, .int (nI j), .int (nI jy)] [] h1 Q) ∧ (¬ (¬ (nI (cntN (lft g l) (tot g))) = 0) → Go (d + 133) true 242 38 [.ref 130, .int (nI j), .int (nI jy)] [] h1 Q) from ⟨fun c4 => ?_, fun c4 => ?_⟩)
        · skip
          have c4 : ¬ (cntN (lft g l) (tot g)) = 0 := fun q => c4 ((nI_eq (a := (cntN (lft g l) (tot g))) (b := 0) (by omega) (by omega)).mpr q)
          refine exf_go 3 (show wpC (d + 133) true 241 [.ref 130, .int (nI j)] h1 (fun r h' => Go (d + 133) true 242 49 [.ref 130, .int (nI j), .int (nI jy)] [r] h' Q) from ?_)
          refine m_weightFirst ms1 mw1 mo1 (by omega) ?_
          have hfl : fstL g l (min j (cntN (lft g l) (tot g))) ≤ 1000000000000 := fstL_b ms.1.1 (by omega)
          show Go (d + 133) true 242 49 [.ref 130, .int (nI j), .int (nI jy)] [.long (lN (fstL g l (min j (cntN (lft g l) (tot g)))))] h1 Q
          refine exf_go 2 (show wpC (d + 133) true 230 [.ref 130] h1 (fun r h' => Go (d + 133) true 242 53 [.ref 130, .int (nI j), .int (nI jy)] [r, .long (lN (fstL g l (min j (cntN (lft g l) (tot g)))))] h' Q) from ?_)
          refine m_weightAll ms1 mw1 mo1 ?_
          have hsL : sumL g l ≤ 1000000000000 := sumN_b (lwt_b ms.1.1 l) _ hN.2
          show Go (d + 133) true 242 53 [.ref 130, .int (nI j), .int (nI jy)] [.long (lN (sumL g l)), .long (lN (fstL g l (min j (cntN (lft g l) (tot g)))))] h1 Q
          refine exf_go 2 (show wpC (d + 133) true 236 [.long (lN (fstL g l (min j (cntN (lft g l) (tot g))))), .long (lN (sumL g l)), .int (nI jy)] h1 (fun r h' => Go (d + 133) true 242 57 [.ref 130, .int (nI j), .int (nI jy)] [r] h' Q) from ?_)
          have hsp := sumL_pos (l := l) ms.1.1 (by omega)
          refine m_part (u := (fstL g l (min j (cntN (lft g l) (tot g))))) (v := (sumL g l)) (by omega) (by omega) (by omega) ?_
          show Go (d + 133) true 242 57 [.ref 130, .int (nI j), .int (nI jy)] [.long (fPart (fstL g l (min j (cntN (lft g l) (tot g)))) (sumL g l) (nI jy))] h1 Q
          refine exf_go 1 (show Q (.long (fPart (fstL g l (min j (cntN (lft g l) (tot g)))) (sumL g l) (nI jy))) h1 from ?_)
          simp only [fChance, ey] at k
          rw [if_neg e3, if_neg (show ¬ cntL g l = 0 from c4), nI_clamp e1] at k
          exact k _ q1
        · skip
          have c4 : (cntN (lft g l) (tot g)) = 0 := (nI_eq (a := (cntN (lft g l) (tot g))) (b := 0) (by omega) (by omega)).mp (Classical.not_not.mp c4)
          refine exf_go 3 (show Q (.long (-5)) h1 from ?_)
          simp only [fChance, ey] at k
          rw [if_neg e3, if_pos (show cntL g l = 0 from c4)] at k
          exact k _ q1
      · skip
        refine exf_go 2 (show Q (.long (-3)) (uI h 130 0 0) from ?_)
        simp only [fChance, ey] at k
        rw [if_pos (Int32.not_le.mp c3)] at k
        exact k _ (Fq.uI' Fq.rfl' _ _ _ rfl)
    · skip
      exact absurd (by decide) c2
  · skip
    have ey : ixN y 2 = none := u1.elim wi_neg (wi_ge (n := 2) (by omega))
    show Go (d + 133) true 242 12 [.ref 130, .int x, .int y] [.int 0] (uI h 130 0 0) Q
    refine exf_go 1 (show (¬ (0 : Int32) = 0 → Go (d + 133) true 242 19 [.ref 130, .int x, .int y] [] (uI h 130 0 0) Q) ∧ (¬ (¬ (0 : Int32) = 0) → Go (d + 133) true 242 15 [.ref 130, .int x, .int y] [] (uI h 130 0 0) Q) from ⟨fun c5 => ?_, fun c5 => ?_⟩)
    · skip
      exact absurd c5 (by decide)
    · skip
      refine exf_go 2 (show Q (.long (-2)) (uI h 130 0 0) from ?_)
      simp only [fChance, ey] at k
      exact k _ (Fq.uI' Fq.rfl' _ _ _ rfl)
