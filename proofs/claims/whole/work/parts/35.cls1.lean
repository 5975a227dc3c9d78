/-! The class's asking calls. -/
theorem ix_le {x : Int32} {n : Nat} (hn : n + 1 < 2 ^ 31) (h : ¬ x < 0) (h2 : x ≤ nI n) : ∃ j, ixN x (n + 1) = some j ∧ x = nI j ∧ j < n + 1 := by
  refine ix_in hn h (fun q => ?_)
  have := Int32.le_trans q h2
  exact absurd ((nI_leI hn (by omega)).mp this) (by omega)
theorem ix_gt {x : Int32} {n : Nat} (hn : n + 1 < 2 ^ 31) (h2 : ¬ x ≤ nI n) : ixN x (n + 1) = none := by
  apply ix_ge
  rw [Int32.le_iff_toInt_le] at h2 ⊢
  rw [nI_toInt (by omega)] at h2 ⊢
  omega
def popc (m : Nat) : Nat := sumN (btn m) 8
/-- the first of those that p takes with the least f -/
def nrF (p : Nat → Bool) (f : Nat → Nat) : Nat → Option Nat × Nat
  | 0 => (none, 0)
  | n + 1 => if p n then (match (nrF p f n).1 with
      | none => (some n, f n)
      | some b => if f n < (nrF p f n).2 then (some n, f n) else (some b, (nrF p f n).2)) else nrF p f n
theorem nrF_b {p : Nat → Bool} {f : Nat → Nat} : ∀ n b, (nrF p f n).1 = some b → b < n
  | 0, b, h => by simp [nrF] at h
  | n + 1, b, h => by
    have ih := nrF_b (p := p) (f := f) n
    rw [nrF] at h
    split at h
    · split at h
      · simp at h; omega
      · rename_i b' e
        split at h
        · simp at h; omega
        · simp at h
          have := ih _ e
          omega
    · have := ih b h
      omega
theorem nrF_le {p : Nat → Bool} {f : Nat → Nat} {c : Nat} (hf : ∀ k, f k ≤ c) : ∀ n, (nrF p f n).2 ≤ c
  | 0 => Nat.zero_le _
  | n + 1 => by
    have ih := nrF_le (p := p) hf n
    have := hf n
    rw [nrF]
    repeat' split
    all_goals first | exact ih | exact this
theorem nr_no {p : Nat → Bool} {f : Nat → Nat} {n : Nat} {s : Option Nat × Nat} (hs : s = nrF p f n) (h : p n = false) : s = nrF p f (n + 1) := by rw [nrF, h]; exact hs
theorem nr_first {p : Nat → Bool} {f : Nat → Nat} {n m : Nat} (hs : (none, m) = nrF p f n) (h : p n = true) : (some n, f n) = nrF p f (n + 1) := by rw [nrF, h, ← hs]; rfl
theorem nr_less {p : Nat → Bool} {f : Nat → Nat} {n m b : Nat} (hs : (some b, m) = nrF p f n) (h : p n = true) (hl : f n < m) : (some n, f n) = nrF p f (n + 1) := by rw [nrF, h, ← hs]; simp only [if_true]; rw [if_pos hl]
theorem nr_more {p : Nat → Bool} {f : Nat → Nat} {n m b : Nat} (hs : (some b, m) = nrF p f n) (h : p n = true) (hl : ¬ f n < m) : (some b, m) = nrF p f (n + 1) := by rw [nrF, h, ← hs]; simp only [if_true]; rw [if_neg hl]
theorem cn_y {p : Nat → Bool} {n s : Nat} (hs : s = cntN p n) (h : p n = true) : s + 1 = cntN p (n + 1) := by rw [cntN, h, hs]; rfl
theorem cn_n {p : Nat → Bool} {n s : Nat} (hs : s = cntN p n) (h : p n = false) : s = cntN p (n + 1) := by rw [cntN, h, hs]; rfl
def fFigure (g : ShG) (x y : Int32) : Int32 := match ixN y (sW g) with
  | none => -2
  | some w => match ixN x (tot g) with
    | none => -3
    | some n => nI (fgo g n w)
def fSteps (g : ShG) (x y : Int32) : Int32 := match ixN x (tot g) with
  | none => -3
  | some n => match ixN y (tot g) with
    | none => -3
    | some m => nI (trn g n m)
def fHolds (g : ShG) (x y : Int32) : Int32 := match ixN x (sC g) with
  | none => -2
  | some c => match ixN y (tot g) with
    | none => -3
    | some n => nI (btn (sH g n) c)
def fLikely (g : ShG) (l : LkG) (x : Int32) : Int64 := match ixN x (tot g) with
  | none => -3
  | some n => lN (lwt g l n)
def cntL (g : ShG) (l : LkG) : Nat := cntN (lft g l) (tot g)
def fTells (g : ShG) (l : LkG) (x y : Int32) : Int64 := match ixN x (sW g) with
  | none => -2
  | some w => match ixN y (sF g w) with
    | none => -3
    | some f => lN (sumN (fun n => if fgo g n w = f then lwt g l n else 0) (tot g))
def fBut (g : ShG) (l : LkG) (x : Int32) : Int32 := match ixN x 9 with
  | none => -3
  | some b => nI (cntN (fun n => lft g l n && decide (sC g - popc (sH g n) ≤ b)) (tot g))
def fNear (g : ShG) (l : LkG) (x : Int32) : Int32 := if x < 0 then -3 else nI (cntN (fun n => lft g l n && decide (trn g (lA l) n ≤ x.toNatClampNeg)) (tot g))
def nrL (g : ShG) (l : LkG) : Nat → Option Nat × Nat := nrF (lft g l) (fun n => trn g (lA l) n)
def fNearest (g : ShG) (l : LkG) : Int32 := oI (nrL g l (tot g)).1
theorem c_figure {d : Nat} {h : Hp} {g : ShG} {x y : Int32} {Q : Po} (cs : CS 31 g h) (k : Q (.int (fFigure g x y)) h) : wpC (d + 2) true 117 [.ref 10, .int x, .int y] h Q := by
  have hN := tot_b cs.1
  have h4 := cs.1.1
  refine go_in rfl ?_
  refine exf_go 3 (show wpC (d + 1) true 155 [.ref 10, .int y] h (fun r h' => Go (d + 1) true 117 5 [.ref 10, .int x, .int y] [r] h' Q) from ?_)
  refine c_isWheel cs (fun j1 e1 q1 r1 => ?_) (fun e1 => ?_)
  · skip
    subst q1
    show Go (d + 1) true 117 5 [.ref 10, .int x, .int (nI j1)] [.int 1] h Q
    refine exf_go 1 (show (¬ (1 : Int32) = 0 → Go (d + 1) true 117 11 [.ref 10, .int x, .int (nI j1)] [] h Q) ∧ (¬ (¬ (1 : Int32) = 0) → Go (d + 1) true 117 8 [.ref 10, .int x, .int (nI j1)] [] h Q) from ⟨fun c2 => ?_, fun c2 => ?_⟩)
    · skip
      refine exf_go 3 (show wpC (d + 1) true 157 [.ref 10, .int x] h (fun r h' => Go (d + 1) true 117 16 [.ref 10, .int x, .int (nI j1)] [r] h' Q) from ?_)
      refine c_isNumber cs (fun j3 e3 q3 r3 => ?_) (fun e3 => ?_)
      · skip
        subst q3
        show Go (d + 1) true 117 16 [.ref 10, .int (nI j3), .int (nI j1)] [.int 1] h Q
        refine exf_go 1 (show (¬ (1 : Int32) = 0 → Go (d + 1) true 117 22 [.ref 10, .int (nI j3), .int (nI j1)] [] h Q) ∧ (¬ (¬ (1 : Int32) = 0) → Go (d + 1) true 117 19 [.ref 10, .int (nI j3), .int (nI j1)] [] h Q) from ⟨fun c4 => ?_, fun c4 => ?_⟩)
        · skip
          refine exf_go 5 (show wpC (d + 1) true 81 [.ref 31, .int (nI j3), .int (nI j1)] h (fun r h' => Go (d + 1) true 117 31 [.ref 10, .int (nI j3), .int (nI j1)] [r] h' Q) from ?_)
          refine c_figureOf cs (by omega) (by omega) ?_
          have := fgo_lt cs.1 j3 j1; have := sF_b cs.1 j1
          show Go (d + 1) true 117 31 [.ref 10, .int (nI j3), .int (nI j1)] [.int (nI (fgo g j3 j1))] h Q
          refine exf_go 1 (show Q (.int (nI (fgo g j3 j1))) h from ?_)
          simp only [fFigure, *] at k; exact k
        · skip
          exact absurd (by decide) c4
      · skip
        show Go (d + 1) true 117 16 [.ref 10, .int x, .int (nI j1)] [.int 0] h Q
        refine exf_go 1 (show (¬ (0 : Int32) = 0 → Go (d + 1) true 117 22 [.ref 10, .int x, .int (nI j1)] [] h Q) ∧ (¬ (¬ (0 : Int32) = 0) → Go (d + 1) true 117 19 [.ref 10, .int x, .int (nI j1)] [] h Q) from ⟨fun c5 => ?_, fun c5 => ?_⟩)
        · skip
          exact absurd c5 (by decide)
        · skip
          refine exf_go 2 (show Q (.int (-3)) h from ?_)
          simp only [fFigure, *] at k; exact k
    · skip
      exact absurd (by decide) c2
  · skip
    show Go (d + 1) true 117 5 [.ref 10, .int x, .int y] [.int 0] h Q
    refine exf_go 1 (show (¬ (0 : Int32) = 0 → Go (d + 1) true 117 11 [.ref 10, .int x, .int y] [] h Q) ∧ (¬ (¬ (0 : Int32) = 0) → Go (d + 1) true 117 8 [.ref 10, .int x, .int y] [] h Q) from ⟨fun c6 => ?_, fun c6 => ?_⟩)
    · skip
      exact absurd c6 (by decide)
    · skip
      refine exf_go 2 (show Q (.int (-2)) h from ?_)
      simp only [fFigure, *] at k; exact k
theorem c_steps {d : Nat} {h : Hp} {g : ShG} {x y : Int32} {Q : Po} (cs : CS 31 g h) (k : Q (.int (fSteps g x y)) h) : wpC (d + 4) true 133 [.ref 10, .int x, .int y] h Q := by
  have hN := tot_b cs.1
  refine go_in rfl ?_
  refine exf_go 3 (show wpC (d + 3) true 157 [.ref 10, .int x] h (fun r h' => Go (d + 3) true 133 5 [.ref 10, .int x, .int y] [r] h' Q) from ?_)
  refine c_isNumber cs (fun j1 e1 q1 r1 => ?_) (fun e1 => ?_)
  · skip
    subst q1
    show Go (d + 3) true 133 5 [.ref 10, .int (nI j1), .int y] [.int 1] h Q
    refine exf_go 1 (show ((1 : Int32) = 0 → Go (d + 3) true 133 16 [.ref 10, .int (nI j1), .int y] [] h Q) ∧ (¬ ((1 : Int32) = 0) → Go (d + 3) true 133 8 [.ref 10, .int (nI j1), .int y] [] h Q) from ⟨fun c2 => ?_, fun c2 => ?_⟩)
    · skip
      exact absurd c2 (by decide)
    · skip
      refine exf_go 3 (show wpC (d + 3) true 157 [.ref 10, .int y] h (fun r h' => Go (d + 3) true 133 13 [.ref 10, .int (nI j1), .int y] [r] h' Q) from ?_)
      refine c_isNumber cs (fun j3 e3 q3 r3 => ?_) (fun e3 => ?_)
      · skip
        subst q3
        show Go (d + 3) true 133 13 [.ref 10, .int (nI j1), .int (nI j3)] [.int 1] h Q
        refine exf_go 1 (show (¬ (1 : Int32) = 0 → Go (d + 3) true 133 19 [.ref 10, .int (nI j1), .int (nI j3)] [] h Q) ∧ (¬ (¬ (1 : Int32) = 0) → Go (d + 3) true 133 16 [.ref 10, .int (nI j1), .int (nI j3)] [] h Q) from ⟨fun c4 => ?_, fun c4 => ?_⟩)
        · skip
          refine exf_go 5 (show wpC (d + 3) true 83 [.ref 31, .int (nI j1), .int (nI j3)] h (fun r h' => Go (d + 3) true 133 28 [.ref 10, .int (nI j1), .int (nI j3)] [r] h' Q) from ?_)
          refine c_turns cs (by omega) (by omega) ?_
          have := trn_b cs.1 j1 j3
          show Go (d + 3) true 133 28 [.ref 10, .int (nI j1), .int (nI j3)] [.int (nI (trn g j1 j3))] h Q
          refine exf_go 1 (show Q (.int (nI (trn g j1 j3))) h from ?_)
          simp only [fSteps, *] at k; exact k
        · skip
          exact absurd (by decide) c4
      · skip
        show Go (d + 3) true 133 13 [.ref 10, .int (nI j1), .int y] [.int 0] h Q
        refine exf_go 1 (show (¬ (0 : Int32) = 0 → Go (d + 3) true 133 19 [.ref 10, .int (nI j1), .int y] [] h Q) ∧ (¬ (¬ (0 : Int32) = 0) → Go (d + 3) true 133 16 [.ref 10, .int (nI j1), .int y] [] h Q) from ⟨fun c5 => ?_, fun c5 => ?_⟩)
        · skip
          exact absurd c5 (by decide)
        · skip
          refine exf_go 2 (show Q (.int (-3)) h from ?_)
          simp only [fSteps, *] at k; exact k
  · skip
    show Go (d + 3) true 133 5 [.ref 10, .int x, .int y] [.int 0] h Q
    refine exf_go 1 (show ((0 : Int32) = 0 → Go (d + 3) true 133 16 [.ref 10, .int x, .int y] [] h Q) ∧ (¬ ((0 : Int32) = 0) → Go (d + 3) true 133 8 [.ref 10, .int x, .int y] [] h Q) from ⟨fun c6 => ?_, fun c6 => ?_⟩)
    · skip
      refine exf_go 2 (show Q (.int (-3)) h from ?_)
      simp only [fSteps, *] at k; exact k
    · skip
      exact absurd (by decide) c6
theorem c_likely {d : Nat} {h : Hp} {g : ShG} {l : LkG} {x : Int32} {Q : Po} (cs : CS 31 g h) (cl : CL 39 g l h) (k : Q (.long (fLikely g l x)) h) : wpC (d + 4) true 118 [.ref 10, .int x] h Q := by
  have hN := tot_b cs.1
  refine go_in rfl ?_
  refine exf_go 3 (show wpC (d + 3) true 157 [.ref 10, .int x] h (fun r h' => Go (d + 3) true 118 5 [.ref 10, .int x] [r] h' Q) from ?_)
  refine c_isNumber cs (fun j1 e1 q1 r1 => ?_) (fun e1 => ?_)
  · skip
    subst q1
    show Go (d + 3) true 118 5 [.ref 10, .int (nI j1)] [.int 1] h Q
    refine exf_go 1 (show (¬ (1 : Int32) = 0 → Go (d + 3) true 118 12 [.ref 10, .int (nI j1)] [] h Q) ∧ (¬ (¬ (1 : Int32) = 0) → Go (d + 3) true 118 8 [.ref 10, .int (nI j1)] [] h Q) from ⟨fun c2 => ?_, fun c2 => ?_⟩)
    · skip
      refine exf_go 3 (show wpC (d + 3) true 164 [.ref 10, .int (nI j1)] h (fun r h' => Go (d + 3) true 118 17 [.ref 10, .int (nI j1)] [r] h' Q) from ?_)
      refine c_leftWeight cs cl (by omega) ?_
      have := lwt_b cs.1 l j1
      show Go (d + 3) true 118 17 [.ref 10, .int (nI j1)] [.long (lN (lwt g l j1))] h Q
      refine exf_go 1 (show Q (.long (lN (lwt g l j1))) h from ?_)
      simp only [fLikely, *] at k; exact k
    · skip
      exact absurd (by decide) c2
  · skip
    show Go (d + 3) true 118 5 [.ref 10, .int x] [.int 0] h Q
    refine exf_go 1 (show (¬ (0 : Int32) = 0 → Go (d + 3) true 118 12 [.ref 10, .int x] [] h Q) ∧ (¬ (¬ (0 : Int32) = 0) → Go (d + 3) true 118 8 [.ref 10, .int x] [] h Q) from ⟨fun c3 => ?_, fun c3 => ?_⟩)
    · skip
      exact absurd c3 (by decide)
    · skip
      refine exf_go 2 (show Q (.long (-3)) h from ?_)
      simp only [fLikely, *] at k; exact k
theorem c_left {d : Nat} {h : Hp} {g : ShG} {l : LkG} {Q : Po} (cs : CS 31 g h) (cl : CL 39 g l h) (k : Q (.int (nI (cntL g l))) h) : wpC (d + 4) true 119 [.ref 10] h Q := by
  have hN := tot_b cs.1
  refine go_in rfl ?_
  refine exf_go 3 (show wpC (d + 3) true 33 [.ref 39] h (fun r h' => Go (d + 3) true 119 7 [.ref 10] [r] h' Q) from ?_)
  refine c_leftOnes cs cl ?_
  have := cntN_le (lft g l) (tot g)
  show Go (d + 3) true 119 7 [.ref 10] [.int (nI (cntN (lft g l) (tot g)))] h Q
  refine exf_go 1 (show Q (.int (nI (cntN (lft g l) (tot g)))) h from ?_)
  exact k
theorem c_all {d : Nat} {h : Hp} {g : ShG} {l : LkG} {Q : Po} (cs : CS 31 g h) (cl : CL 39 g l h) (k : Q (.long (lN (sumL g l))) h) : wpC (d + 5) true 120 [.ref 10] h Q := by
  have hN := tot_b cs.1
  refine go_in rfl ?_
  refine exf_go 2 (show wpC (d + 4) true 165 [.ref 10] h (fun r h' => Go (d + 4) true 120 4 [.ref 10] [r] h' Q) from ?_)
  refine c_leftSum cs cl ?_
  have hsL : sumL g l ≤ 1000000000000 := sumN_b (lwt_b cs.1 l) _ hN.2
  show Go (d + 4) true 120 4 [.ref 10] [.long (lN (sumL g l))] h Q
  refine exf_go 1 (show Q (.long (lN (sumL g l))) h from ?_)
  exact k
theorem c_holds {d : Nat} {h : Hp} {g : ShG} {l : LkG} {x y : Int32} {Q : Po} (cs : CS 31 g h) (cl : CL 39 g l h) (k : Q (.int (fHolds g x y)) h) : wpC (d + 3) true 116 [.ref 10, .int x, .int y] h Q := by
  have hN := tot_b cs.1
  have h8 := cs.1.2.2.2.1
  have hb := fun n => sH_b cs.1 n
  refine go_in rfl ?_
  refine exf_go 2 (show (x < 0 → Go (d + 2) true 116 15 [.ref 10, .int x, .int y] [] h Q) ∧ (¬ (x < 0) → Go (d + 2) true 116 4 [.ref 10, .int x, .int y] [] h Q) from ⟨fun c1 => ?_, fun c1 => ?_⟩)
  · skip
    have e1 : ixN x (sC g) = none := ix_neg c1
    refine exf_go 2 (show Q (.int (-2)) h from ?_)
    simp only [fHolds, *] at k; exact k
  · skip
    refine exf_go 4 (show Go (d + 2) true 116 12 [.ref 10, .int x, .int y] [.int (rI h 31 6), .int x] h Q from ?_)
    rw [show (rI h 31 6 : Int32) = nI (sC g) from cs_C cs]
    refine exf_go 1 (show (x < (nI (sC g)) → Go (d + 2) true 116 18 [.ref 10, .int x, .int y] [] h Q) ∧ (¬ (x < (nI (sC g))) → Go (d + 2) true 116 15 [.ref 10, .int x, .int y] [] h Q) from ⟨fun c2 => ?_, fun c2 => ?_⟩)
    · skip
      obtain ⟨j, e1, e2, e3⟩ := ix_in (by omega) c1 (Int32.not_le.mpr c2)
      subst e2
      refine exf_go 3 (show wpC (d + 2) true 157 [.ref 10, .int y] h (fun r h' => Go (d + 2) true 116 23 [.ref 10, .int (nI j), .int y] [r] h' Q) from ?_)
      refine c_isNumber cs (fun j3 e3 q3 r3 => ?_) (fun e3 => ?_)
      · skip
        subst q3
        show Go (d + 2) true 116 23 [.ref 10, .int (nI j), .int (nI j3)] [.int 1] h Q
        refine exf_go 1 (show (¬ (1 : Int32) = 0 → Go (d + 2) true 116 29 [.ref 10, .int (nI j), .int (nI j3)] [] h Q) ∧ (¬ (¬ (1 : Int32) = 0) → Go (d + 2) true 116 26 [.ref 10, .int (nI j), .int (nI j3)] [] h Q) from ⟨fun c4 => ?_, fun c4 => ?_⟩)
        · skip
          refine exf_go 4 (show wpC (d + 2) true 29 [.ref 39, .int (nI j3)] h (fun r h' => Go (d + 2) true 116 37 [.ref 10, .int (nI j), .int (nI j3)] [r] h' Q) from ?_)
          refine c_maskOf cs cl (by omega) ?_
          have := sH_b cs.1 j3
          show Go (d + 2) true 116 37 [.ref 10, .int (nI j), .int (nI j3)] [.int (nI (sH g j3))] h Q
          refine exf_go 2 (show Go (d + 2) true 116 39 [.ref 10, .int (nI j), .int (nI j3)] [.int ((nI (sH g j3)) >>> ((nI j) &&& 31))] h Q from ?_)
          rw [show ((nI (sH g j3)) >>> ((nI j) &&& 31) : Int32) = nI ((sH g j3) / 2 ^ j) from nI_shr (a := (sH g j3)) (k := j) (by omega) (by omega)]
          refine exf_go 2 (show Go (d + 2) true 116 41 [.ref 10, .int (nI j), .int (nI j3)] [.int ((nI ((sH g j3) / 2 ^ j)) &&& 1)] h Q from ?_)
          rw [show ((nI ((sH g j3) / 2 ^ j)) &&& 1 : Int32) = nI (btn (sH g j3) j) from nI_low1 (Nat.lt_of_le_of_lt (Nat.div_le_self _ _) (by omega))]
          refine exf_go 1 (show Q (.int (nI (btn (sH g j3) j))) h from ?_)
          simp only [fHolds, *] at k; exact k
        · skip
          exact absurd (by decide) c4
      · skip
        show Go (d + 2) true 116 23 [.ref 10, .int (nI j), .int y] [.int 0] h Q
        refine exf_go 1 (show (¬ (0 : Int32) = 0 → Go (d + 2) true 116 29 [.ref 10, .int (nI j), .int y] [] h Q) ∧ (¬ (¬ (0 : Int32) = 0) → Go (d + 2) true 116 26 [.ref 10, .int (nI j), .int y] [] h Q) from ⟨fun c5 => ?_, fun c5 => ?_⟩)
        · skip
          exact absurd c5 (by decide)
        · skip
          refine exf_go 2 (show Q (.int (-3)) h from ?_)
          simp only [fHolds, *] at k; exact k
    · skip
      have e1 : ixN x (sC g) = none := ix_ge (Int32.not_lt.mp c2)
      refine exf_go 2 (show Q (.int (-2)) h from ?_)
      simp only [fHolds, *] at k; exact k
theorem c_isFigure {d : Nat} {h : Hp} {g : ShG} {w : Nat} {x : Int32} {Q : Po} (cs : CS 31 g h) (hw : w < sW g) (k1 : ∀ j, ixN x (sF g w) = some j → x = nI j → j < sF g w → Q (.int 1) h) (k0 : ixN x (sF g w) = none → Q (.int 0) h) : wpC (d + 1) true 156 [.ref 10, .int (nI w), .int x] h Q := by
  have h4 := cs.1.1
  have hf := sF_b cs.1 w
  refine go_in rfl ?_
  refine exf_go 2 (show (x < 0 → Go d true 156 21 [.ref 10, .int (nI w), .int x] [] h Q) ∧ (¬ (x < 0) → Go d true 156 4 [.ref 10, .int (nI w), .int x] [] h Q) from ⟨fun c1 => ?_, fun c1 => ?_⟩)
  · skip
    refine exf_go 2 (show ((0 : Int32) = 0 ∨ (0 : Int32) = 1) ∧ Q (.int 0) h from ⟨(by first | exact Or.inl rfl | exact Or.inr rfl | assumption), ?_⟩)
    first | exact k0 (ix_neg (by assumption)) | exact k0 (ix_ge (by assumption))
  · skip
    refine exf_go 6 (show vp_in (nI w) 4 ∧ (Go d true 156 14 [.ref 10, .int (nI w), .int x] [.int (rI h 32 ((nI w).toNatClampNeg)), .int x] h Q) from ⟨(vp_in_nI (by omega) (by omega)), ?_⟩)
    rw [show (rI h 32 ((nI w).toNatClampNeg) : Int32) = nI (sF g w) from cs_sF cs (n := w) (by omega)]
    refine exf_go 1 (show ((nI (sF g w)) ≤ x → Go d true 156 21 [.ref 10, .int (nI w), .int x] [] h Q) ∧ (¬ ((nI (sF g w)) ≤ x) → Go d true 156 17 [.ref 10, .int (nI w), .int x] [] h Q) from ⟨fun c2 => ?_, fun c2 => ?_⟩)
    · skip
      refine exf_go 2 (show ((0 : Int32) = 0 ∨ (0 : Int32) = 1) ∧ Q (.int 0) h from ⟨(by first | exact Or.inl rfl | exact Or.inr rfl | assumption), ?_⟩)
      first | exact k0 (ix_neg (by assumption)) | exact k0 (ix_ge (by assumption))
    · skip
      refine exf_go 3 (show ((1 : Int32) = 0 ∨ (1 : Int32) = 1) ∧ Q (.int 1) h from ⟨(by first | exact Or.inl rfl | exact Or.inr rfl | assumption), ?_⟩)
      obtain ⟨j, e1, e2, e3⟩ := ix_in (by omega) c1 c2
      exact k1 j e1 e2 e3
theorem c_tells {d : Nat} {h : Hp} {g : ShG} {l : LkG} {x y : Int32} {Q : Po} (cs : CS 31 g h) (cl : CL 39 g l h) (k : Q (.long (fTells g l x y)) h) : wpC (d + 4) true 124 [.ref 10, .int x, .int y] h Q := by
  have hN := tot_b cs.1
  have h4 := cs.1.1
  refine go_in rfl ?_
  refine exf_go 3 (show wpC (d + 3) true 155 [.ref 10, .int x] h (fun r h' => Go (d + 3) true 124 5 [.ref 10, .int x, .int y, mk_, mk_, mk_] [r] h' Q) from ?_)
  refine c_isWheel cs (fun j1 e1 q1 r1 => ?_) (fun e1 => ?_)
  · skip
    subst q1
    show Go (d + 3) true 124 5 [.ref 10, .int (nI j1), .int y, mk_, mk_, mk_] [.int 1] h Q
    refine exf_go 1 (show (¬ (1 : Int32) = 0 → Go (d + 3) true 124 12 [.ref 10, .int (nI j1), .int y, mk_, mk_, mk_] [] h Q) ∧ (¬ (¬ (1 : Int32) = 0) → Go (d + 3) true 124 8 [.ref 10, .int (nI j1), .int y, mk_, mk_, mk_] [] h Q) from ⟨fun c2 => ?_, fun c2 => ?_⟩)
    · skip
      refine exf_go 4 (show wpC (d + 3) true 156 [.ref 10, .int (nI j1), .int y] h (fun r h' => Go (d + 3) true 124 18 [.ref 10, .int (nI j1), .int y, mk_, mk_, mk_] [r] h' Q) from ?_)
      refine c_isFigure cs (by omega) (fun j3 e3 q3 r3 => ?_) (fun e3 => ?_)
      · skip
        subst q3
        show Go (d + 3) true 124 18 [.ref 10, .int (nI j1), .int (nI j3), mk_, mk_, mk_] [.int 1] h Q
        refine exf_go 1 (show (¬ (1 : Int32) = 0 → Go (d + 3) true 124 25 [.ref 10, .int (nI j1), .int (nI j3), mk_, mk_, mk_] [] h Q) ∧ (¬ (¬ (1 : Int32) = 0) → Go (d + 3) true 124 21 [.ref 10, .int (nI j1), .int (nI j3), mk_, mk_, mk_] [] h Q) from ⟨fun c4 => ?_, fun c4 => ?_⟩)
        · skip
          refine exf_go 4 (show Go (d + 3) true 124 30 [.ref 10, .int (nI j1), .int (nI j3), .long 0, mk_, .int 0] [] h Q from ?_)
          have L30 : ∀ (k30 : Nat) (n s : Nat), (tot g - n) < k30 → (n ≤ tot g) → (s = sumN (fun n => if fgo g n j1 = j3 then lwt g l n else 0) n) → Go (d + 3) true 124 30 [.ref 10, .int (nI j1), .int (nI j3), .long (lN s), mk_, .int (nI n)] [] h Q := by
            intro k30
            induction k30 with
            | zero => intro n s hk; exact absurd hk (Nat.not_lt_zero _)
            | succ k30 ih30 =>
              intro n s hk hn hs
              have := sF_b cs.1 j1
              refine exf_go 4 (show Go (d + 3) true 124 39 [.ref 10, .int (nI j1), .int (nI j3), .long (lN s), mk_, .int (nI n)] [.int (rI h 31 5), .int (nI n)] h Q from ?_)
              rw [show (rI h 31 5 : Int32) = nI (tot g) from cs_N cs]
              refine exf_go 1 (show ((nI (tot g)) ≤ (nI n) → Go (d + 3) true 124 71 [.ref 10, .int (nI j1), .int (nI j3), .long (lN s), mk_, .int (nI n)] [] h Q) ∧ (¬ ((nI (tot g)) ≤ (nI n)) → Go (d + 3) true 124 42 [.ref 10, .int (nI j1), .int (nI j3), .long (lN s), mk_, .int (nI n)] [] h Q) from ⟨fun c5 => ?_, fun c5 => ?_⟩)
              · skip
                have c5 : (tot g) ≤ n := (nI_leI (a := (tot g)) (b := n) (by omega) (by omega)).mp c5
                refine exf_go 2 (show Q (.long (lN s)) h from ?_)
                simp only [fTells, e1, e3] at k; rw [hs, show n = tot g from by omega]; exact k
              · skip
                have c5 : ¬ (tot g) ≤ n := fun q => c5 ((nI_leI (a := (tot g)) (b := n) (by omega) (by omega)).mpr q)
                refine exf_go 5 (show wpC (d + 3) true 81 [.ref 31, .int (nI n), .int (nI j1)] h (fun r h' => Go (d + 3) true 124 52 [.ref 10, .int (nI j1), .int (nI j3), .long (lN s), mk_, .int (nI n)] [r] h' Q) from ?_)
                refine c_figureOf cs (by omega) (by omega) ?_
                have := fgo_lt cs.1 n j1; have := sF_b cs.1 j1
                show Go (d + 3) true 124 52 [.ref 10, .int (nI j1), .int (nI j3), .long (lN s), mk_, .int (nI n)] [.int (nI (fgo g n j1))] h Q
                refine exf_go 2 (show (¬ (nI (fgo g n j1)) = (nI j3) → Go (d + 3) true 124 65 [.ref 10, .int (nI j1), .int (nI j3), .long (lN s), mk_, .int (nI n)] [] h Q) ∧ (¬ (¬ (nI (fgo g n j1)) = (nI j3)) → Go (d + 3) true 124 56 [.ref 10, .int (nI j1), .int (nI j3), .long (lN s), mk_, .int (nI n)] [] h Q) from ⟨fun c6 => ?_, fun c6 => ?_⟩)
                · skip
                  have c6 : ¬ (fgo g n j1) = j3 := fun q => c6 ((nI_eq (a := (fgo g n j1)) (b := j3) (by omega) (by omega)).mpr q)
                  refine exf_go 1 (show Go (d + 3) true 124 68 [.ref 10, .int (nI j1), .int (nI j3), .long (lN s), mk_, .int ((nI n) + 1)] [] h Q from ?_)
                  rw [show ((nI n) + 1 : Int32) = nI (n + 1) from nI_add n 1]
                  refine exf_go 1 (show Go (d + 3) true 124 30 [.ref 10, .int (nI j1), .int (nI j3), .long (lN s), mk_, .int (nI (n + 1))] [] h Q from ?_)
                  exact ih30 (n + 1) s (by omega) (by omega) (by rw [hs, sumN]; first | rw [if_pos (by assumption)] | rw [if_neg (by assumption), Nat.add_zero])
                · skip
                  have c6 : (fgo g n j1) = j3 := (nI_eq (a := (fgo g n j1)) (b := j3) (by omega) (by omega)).mp (Classical.not_not.mp c6)
                  refine exf_go 4 (show wpC (d + 3) true 164 [.ref 10, .int (nI n)] h (fun r h' => Go (d + 3) true 124 63 [.ref 10, .int (nI j1), .int (nI j3), .long (lN s), mk_, .int (nI n)] [r, .long (lN s)] h' Q) from ?_)
                  refine c_leftWeight cs cl (by omega) ?_
                  have := lwt_b cs.1 l n
                  show Go (d + 3) true 124 63 [.ref 10, .int (nI j1), .int (nI j3), .long (lN s), mk_, .int (nI n)] [.long (lN (lwt g l n)), .long (lN s)] h Q
                  refine exf_go 1 (show Go (d + 3) true 124 64 [.ref 10, .int (nI j1), .int (nI j3), .long (lN s), mk_, .int (nI n)] [.long ((lN s) + (lN (lwt g l n)))] h Q from ?_)
                  rw [show ((lN s) + (lN (lwt g l n)) : Int64) = lN (s + (lwt g l n)) from lN_add s (lwt g l n)]
                  refine exf_go 2 (show Go (d + 3) true 124 68 [.ref 10, .int (nI j1), .int (nI j3), .long (lN (s + (lwt g l n))), mk_, .int ((nI n) + 1)] [] h Q from ?_)
                  rw [show ((nI n) + 1 : Int32) = nI (n + 1) from nI_add n 1]
                  refine exf_go 1 (show Go (d + 3) true 124 30 [.ref 10, .int (nI j1), .int (nI j3), .long (lN (s + (lwt g l n))), mk_, .int (nI (n + 1))] [] h Q from ?_)
                  exact ih30 (n + 1) (s + (lwt g l n)) (by omega) (by omega) (by rw [hs, sumN]; first | rw [if_pos (by assumption)] | rw [if_neg (by assumption), Nat.add_zero])
          exact L30 (tot g + 1) 0 0 (by omega) (by omega) rfl
        · skip
          exact absurd (by decide) c4
      · skip
        show Go (d + 3) true 124 18 [.ref 10, .int (nI j1), .int y, mk_, mk_, mk_] [.int 0] h Q
        refine exf_go 1 (show (¬ (0 : Int32) = 0 → Go (d + 3) true 124 25 [.ref 10, .int (nI j1), .int y, mk_, mk_, mk_] [] h Q) ∧ (¬ (¬ (0 : Int32) = 0) → Go (d + 3) true 124 21 [.ref 10, .int (nI j1), .int y, mk_, mk_, mk_] [] h Q) from ⟨fun c7 => ?_, fun c7 => ?_⟩)
        · skip
          exact absurd c7 (by decide)
        · skip
          refine exf_go 2 (show Q (.long (-3)) h from ?_)
          simp only [fTells, *] at k; exact k
    · skip
      exact absurd (by decide) c2
  · skip
    show Go (d + 3) true 124 5 [.ref 10, .int x, .int y, mk_, mk_, mk_] [.int 0] h Q
    refine exf_go 1 (show (¬ (0 : Int32) = 0 → Go (d + 3) true 124 12 [.ref 10, .int x, .int y, mk_, mk_, mk_] [] h Q) ∧ (¬ (¬ (0 : Int32) = 0) → Go (d + 3) true 124 8 [.ref 10, .int x, .int y, mk_, mk_, mk_] [] h Q) from ⟨fun c8 => ?_, fun c8 => ?_⟩)
    · skip
      exact absurd c8 (by decide)
    · skip
      refine exf_go 2 (show Q (.long (-2)) h from ?_)
      simp only [fTells, *] at k; exact k
theorem c_bits {d : Nat} {h : Hp} {m : Nat} {Q : Po} (hm : m < 256) (k : Q (.int (nI (popc m))) h) : wpC (d + 1) true 300 [.int (nI m)] h Q := by
  refine go_in rfl ?_
  refine exf_go 42 (show Q (.int (((((((((nI m) - ((((nI m).toUInt32 >>> ((1 : Int32).toUInt32 &&& Int32.toUInt32 31)).toInt32) &&& 1431655765)) &&& 858993459) + (((((nI m) - ((((nI m).toUInt32 >>> ((1 : Int32).toUInt32 &&& Int32.toUInt32 31)).toInt32) &&& 1431655765)).toUInt32 >>> ((2 : Int32).toUInt32 &&& Int32.toUInt32 31)).toInt32) &&& 858993459)) + ((((((nI m) - ((((nI m).toUInt32 >>> ((1 : Int32).toUInt32 &&& Int32.toUInt32 31)).toInt32) &&& 1431655765)) &&& 858993459) + (((((nI m) - ((((nI m).toUInt32 >>> ((1 : Int32).toUInt32 &&& Int32.toUInt32 31)).toInt32) &&& 1431655765)).toUInt32 >>> ((2 : Int32).toUInt32 &&& Int32.toUInt32 31)).toInt32) &&& 858993459)).toUInt32 >>> ((4 : Int32).toUInt32 &&& Int32.toUInt32 31)).toInt32)) &&& 252645135) + ((((((((nI m) - ((((nI m).toUInt32 >>> ((1 : Int32).toUInt32 &&& Int32.toUInt32 31)).toInt32) &&& 1431655765)) &&& 858993459) + (((((nI m) - ((((nI m).toUInt32 >>> ((1 : Int32).toUInt32 &&& Int32.toUInt32 31)).toInt32) &&& 1431655765)).toUInt32 >>> ((2 : Int32).toUInt32 &&& Int32.toUInt32 31)).toInt32) &&& 858993459)) + ((((((nI m) - ((((nI m).toUInt32 >>> ((1 : Int32).toUInt32 &&& Int32.toUInt32 31)).toInt32) &&& 1431655765)) &&& 858993459) + (((((nI m) - ((((nI m).toUInt32 >>> ((1 : Int32).toUInt32 &&& Int32.toUInt32 31)).toInt32) &&& 1431655765)).toUInt32 >>> ((2 : Int32).toUInt32 &&& Int32.toUInt32 31)).toInt32) &&& 858993459)).toUInt32 >>> ((4 : Int32).toUInt32 &&& Int32.toUInt32 31)).toInt32)) &&& 252645135).toUInt32 >>> ((8 : Int32).toUInt32 &&& Int32.toUInt32 31)).toInt32)) + (((((((((nI m) - ((((nI m).toUInt32 >>> ((1 : Int32).toUInt32 &&& Int32.toUInt32 31)).toInt32) &&& 1431655765)) &&& 858993459) + (((((nI m) - ((((nI m).toUInt32 >>> ((1 : Int32).toUInt32 &&& Int32.toUInt32 31)).toInt32) &&& 1431655765)).toUInt32 >>> ((2 : Int32).toUInt32 &&& Int32.toUInt32 31)).toInt32) &&& 858993459)) + ((((((nI m) - ((((nI m).toUInt32 >>> ((1 : Int32).toUInt32 &&& Int32.toUInt32 31)).toInt32) &&& 1431655765)) &&& 858993459) + (((((nI m) - ((((nI m).toUInt32 >>> ((1 : Int32).toUInt32 &&& Int32.toUInt32 31)).toInt32) &&& 1431655765)).toUInt32 >>> ((2 : Int32).toUInt32 &&& Int32.toUInt32 31)).toInt32) &&& 858993459)).toUInt32 >>> ((4 : Int32).toUInt32 &&& Int32.toUInt32 31)).toInt32)) &&& 252645135) + ((((((((nI m) - ((((nI m).toUInt32 >>> ((1 : Int32).toUInt32 &&& Int32.toUInt32 31)).toInt32) &&& 1431655765)) &&& 858993459) + (((((nI m) - ((((nI m).toUInt32 >>> ((1 : Int32).toUInt32 &&& Int32.toUInt32 31)).toInt32) &&& 1431655765)).toUInt32 >>> ((2 : Int32).toUInt32 &&& Int32.toUInt32 31)).toInt32) &&& 858993459)) + ((((((nI m) - ((((nI m).toUInt32 >>> ((1 : Int32).toUInt32 &&& Int32.toUInt32 31)).toInt32) &&& 1431655765)) &&& 858993459) + (((((nI m) - ((((nI m).toUInt32 >>> ((1 : Int32).toUInt32 &&& Int32.toUInt32 31)).toInt32) &&& 1431655765)).toUInt32 >>> ((2 : Int32).toUInt32 &&& Int32.toUInt32 31)).toInt32) &&& 858993459)).toUInt32 >>> ((4 : Int32).toUInt32 &&& Int32.toUInt32 31)).toInt32)) &&& 252645135).toUInt32 >>> ((8 : Int32).toUInt32 &&& Int32.toUInt32 31)).toInt32)).toUInt32 >>> ((16 : Int32).toUInt32 &&& Int32.toUInt32 31)).toInt32)) &&& 63)) h from ?_)
  have hp : ∀ m, m < 256 → ((((((((nI m) - ((((nI m).toUInt32 >>> ((1 : Int32).toUInt32 &&& Int32.toUInt32 31)).toInt32) &&& 1431655765)) &&& 858993459) + (((((nI m) - ((((nI m).toUInt32 >>> ((1 : Int32).toUInt32 &&& Int32.toUInt32 31)).toInt32) &&& 1431655765)).toUInt32 >>> ((2 : Int32).toUInt32 &&& Int32.toUInt32 31)).toInt32) &&& 858993459)) + ((((((nI m) - ((((nI m).toUInt32 >>> ((1 : Int32).toUInt32 &&& Int32.toUInt32 31)).toInt32) &&& 1431655765)) &&& 858993459) + (((((nI m) - ((((nI m).toUInt32 >>> ((1 : Int32).toUInt32 &&& Int32.toUInt32 31)).toInt32) &&& 1431655765)).toUInt32 >>> ((2 : Int32).toUInt32 &&& Int32.toUInt32 31)).toInt32) &&& 858993459)).toUInt32 >>> ((4 : Int32).toUInt32 &&& Int32.toUInt32 31)).toInt32)) &&& 252645135) + ((((((((nI m) - ((((nI m).toUInt32 >>> ((1 : Int32).toUInt32 &&& Int32.toUInt32 31)).toInt32) &&& 1431655765)) &&& 858993459) + (((((nI m) - ((((nI m).toUInt32 >>> ((1 : Int32).toUInt32 &&& Int32.toUInt32 31)).toInt32) &&& 1431655765)).toUInt32 >>> ((2 : Int32).toUInt32 &&& Int32.toUInt32 31)).toInt32) &&& 858993459)) + ((((((nI m) - ((((nI m).toUInt32 >>> ((1 : Int32).toUInt32 &&& Int32.toUInt32 31)).toInt32) &&& 1431655765)) &&& 858993459) + (((((nI m) - ((((nI m).toUInt32 >>> ((1 : Int32).toUInt32 &&& Int32.toUInt32 31)).toInt32) &&& 1431655765)).toUInt32 >>> ((2 : Int32).toUInt32 &&& Int32.toUInt32 31)).toInt32) &&& 858993459)).toUInt32 >>> ((4 : Int32).toUInt32 &&& Int32.toUInt32 31)).toInt32)) &&& 252645135).toUInt32 >>> ((8 : Int32).toUInt32 &&& Int32.toUInt32 31)).toInt32)) + (((((((((nI m) - ((((nI m).toUInt32 >>> ((1 : Int32).toUInt32 &&& Int32.toUInt32 31)).toInt32) &&& 1431655765)) &&& 858993459) + (((((nI m) - ((((nI m).toUInt32 >>> ((1 : Int32).toUInt32 &&& Int32.toUInt32 31)).toInt32) &&& 1431655765)).toUInt32 >>> ((2 : Int32).toUInt32 &&& Int32.toUInt32 31)).toInt32) &&& 858993459)) + ((((((nI m) - ((((nI m).toUInt32 >>> ((1 : Int32).toUInt32 &&& Int32.toUInt32 31)).toInt32) &&& 1431655765)) &&& 858993459) + (((((nI m) - ((((nI m).toUInt32 >>> ((1 : Int32).toUInt32 &&& Int32.toUInt32 31)).toInt32) &&& 1431655765)).toUInt32 >>> ((2 : Int32).toUInt32 &&& Int32.toUInt32 31)).toInt32) &&& 858993459)).toUInt32 >>> ((4 : Int32).toUInt32 &&& Int32.toUInt32 31)).toInt32)) &&& 252645135) + ((((((((nI m) - ((((nI m).toUInt32 >>> ((1 : Int32).toUInt32 &&& Int32.toUInt32 31)).toInt32) &&& 1431655765)) &&& 858993459) + (((((nI m) - ((((nI m).toUInt32 >>> ((1 : Int32).toUInt32 &&& Int32.toUInt32 31)).toInt32) &&& 1431655765)).toUInt32 >>> ((2 : Int32).toUInt32 &&& Int32.toUInt32 31)).toInt32) &&& 858993459)) + ((((((nI m) - ((((nI m).toUInt32 >>> ((1 : Int32).toUInt32 &&& Int32.toUInt32 31)).toInt32) &&& 1431655765)) &&& 858993459) + (((((nI m) - ((((nI m).toUInt32 >>> ((1 : Int32).toUInt32 &&& Int32.toUInt32 31)).toInt32) &&& 1431655765)).toUInt32 >>> ((2 : Int32).toUInt32 &&& Int32.toUInt32 31)).toInt32) &&& 858993459)).toUInt32 >>> ((4 : Int32).toUInt32 &&& Int32.toUInt32 31)).toInt32)) &&& 252645135).toUInt32 >>> ((8 : Int32).toUInt32 &&& Int32.toUInt32 31)).toInt32)).toUInt32 >>> ((16 : Int32).toUInt32 &&& Int32.toUInt32 31)).toInt32)) &&& 63 = nI (popc m) := by decide +kernel
  rw [hp m hm]; exact k
theorem btn_hi {m k c : Nat} (h : m < 2 ^ k) (hc : k ≤ c) : btn m c = 0 := by
  unfold btn
  rw [Nat.div_eq_of_lt (Nat.lt_of_lt_of_le h (Nat.pow_le_pow_right (by omega) hc))]
theorem sumN_cut {f : Nat → Nat} {k : Nat} (h : ∀ c, k ≤ c → f c = 0) : ∀ j, sumN f (k + j) = sumN f k
  | 0 => rfl
  | j + 1 => by rw [← Nat.add_assoc, sumN, sumN_cut h j, h _ (by omega), Nat.add_zero]
theorem popc_b {g : ShG} (hg : ShW g) (n : Nat) : popc (sH g n) ≤ sC g := by
  have h8 := hg.2.2.2.1
  have h1 := sumN_cut (f := btn (sH g n)) (k := sC g) (fun c hc => btn_hi (hH hg n) hc) (8 - sC g)
  have h2 := sumN_le (f := btn (sH g n)) (c := 1) (sC g) (fun k _ => btn_le _ _)
  rw [show sC g + (8 - sC g) = 8 from by omega] at h1
  unfold popc
  omega
theorem c_but {d : Nat} {h : Hp} {g : ShG} {l : LkG} {x : Int32} {Q : Po} (cs : CS 31 g h) (cl : CL 39 g l h) (k : Q (.int (fBut g l x)) h) : wpC (d + 4) true 126 [.ref 10, .int x] h Q := by
  have hN := tot_b cs.1
  have h8 := cs.1.2.2.2.1
  refine go_in rfl ?_
  refine exf_go 2 (show (x < 0 → Go (d + 3) true 126 10 [.ref 10, .int x, mk_, mk_] [] h Q) ∧ (¬ (x < 0) → Go (d + 3) true 126 4 [.ref 10, .int x, mk_, mk_] [] h Q) from ⟨fun c1 => ?_, fun c1 => ?_⟩)
  · skip
    have e1 : ixN x 9 = none := ix_neg c1
    refine exf_go 2 (show Q (.int (-3)) h from ?_)
    simp only [fBut, e1] at k; exact k
  · skip
    refine exf_go 3 (show (x ≤ 8 → Go (d + 3) true 126 13 [.ref 10, .int x, mk_, mk_] [] h Q) ∧ (¬ (x ≤ 8) → Go (d + 3) true 126 10 [.ref 10, .int x, mk_, mk_] [] h Q) from ⟨fun c2 => ?_, fun c2 => ?_⟩)
    · skip
      obtain ⟨j, e1, e2, e3⟩ := ix_le (n := 8) (by omega) c1 c2
      subst e2
      refine exf_go 4 (show Go (d + 3) true 126 17 [.ref 10, .int (nI j), .int 0, .int 0] [] h Q from ?_)
      have L17 : ∀ (k17 : Nat) (n s : Nat), (tot g - n) < k17 → (n ≤ tot g) → (s = cntN (fun n => lft g l n && decide (sC g - popc (sH g n) ≤ j)) n) → Go (d + 3) true 126 17 [.ref 10, .int (nI j), .int (nI s), .int (nI n)] [] h Q := by
        intro k17
        induction k17 with
        | zero => intro n s hk; exact absurd hk (Nat.not_lt_zero _)
        | succ k17 ih17 =>
          intro n s hk hn hs
          refine exf_go 4 (show Go (d + 3) true 126 25 [.ref 10, .int (nI j), .int (nI s), .int (nI n)] [.int (rI h 31 5), .int (nI n)] h Q from ?_)
          rw [show (rI h 31 5 : Int32) = nI (tot g) from cs_N cs]
          refine exf_go 1 (show ((nI (tot g)) ≤ (nI n) → Go (d + 3) true 126 71 [.ref 10, .int (nI j), .int (nI s), .int (nI n)] [] h Q) ∧ (¬ ((nI (tot g)) ≤ (nI n)) → Go (d + 3) true 126 28 [.ref 10, .int (nI j), .int (nI s), .int (nI n)] [] h Q) from ⟨fun c3 => ?_, fun c3 => ?_⟩)
          · skip
            have c3 : (tot g) ≤ n := (nI_leI (a := (tot g)) (b := n) (by omega) (by omega)).mp c3
            refine exf_go 2 (show Q (.int (nI s)) h from ?_)
            simp only [fBut, e1] at k; rw [hs, show n = tot g from by omega]; exact k
          · skip
            have c3 : ¬ (tot g) ≤ n := fun q => c3 ((nI_leI (a := (tot g)) (b := n) (by omega) (by omega)).mpr q)
            refine exf_go 4 (show wpC (d + 3) true 31 [.ref 39, .int (nI n)] h (fun r h' => Go (d + 3) true 126 36 [.ref 10, .int (nI j), .int (nI s), .int (nI n)] [r] h' Q) from ?_)
            refine c_isLeft cs cl (by omega) (fun b4 => ?_) (fun b4 => ?_)
            · skip
              show Go (d + 3) true 126 36 [.ref 10, .int (nI j), .int (nI s), .int (nI n)] [.int 1] h Q
              refine exf_go 1 (show ((1 : Int32) = 0 → Go (d + 3) true 126 65 [.ref 10, .int (nI j), .int (nI s), .int (nI n)] [] h Q) ∧ (¬ ((1 : Int32) = 0) → Go (d + 3) true 126 39 [.ref 10, .int (nI j), .int (nI s), .int (nI n)] [] h Q) from ⟨fun c5 => ?_, fun c5 => ?_⟩)
              · skip
                exact absurd c5 (by decide)
              · skip
                refine exf_go 3 (show Go (d + 3) true 126 46 [.ref 10, .int (nI j), .int (nI s), .int (nI n)] [.int (rI h 31 6)] h Q from ?_)
                rw [show (rI h 31 6 : Int32) = nI (sC g) from cs_C cs]
                refine exf_go 4 (show wpC (d + 3) true 29 [.ref 39, .int (nI n)] h (fun r h' => Go (d + 3) true 126 54 [.ref 10, .int (nI j), .int (nI s), .int (nI n)] [r, .int (nI (sC g))] h' Q) from ?_)
                refine c_maskOf cs cl (by omega) ?_
                have := sH_b cs.1 n
                show Go (d + 3) true 126 54 [.ref 10, .int (nI j), .int (nI s), .int (nI n)] [.int (nI (sH g n)), .int (nI (sC g))] h Q
                refine exf_go 1 (show wpC (d + 3) true 300 [.int (nI (sH g n))] h (fun r h' => Go (d + 3) true 126 57 [.ref 10, .int (nI j), .int (nI s), .int (nI n)] [r, .int (nI (sC g))] h' Q) from ?_)
                refine c_bits (by omega) ?_
                have hpo : popc (sH g n) ≤ sC g := popc_b cs.1 _
                show Go (d + 3) true 126 57 [.ref 10, .int (nI j), .int (nI s), .int (nI n)] [.int (nI (popc (sH g n))), .int (nI (sC g))] h Q
                refine exf_go 1 (show Go (d + 3) true 126 58 [.ref 10, .int (nI j), .int (nI s), .int (nI n)] [.int ((nI (sC g)) - (nI (popc (sH g n))))] h Q from ?_)
                rw [show ((nI (sC g)) - (nI (popc (sH g n))) : Int32) = nI ((sC g) - (popc (sH g n))) from pk_sub (a := (sC g)) (b := (popc (sH g n))) (by omega)]
                refine exf_go 2 (show ((nI j) < (nI ((sC g) - (popc (sH g n)))) → Go (d + 3) true 126 65 [.ref 10, .int (nI j), .int (nI s), .int (nI n)] [] h Q) ∧ (¬ ((nI j) < (nI ((sC g) - (popc (sH g n))))) → Go (d + 3) true 126 62 [.ref 10, .int (nI j), .int (nI s), .int (nI n)] [] h Q) from ⟨fun c6 => ?_, fun c6 => ?_⟩)
                · skip
                  have c6 : j < ((sC g) - (popc (sH g n))) := (nI_ltI (a := j) (b := ((sC g) - (popc (sH g n)))) (by omega) (by omega)).mp c6
                  refine exf_go 1 (show Go (d + 3) true 126 68 [.ref 10, .int (nI j), .int (nI s), .int ((nI n) + 1)] [] h Q from ?_)
                  rw [show ((nI n) + 1 : Int32) = nI (n + 1) from nI_add n 1]
                  refine exf_go 1 (show Go (d + 3) true 126 17 [.ref 10, .int (nI j), .int (nI s), .int (nI (n + 1))] [] h Q from ?_)
                  exact ih17 (n + 1) s (by omega) (by omega) (by first | (refine cn_n hs ?_; simp [*]; done) | (refine cn_y hs ?_; simp [*]; done) | (refine cn_n hs ?_; simp [*]; omega) | (refine cn_y hs ?_; simp [*]; omega))
                · skip
                  have c6 : ¬ j < ((sC g) - (popc (sH g n))) := fun q => c6 ((nI_ltI (a := j) (b := ((sC g) - (popc (sH g n)))) (by omega) (by omega)).mpr q)
                  refine exf_go 1 (show Go (d + 3) true 126 65 [.ref 10, .int (nI j), .int ((nI s) + 1), .int (nI n)] [] h Q from ?_)
                  rw [show ((nI s) + 1 : Int32) = nI (s + 1) from nI_add s 1]
                  refine exf_go 1 (show Go (d + 3) true 126 68 [.ref 10, .int (nI j), .int (nI (s + 1)), .int ((nI n) + 1)] [] h Q from ?_)
                  rw [show ((nI n) + 1 : Int32) = nI (n + 1) from nI_add n 1]
                  refine exf_go 1 (show Go (d + 3) true 126 17 [.ref 10, .int (nI j), .int (nI (s + 1)), .int (nI (n + 1))] [] h Q from ?_)
                  exact ih17 (n + 1) (s + 1) (by omega) (by omega) (by first | (refine cn_n hs ?_; simp [*]; done) | (refine cn_y hs ?_; simp [*]; done) | (refine cn_n hs ?_; simp [*]; omega) | (refine cn_y hs ?_; simp [*]; omega))
            · skip
              show Go (d + 3) true 126 36 [.ref 10, .int (nI j), .int (nI s), .int (nI n)] [.int 0] h Q
              refine exf_go 1 (show ((0 : Int32) = 0 → Go (d + 3) true 126 65 [.ref 10, .int (nI j), .int (nI s), .int (nI n)] [] h Q) ∧ (¬ ((0 : Int32) = 0) → Go (d + 3) true 126 39 [.ref 10, .int (nI j), .int (nI s), .int (nI n)] [] h Q) from ⟨fun c7 => ?_, fun c7 => ?_⟩)
              · skip
                refine exf_go 1 (show Go (d + 3) true 126 68 [.ref 10, .int (nI j), .int (nI s), .int ((nI n) + 1)] [] h Q from ?_)
                rw [show ((nI n) + 1 : Int32) = nI (n + 1) from nI_add n 1]
                refine exf_go 1 (show Go (d + 3) true 126 17 [.ref 10, .int (nI j), .int (nI s), .int (nI (n + 1))] [] h Q from ?_)
                exact ih17 (n + 1) s (by omega) (by omega) (by first | (refine cn_n hs ?_; simp [*]; done) | (refine cn_y hs ?_; simp [*]; done) | (refine cn_n hs ?_; simp [*]; omega) | (refine cn_y hs ?_; simp [*]; omega))
              · skip
                exact absurd (by decide) c7
      exact L17 (tot g + 1) 0 0 (by omega) (by omega) rfl
    · skip
      have e1 : ixN x 9 = none := ix_gt (n := 8) (by omega) c2
      refine exf_go 2 (show Q (.int (-3)) h from ?_)
      simp only [fBut, e1] at k; exact k
theorem c_near {d : Nat} {h : Hp} {g : ShG} {l : LkG} {x : Int32} {Q : Po} (cs : CS 31 g h) (cl : CL 39 g l h) (k : Q (.int (fNear g l x)) h) : wpC (d + 4) true 148 [.ref 10, .int x] h Q := by
  have hN := tot_b cs.1
  have hA := cl.1.1
  refine go_in rfl ?_
  refine exf_go 2 (show (0 ≤ x → Go (d + 3) true 148 7 [.ref 10, .int x, mk_, mk_] [] h Q) ∧ (¬ (0 ≤ x) → Go (d + 3) true 148 4 [.ref 10, .int x, mk_, mk_] [] h Q) from ⟨fun c1 => ?_, fun c1 => ?_⟩)
  · skip
    obtain ⟨j, e1, e2⟩ := nI_of (Int32.not_lt.mpr c1)
    subst e2
    have e3 := nI_pos e1
    refine exf_go 4 (show Go (d + 3) true 148 11 [.ref 10, .int (nI j), .int 0, .int 0] [] h Q from ?_)
    have L11 : ∀ (k11 : Nat) (n s : Nat), (tot g - n) < k11 → (n ≤ tot g) → (s = cntN (fun n => lft g l n && decide (trn g (lA l) n ≤ j)) n) → Go (d + 3) true 148 11 [.ref 10, .int (nI j), .int (nI s), .int (nI n)] [] h Q := by
      intro k11
      induction k11 with
      | zero => intro n s hk; exact absurd hk (Nat.not_lt_zero _)
      | succ k11 ih11 =>
        intro n s hk hn hs
        refine exf_go 4 (show Go (d + 3) true 148 19 [.ref 10, .int (nI j), .int (nI s), .int (nI n)] [.int (rI h 31 5), .int (nI n)] h Q from ?_)
        rw [show (rI h 31 5 : Int32) = nI (tot g) from cs_N cs]
        refine exf_go 1 (show ((nI (tot g)) ≤ (nI n) → Go (d + 3) true 148 61 [.ref 10, .int (nI j), .int (nI s), .int (nI n)] [] h Q) ∧ (¬ ((nI (tot g)) ≤ (nI n)) → Go (d + 3) true 148 22 [.ref 10, .int (nI j), .int (nI s), .int (nI n)] [] h Q) from ⟨fun c2 => ?_, fun c2 => ?_⟩)
        · skip
          have c2 : (tot g) ≤ n := (nI_leI (a := (tot g)) (b := n) (by omega) (by omega)).mp c2
          refine exf_go 2 (show Q (.int (nI s)) h from ?_)
          rw [fNear, if_neg e3, nI_clamp e1] at k; rw [hs, show n = tot g from by omega]; exact k
        · skip
          have c2 : ¬ (tot g) ≤ n := fun q => c2 ((nI_leI (a := (tot g)) (b := n) (by omega) (by omega)).mpr q)
          refine exf_go 4 (show wpC (d + 3) true 31 [.ref 39, .int (nI n)] h (fun r h' => Go (d + 3) true 148 30 [.ref 10, .int (nI j), .int (nI s), .int (nI n)] [r] h' Q) from ?_)
          refine c_isLeft cs cl (by omega) (fun b3 => ?_) (fun b3 => ?_)
          · skip
            show Go (d + 3) true 148 30 [.ref 10, .int (nI j), .int (nI s), .int (nI n)] [.int 1] h Q
            refine exf_go 1 (show ((1 : Int32) = 0 → Go (d + 3) true 148 55 [.ref 10, .int (nI j), .int (nI s), .int (nI n)] [] h Q) ∧ (¬ ((1 : Int32) = 0) → Go (d + 3) true 148 33 [.ref 10, .int (nI j), .int (nI s), .int (nI n)] [] h Q) from ⟨fun c4 => ?_, fun c4 => ?_⟩)
            · skip
              exact absurd c4 (by decide)
            · skip
              refine exf_go 5 (show Go (d + 3) true 148 44 [.ref 10, .int (nI j), .int (nI s), .int (nI n)] [.int (rI h 39 3), .ref 31] h Q from ?_)
              rw [show (rI h 39 3 : Int32) = nI (lA l) from cl_A cl]
              refine exf_go 2 (show wpC (d + 3) true 83 [.ref 31, .int (nI (lA l)), .int (nI n)] h (fun r h' => Go (d + 3) true 148 48 [.ref 10, .int (nI j), .int (nI s), .int (nI n)] [r] h' Q) from ?_)
              refine c_turns cs (by omega) (by omega) ?_
              have := trn_b cs.1 (lA l) n
              show Go (d + 3) true 148 48 [.ref 10, .int (nI j), .int (nI s), .int (nI n)] [.int (nI (trn g (lA l) n))] h Q
              refine exf_go 2 (show ((nI j) < (nI (trn g (lA l) n)) → Go (d + 3) true 148 55 [.ref 10, .int (nI j), .int (nI s), .int (nI n)] [] h Q) ∧ (¬ ((nI j) < (nI (trn g (lA l) n))) → Go (d + 3) true 148 52 [.ref 10, .int (nI j), .int (nI s), .int (nI n)] [] h Q) from ⟨fun c5 => ?_, fun c5 => ?_⟩)
              · skip
                have c5 : j < (trn g (lA l) n) := (nI_ltI (a := j) (b := (trn g (lA l) n)) (by omega) (by omega)).mp c5
                refine exf_go 1 (show Go (d + 3) true 148 58 [.ref 10, .int (nI j), .int (nI s), .int ((nI n) + 1)] [] h Q from ?_)
                rw [show ((nI n) + 1 : Int32) = nI (n + 1) from nI_add n 1]
                refine exf_go 1 (show Go (d + 3) true 148 11 [.ref 10, .int (nI j), .int (nI s), .int (nI (n + 1))] [] h Q from ?_)
                exact ih11 (n + 1) s (by omega) (by omega) (by first | (refine cn_n hs ?_; simp [*]; done) | (refine cn_y hs ?_; simp [*]; done) | (refine cn_n hs ?_; simp [*]; omega) | (refine cn_y hs ?_; simp [*]; omega))
              · skip
                have c5 : ¬ j < (trn g (lA l) n) := fun q => c5 ((nI_ltI (a := j) (b := (trn g (lA l) n)) (by omega) (by omega)).mpr q)
                refine exf_go 1 (show Go (d + 3) true 148 55 [.ref 10, .int (nI j), .int ((nI s) + 1), .int (nI n)] [] h Q from ?_)
                rw [show ((nI s) + 1 : Int32) = nI (s + 1) from nI_add s 1]
                refine exf_go 1 (show Go (d + 3) true 148 58 [.ref 10, .int (nI j), .int (nI (s + 1)), .int ((nI n) + 1)] [] h Q from ?_)
                rw [show ((nI n) + 1 : Int32) = nI (n + 1) from nI_add n 1]
                refine exf_go 1 (show Go (d + 3) true 148 11 [.ref 10, .int (nI j), .int (nI (s + 1)), .int (nI (n + 1))] [] h Q from ?_)
                exact ih11 (n + 1) (s + 1) (by omega) (by omega) (by first | (refine cn_n hs ?_; simp [*]; done) | (refine cn_y hs ?_; simp [*]; done) | (refine cn_n hs ?_; simp [*]; omega) | (refine cn_y hs ?_; simp [*]; omega))
          · skip
            show Go (d + 3) true 148 30 [.ref 10, .int (nI j), .int (nI s), .int (nI n)] [.int 0] h Q
            refine exf_go 1 (show ((0 : Int32) = 0 → Go (d + 3) true 148 55 [.ref 10, .int (nI j), .int (nI s), .int (nI n)] [] h Q) ∧ (¬ ((0 : Int32) = 0) → Go (d + 3) true 148 33 [.ref 10, .int (nI j), .int (nI s), .int (nI n)] [] h Q) from ⟨fun c6 => ?_, fun c6 => ?_⟩)
            · skip
              refine exf_go 1 (show Go (d + 3) true 148 58 [.ref 10, .int (nI j), .int (nI s), .int ((nI n) + 1)] [] h Q from ?_)
              rw [show ((nI n) + 1 : Int32) = nI (n + 1) from nI_add n 1]
              refine exf_go 1 (show Go (d + 3) true 148 11 [.ref 10, .int (nI j), .int (nI s), .int (nI (n + 1))] [] h Q from ?_)
              exact ih11 (n + 1) s (by omega) (by omega) (by first | (refine cn_n hs ?_; simp [*]; done) | (refine cn_y hs ?_; simp [*]; done) | (refine cn_n hs ?_; simp [*]; omega) | (refine cn_y hs ?_; simp [*]; omega))
            · skip
              exact absurd (by decide) c6
    exact L11 (tot g + 1) 0 0 (by omega) (by omega) rfl
  · skip
    refine exf_go 2 (show Q (.int (-3)) h from ?_)
    rw [fNear, if_pos (Int32.not_le.mp c1)] at k; exact k
theorem c_nearestLeft {d : Nat} {h : Hp} {g : ShG} {l : LkG} {Q : Po} (cs : CS 31 g h) (cl : CL 39 g l h) (k : Q (.int (fNearest g l)) h) : wpC (d + 4) true 177 [.ref 10] h Q := by
  have hN := tot_b cs.1
  have hA := cl.1.1
  refine go_in rfl ?_
  refine exf_go 6 (show Go (d + 3) true 177 6 [.ref 10, .int (-1), .int 0, .int 0, mk_] [] h Q from ?_)
  have L6 : ∀ (k6 : Nat) (z4 : Value) (n : Nat) (o : Option Nat) (m : Nat), (tot g - n) < k6 → (n ≤ tot g) → ((o, m) = nrF (lft g l) (fun n => trn g (lA l) n) n) → Go (d + 3) true 177 6 [.ref 10, .int (oI o), .int (nI m), .int (nI n), z4] [] h Q := by
    intro k6
    induction k6 with
    | zero => intro z4 n o m hk; exact absurd hk (Nat.not_lt_zero _)
    | succ k6 ih6 =>
      intro z4 n o m hk hn hs
      have hm : m ≤ 324 := by have := nrF_le (p := lft g l) (f := fun n => trn g (lA l) n) (fun k => trn_b cs.1 (lA l) k) n; rw [← hs] at this; exact this
      have hob : ∀ b, o = some b → b < n := by intro b e; exact nrF_b (p := lft g l) (f := fun n => trn g (lA l) n) n b (by rw [← hs]; exact e)
      rcases o with _ | b
      · skip
        show Go (d + 3) true 177 6 [.ref 10, .int (-1), .int (nI m), .int (nI n), z4] [] h Q
        refine exf_go 4 (show Go (d + 3) true 177 14 [.ref 10, .int (-1), .int (nI m), .int (nI n), z4] [.int (rI h 31 5), .int (nI n)] h Q from ?_)
        rw [show (rI h 31 5 : Int32) = nI (tot g) from cs_N cs]
        refine exf_go 1 (show ((nI (tot g)) ≤ (nI n) → Go (d + 3) true 177 67 [.ref 10, .int (-1), .int (nI m), .int (nI n), z4] [] h Q) ∧ (¬ ((nI (tot g)) ≤ (nI n)) → Go (d + 3) true 177 17 [.ref 10, .int (-1), .int (nI m), .int (nI n), z4] [] h Q) from ⟨fun c1 => ?_, fun c1 => ?_⟩)
        · skip
          have c1 : (tot g) ≤ n := (nI_leI (a := (tot g)) (b := n) (by omega) (by omega)).mp c1
          refine exf_go 2 (show Q (.int (-1)) h from ?_)
          have e : n = tot g := by omega
          subst e
          rw [fNearest, nrL, ← hs] at k; exact k
        · skip
          have c1 : ¬ (tot g) ≤ n := fun q => c1 ((nI_leI (a := (tot g)) (b := n) (by omega) (by omega)).mpr q)
          refine exf_go 4 (show wpC (d + 3) true 31 [.ref 39, .int (nI n)] h (fun r h' => Go (d + 3) true 177 25 [.ref 10, .int (-1), .int (nI m), .int (nI n), z4] [r] h' Q) from ?_)
          refine c_isLeft cs cl (by omega) (fun b2 => ?_) (fun b2 => ?_)
          · skip
            show Go (d + 3) true 177 25 [.ref 10, .int (-1), .int (nI m), .int (nI n), z4] [.int 1] h Q
            refine exf_go 1 (show ((1 : Int32) = 0 → Go (d + 3) true 177 61 [.ref 10, .int (-1), .int (nI m), .int (nI n), z4] [] h Q) ∧ (¬ ((1 : Int32) = 0) → Go (d + 3) true 177 28 [.ref 10, .int (-1), .int (nI m), .int (nI n), z4] [] h Q) from ⟨fun c3 => ?_, fun c3 => ?_⟩)
            · skip
              exact absurd c3 (by decide)
            · skip
              refine exf_go 5 (show Go (d + 3) true 177 39 [.ref 10, .int (-1), .int (nI m), .int (nI n), z4] [.int (rI h 39 3), .ref 31] h Q from ?_)
              rw [show (rI h 39 3 : Int32) = nI (lA l) from cl_A cl]
              refine exf_go 2 (show wpC (d + 3) true 83 [.ref 31, .int (nI (lA l)), .int (nI n)] h (fun r h' => Go (d + 3) true 177 43 [.ref 10, .int (-1), .int (nI m), .int (nI n), z4] [r] h' Q) from ?_)
              refine c_turns cs (by omega) (by omega) ?_
              have := trn_b cs.1 (lA l) n
              show Go (d + 3) true 177 43 [.ref 10, .int (-1), .int (nI m), .int (nI n), z4] [.int (nI (trn g (lA l) n))] h Q
              refine exf_go 4 (show (((-1) : Int32) = (-1) → Go (d + 3) true 177 56 [.ref 10, .int (-1), .int (nI m), .int (nI n), .int (nI (trn g (lA l) n))] [] h Q) ∧ (¬ (((-1) : Int32) = (-1)) → Go (d + 3) true 177 50 [.ref 10, .int (-1), .int (nI m), .int (nI n), .int (nI (trn g (lA l) n))] [] h Q) from ⟨fun c4 => ?_, fun c4 => ?_⟩)
              · skip
                refine exf_go 5 (show Go (d + 3) true 177 64 [.ref 10, .int (nI n), .int (nI (trn g (lA l) n)), .int ((nI n) + 1), .int (nI (trn g (lA l) n))] [] h Q from ?_)
                rw [show ((nI n) + 1 : Int32) = nI (n + 1) from nI_add n 1]
                refine exf_go 1 (show Go (d + 3) true 177 6 [.ref 10, .int (nI n), .int (nI (trn g (lA l) n)), .int (nI (n + 1)), .int (nI (trn g (lA l) n))] [] h Q from ?_)
                exact ih6 (.int (nI (trn g (lA l) n))) (n + 1) (some n) (trn g (lA l) n) (by omega) (by omega) (by first | exact nr_no hs (by assumption) | exact nr_first hs (by first | assumption | rfl) | exact nr_less hs (by first | assumption | rfl) (by omega) | exact nr_more hs (by first | assumption | rfl) (by omega))
              · skip
                exact absurd (by decide) c4
          · skip
            show Go (d + 3) true 177 25 [.ref 10, .int (-1), .int (nI m), .int (nI n), z4] [.int 0] h Q
            refine exf_go 1 (show ((0 : Int32) = 0 → Go (d + 3) true 177 61 [.ref 10, .int (-1), .int (nI m), .int (nI n), z4] [] h Q) ∧ (¬ ((0 : Int32) = 0) → Go (d + 3) true 177 28 [.ref 10, .int (-1), .int (nI m), .int (nI n), z4] [] h Q) from ⟨fun c5 => ?_, fun c5 => ?_⟩)
            · skip
              refine exf_go 1 (show Go (d + 3) true 177 64 [.ref 10, .int (-1), .int (nI m), .int ((nI n) + 1), z4] [] h Q from ?_)
              rw [show ((nI n) + 1 : Int32) = nI (n + 1) from nI_add n 1]
              refine exf_go 1 (show Go (d + 3) true 177 6 [.ref 10, .int (-1), .int (nI m), .int (nI (n + 1)), z4] [] h Q from ?_)
              exact ih6 z4 (n + 1) none m (by omega) (by omega) (by first | exact nr_no hs (by assumption) | exact nr_first hs (by first | assumption | rfl) | exact nr_less hs (by first | assumption | rfl) (by omega) | exact nr_more hs (by first | assumption | rfl) (by omega))
            · skip
              exact absurd (by decide) c5
      · skip
        have := hob b rfl
        show Go (d + 3) true 177 6 [.ref 10, .int (nI b), .int (nI m), .int (nI n), z4] [] h Q
        refine exf_go 4 (show Go (d + 3) true 177 14 [.ref 10, .int (nI b), .int (nI m), .int (nI n), z4] [.int (rI h 31 5), .int (nI n)] h Q from ?_)
        rw [show (rI h 31 5 : Int32) = nI (tot g) from cs_N cs]
        refine exf_go 1 (show ((nI (tot g)) ≤ (nI n) → Go (d + 3) true 177 67 [.ref 10, .int (nI b), .int (nI m), .int (nI n), z4] [] h Q) ∧ (¬ ((nI (tot g)) ≤ (nI n)) → Go (d + 3) true 177 17 [.ref 10, .int (nI b), .int (nI m), .int (nI n), z4] [] h Q) from ⟨fun c6 => ?_, fun c6 => ?_⟩)
        · skip
          have c6 : (tot g) ≤ n := (nI_leI (a := (tot g)) (b := n) (by omega) (by omega)).mp c6
          refine exf_go 2 (show Q (.int (nI b)) h from ?_)
          have e : n = tot g := by omega
          subst e
          rw [fNearest, nrL, ← hs] at k; exact k
        · skip
          have c6 : ¬ (tot g) ≤ n := fun q => c6 ((nI_leI (a := (tot g)) (b := n) (by omega) (by omega)).mpr q)
          refine exf_go 4 (show wpC (d + 3) true 31 [.ref 39, .int (nI n)] h (fun r h' => Go (d + 3) true 177 25 [.ref 10, .int (nI b), .int (nI m), .int (nI n), z4] [r] h' Q) from ?_)
          refine c_isLeft cs cl (by omega) (fun b7 => ?_) (fun b7 => ?_)
          · skip
            show Go (d + 3) true 177 25 [.ref 10, .int (nI b), .int (nI m), .int (nI n), z4] [.int 1] h Q
            refine exf_go 1 (show ((1 : Int32) = 0 → Go (d + 3) true 177 61 [.ref 10, .int (nI b), .int (nI m), .int (nI n), z4] [] h Q) ∧ (¬ ((1 : Int32) = 0) → Go (d + 3) true 177 28 [.ref 10, .int (nI b), .int (nI m), .int (nI n), z4] [] h Q) from ⟨fun c8 => ?_, fun c8 => ?_⟩)
            · skip
              exact absurd c8 (by decide)
            · skip
              refine exf_go 5 (show Go (d + 3) true 177 39 [.ref 10, .int (nI b), .int (nI m), .int (nI n), z4] [.int (rI h 39 3), .ref 31] h Q from ?_)
              rw [show (rI h 39 3 : Int32) = nI (lA l) from cl_A cl]
              refine exf_go 2 (show wpC (d + 3) true 83 [.ref 31, .int (nI (lA l)), .int (nI n)] h (fun r h' => Go (d + 3) true 177 43 [.ref 10, .int (nI b), .int (nI m), .int (nI n), z4] [r] h' Q) from ?_)
              refine c_turns cs (by omega) (by omega) ?_
              have := trn_b cs.1 (lA l) n
              show Go (d + 3) true 177 43 [.ref 10, .int (nI b), .int (nI m), .int (nI n), z4] [.int (nI (trn g (lA l) n))] h Q
              refine exf_go 4 (show ((nI b) = (-1) → Go (d + 3) true 177 56 [.ref 10, .int (nI b), .int (nI m), .int (nI n), .int (nI (trn g (lA l) n))] [] h Q) ∧ (¬ ((nI b) = (-1)) → Go (d + 3) true 177 50 [.ref 10, .int (nI b), .int (nI m), .int (nI n), .int (nI (trn g (lA l) n))] [] h Q) from ⟨fun c9 => ?_, fun c9 => ?_⟩)
              · skip
                exact absurd c9 (ng_eq (by omega) (by decide))
              · skip
                refine exf_go 3 (show ((nI m) ≤ (nI (trn g (lA l) n)) → Go (d + 3) true 177 61 [.ref 10, .int (nI b), .int (nI m), .int (nI n), .int (nI (trn g (lA l) n))] [] h Q) ∧ (¬ ((nI m) ≤ (nI (trn g (lA l) n))) → Go (d + 3) true 177 56 [.ref 10, .int (nI b), .int (nI m), .int (nI n), .int (nI (trn g (lA l) n))] [] h Q) from ⟨fun c10 => ?_, fun c10 => ?_⟩)
                · skip
                  have c10 : m ≤ (trn g (lA l) n) := (nI_leI (a := m) (b := (trn g (lA l) n)) (by omega) (by omega)).mp c10
                  refine exf_go 1 (show Go (d + 3) true 177 64 [.ref 10, .int (nI b), .int (nI m), .int ((nI n) + 1), .int (nI (trn g (lA l) n))] [] h Q from ?_)
                  rw [show ((nI n) + 1 : Int32) = nI (n + 1) from nI_add n 1]
                  refine exf_go 1 (show Go (d + 3) true 177 6 [.ref 10, .int (nI b), .int (nI m), .int (nI (n + 1)), .int (nI (trn g (lA l) n))] [] h Q from ?_)
                  exact ih6 (.int (nI (trn g (lA l) n))) (n + 1) (some b) m (by omega) (by omega) (by first | exact nr_no hs (by assumption) | exact nr_first hs (by first | assumption | rfl) | exact nr_less hs (by first | assumption | rfl) (by omega) | exact nr_more hs (by first | assumption | rfl) (by omega))
                · skip
                  have c10 : ¬ m ≤ (trn g (lA l) n) := fun q => c10 ((nI_leI (a := m) (b := (trn g (lA l) n)) (by omega) (by omega)).mpr q)
                  refine exf_go 5 (show Go (d + 3) true 177 64 [.ref 10, .int (nI n), .int (nI (trn g (lA l) n)), .int ((nI n) + 1), .int (nI (trn g (lA l) n))] [] h Q from ?_)
                  rw [show ((nI n) + 1 : Int32) = nI (n + 1) from nI_add n 1]
                  refine exf_go 1 (show Go (d + 3) true 177 6 [.ref 10, .int (nI n), .int (nI (trn g (lA l) n)), .int (nI (n + 1)), .int (nI (trn g (lA l) n))] [] h Q from ?_)
                  exact ih6 (.int (nI (trn g (lA l) n))) (n + 1) (some n) (trn g (lA l) n) (by omega) (by omega) (by first | exact nr_no hs (by assumption) | exact nr_first hs (by first | assumption | rfl) | exact nr_less hs (by first | assumption | rfl) (by omega) | exact nr_more hs (by first | assumption | rfl) (by omega))
          · skip
            show Go (d + 3) true 177 25 [.ref 10, .int (nI b), .int (nI m), .int (nI n), z4] [.int 0] h Q
            refine exf_go 1 (show ((0 : Int32) = 0 → Go (d + 3) true 177 61 [.ref 10, .int (nI b), .int (nI m), .int (nI n), z4] [] h Q) ∧ (¬ ((0 : Int32) = 0) → Go (d + 3) true 177 28 [.ref 10, .int (nI b), .int (nI m), .int (nI n), z4] [] h Q) from ⟨fun c11 => ?_, fun c11 => ?_⟩)
            · skip
              refine exf_go 1 (show Go (d + 3) true 177 64 [.ref 10, .int (nI b), .int (nI m), .int ((nI n) + 1), z4] [] h Q from ?_)
              rw [show ((nI n) + 1 : Int32) = nI (n + 1) from nI_add n 1]
              refine exf_go 1 (show Go (d + 3) true 177 6 [.ref 10, .int (nI b), .int (nI m), .int (nI (n + 1)), z4] [] h Q from ?_)
              exact ih6 z4 (n + 1) (some b) m (by omega) (by omega) (by first | exact nr_no hs (by assumption) | exact nr_first hs (by first | assumption | rfl) | exact nr_less hs (by first | assumption | rfl) (by omega) | exact nr_more hs (by first | assumption | rfl) (by omega))
            · skip
              exact absurd (by decide) c11
  exact L6 (tot g + 1) mk_ 0 none 0 (by omega) (by omega) rfl
