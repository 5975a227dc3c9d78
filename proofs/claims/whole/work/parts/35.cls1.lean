/-! The class's asking calls. -/
theorem ix_le {x : Int32} {n : Nat} (hn : n + 1 < 2 ^ 31) (h : ¬ x < 0) (h2 : x ≤ nI n) : ∃ j, ixN x (n + 1) = some j ∧ x = nI j ∧ j < n + 1 := by
  refine ix_in hn h (fun q => ?_)
  have := Int32.le_trans q h2
  exact absurd ((nI_leI hn (by omega)).mp this) (by omega)
theorem ix_gt {x : Int32} {n : Nat} (hn : n + 1 < 2 ^ 31) (h2 : ¬ x ≤ nI n) : ixN x (n + 1) = none := by
  apply ix_ge
  rw [Int32.le_iff_toInt_le] at h2 ⊢
  rw [nI_toInt (by omega)] at h2 ⊢
  omega
def popc (m : Nat) : Nat := sumN (btn m) 8
/-- the first of those that p takes with the least f -/
def nrF (p : Nat → Bool) (f : Nat → Nat) : Nat → Option Nat × Nat
  | 0 => (none, 0)
  | n + 1 => if p n then (match (nrF p f n).1 with
      | none => (some n, f n)
      | some b => if f n < (nrF p f n).2 then (some n, f n) else (some b, (nrF p f n).2)) else nrF p f n
theorem nrF_b {p : Nat → Bool} {f : Nat → Nat} : ∀ n b, (nrF p f n).1 = some b → b < n
  | 0, b, h => by simp [nrF] at h
  | n + 1, b, h => by
    have ih := nrF_b (p := p) (f := f) n
    rw [nrF] at h
    split at h
    · split at h
      · simp at h; omega
      · rename_i b' e
        split at h
        · simp at h; omega
        · simp at h
          have := ih _ e
          omega
    · have := ih b h
      omega
theorem nrF_le {p : Nat → Bool} {f : Nat → Nat} {c : Nat} (hf : ∀ k, f k ≤ c) : ∀ n, (nrF p f n).2 ≤ c
  | 0 => Nat.zero_le _
  | n + 1 => by
    have ih := nrF_le (p := p) hf n
    have := hf n
    rw [nrF]
    repeat' split
    all_goals first | exact ih | exact this
theorem nr_no {p : Nat → Bool} {f : Nat → Nat} {n : Nat} {s : Option Nat × Nat} (hs : s = nrF p f n) (h : p n = false) : s = nrF p f (n + 1) := by rw [nrF, h]; exact hs
theorem nr_first {p : Nat → Bool} {f : Nat → Nat} {n m : Nat} (hs : (none, m) = nrF p f n) (h : p n = true) : (some n, f n) = nrF p f (n + 1) := by rw [nrF, h, ← hs]; rfl
theorem nr_less {p : Nat → Bool} {f : Nat → Nat} {n m b : Nat} (hs : (some b, m) = nrF p f n) (h : p n = true) (hl : f n < m) : (some n, f n) = nrF p f (n + 1) := by rw [nrF, h, ← hs]; simp only [if_true]; rw [if_pos hl]
theorem nr_more {p : Nat → Bool} {f : Nat → Nat} {n m b : Nat} (hs : (some b, m) = nrF p f n) (h : p n = true) (hl : ¬ f n < m) : (some b, m) = nrF p f (n + 1) := by rw [nrF, h, ← hs]; simp only [if_true]; rw [if_neg hl]
def fFigure (g : ShG) (x y : Int32) : Int32 := match ixN y (sW g) with
  | none => -2
  | some w => match ixN x (tot g) with
    | none => -3
    | some n => nI (fgo g n w)
def fSteps (g : ShG) (x y : Int32) : Int32 := match ixN x (tot g) with
  | none => -3
  | some n => match ixN y (tot g) with
    | none => -3
    | some m => nI (trn g n m)
def fHolds (g : ShG) (x y : Int32) : Int32 := match ixN x (sC g) with
  | none => -2
  | some c => match ixN y (tot g) with
    | none => -3
    | some n => nI (btn (sH g n) c)
def fLikely (g : ShG) (l : LkG) (x : Int32) : Int64 := match ixN x (tot g) with
  | none => -3
  | some n => lN (lwt g l n)
def cntL (g : ShG) (l : LkG) : Nat := cntN (lft g l) (tot g)
def fTells (g : ShG) (l : LkG) (x y : Int32) : Int64 := match ixN x (sW g) with
  | none => -2
  | some w => match ixN y (sF g w) with
    | none => -3
    | some f => lN (sumN (fun n => if fgo g n w = f then lwt g l n else 0) (tot g))
def fBut (g : ShG) (l : LkG) (x : Int32) : Int32 := match ixN x 9 with
  | none => -3
  | some b => nI (cntN (fun n => lft g l n && decide (sC g - popc (sH g n) ≤ b)) (tot g))
def fNear (g : ShG) (l : LkG) (x : Int32) : Int32 := if x < 0 then -3 else nI (cntN (fun n => lft g l n && decide (trn g (lA l) n ≤ x.toNatClampNeg)) (tot g))
def nrL (g : ShG) (l : LkG) : Nat → Option Nat × Nat := nrF (lft g l) (fun n => trn g (lA l) n)
def fNearest (g : ShG) (l : LkG) : Int32 := oI (nrL g l (tot g)).1
theorem c_figure {d : Nat} {h : Hp} {g : ShG} {x y : Int32} {Q : Po} (cs : CS 31 g h) (k : Q (.int (fFigure g x y)) h) : wpC (d + 2) true 117 [.ref 10, .int x, .int y] h Q := by
  have hN := tot_b cs.1
  have h4 := cs.1.1
  refine go_in rfl ?_
  refine exf_go 3 (show wpC (d + 1) true 155 [.ref 10, .int y] h (fun r h' => Go (d + 1) true 117 5 [.ref 10, .int x, .int y] [r] h' Q) from ?_)
  refine c_isWheel cs (fun j1 e1 q1 r1 => ?_) (fun e1 => ?_)
  · skip
    subst q1
    show Go (d + 1) true 117 5 [.ref 10, .int x, .int (nI j1)] [.int 1] h Q
    refine exf_go 1 (show (¬ (1 : Int32) = 0 → Go (d + 1) true 117 11 [.ref 10, .int x, .int (nI j1)] [] h Q) ∧ (¬ (¬ (1 : Int32) = 0) → Go (d + 1) true 117 8 [.ref 10, .int x, .int (nI j1)] [] h Q) from ⟨fun c2 => ?_, fun c2 => ?_⟩)
    · skip
      refine exf_go 3 (show wpC (d + 1) true 157 [.ref 10, .int x] h (fun r h' => Go (d + 1) true 117 16 [.ref 10, .int x, .int (nI j1)] [r] h' Q) from ?_)
      refine c_isNumber cs (fun j3 e3 q3 r3 => ?_) (fun e3 => ?_)
      · skip
        subst q3
        show Go (d + 1) true 117 16 [.ref 10, .int (nI j3), .int (nI j1)] [.int 1] h Q
        refine exf_go 1 (show (¬ (1 : Int32) = 0 → Go (d + 1) true 117 22 [.ref 10, .int (nI j3), .int (nI j1)] [] h Q) ∧ (¬ (¬ (1 : Int32) = 0) → Go (d + 1) true 117 19 [.ref 10, .int (nI j3), .int (nI j1)] [] h Q) from ⟨fun c4 => ?_, fun c4 => ?_⟩)
        · skip
          refine exf_go 5 (show wpC (d + 1) true 81 [.ref 31, .int (nI j3), .int (nI j1)] h (fun r h' => Go (d + 1) true 117 31 [.ref 10, .int (nI j3), .int (nI j1)] [r] h' Q) from ?_)
          refine c_figureOf cs (by omega) (by omega) ?_
          show Go (d + 1) true 117 31 [.ref 10, .int (nI j3), .int (nI j1)] [.int (nI (fgo g j3 j1))] h Q
          refine exf_go 1 (show Q (.int (nI (fgo g j3 j1))) h from ?_)
          simp only [fFigure, *] at k; exact k
        · skip
          exact absurd (by decide) c4
      · skip
        show Go (d + 1) true 117 16 [.ref 10, .int x, .int (nI j1)] [.int 0] h Q
        refine exf_go 1 (show (¬ (0 : Int32) = 0 → Go (d + 1) true 117 22 [.ref 10, .int x, .int (nI j1)] [] h Q) ∧ (¬ (¬ (0 : Int32) = 0) → Go (d + 1) true 117 19 [.ref 10, .int x, .int (nI j1)] [] h Q) from ⟨fun c5 => ?_, fun c5 => ?_⟩)
        · skip
          exact absurd c5 (by decide)
        · skip
          refine exf_go 2 (show Q (.int (-3)) h from ?_)
          simp only [fFigure, *] at k; exact k
    · skip
      exact absurd (by decide) c2
  · skip
    show Go (d + 1) true 117 5 [.ref 10, .int x, .int y] [.int 0] h Q
    refine exf_go 1 (show (¬ (0 : Int32) = 0 → Go (d + 1) true 117 11 [.ref 10, .int x, .int y] [] h Q) ∧ (¬ (¬ (0 : Int32) = 0) → Go (d + 1) true 117 8 [.ref 10, .int x, .int y] [] h Q) from ⟨fun c6 => ?_, fun c6 => ?_⟩)
    · skip
      exact absurd c6 (by decide)
    · skip
      refine exf_go 2 (show Q (.int (-2)) h from ?_)
      simp only [fFigure, *] at k; exact k
theorem c_steps {d : Nat} {h : Hp} {g : ShG} {x y : Int32} {Q : Po} (cs : CS 31 g h) (k : Q (.int (fSteps g x y)) h) : wpC (d + 4) true 133 [.ref 10, .int x, .int y] h Q := by
  have hN := tot_b cs.1
  refine go_in rfl ?_
  refine exf_go 3 (show wpC (d + 3) true 157 [.ref 10, .int x] h (fun r h' => Go (d + 3) true 133 5 [.ref 10, .int x, .int y] [r] h' Q) from ?_)
  refine c_isNumber cs (fun j1 e1 q1 r1 => ?_) (fun e1 => ?_)
  · skip
    subst q1
    show Go (d + 3) true 133 5 [.ref 10, .int (nI j1), .int y] [.int 1] h Q
    refine exf_go 1 (show ((1 : Int32) = 0 → Go (d + 3) true 133 16 [.ref 10, .int (nI j1), .int y] [] h Q) ∧ (¬ ((1 : Int32) = 0) → Go (d + 3) true 133 8 [.ref 10, .int (nI j1), .int y] [] h Q) from ⟨fun c2 => ?_, fun c2 => ?_⟩)
    · skip
      exact absurd c2 (by decide)
    · skip
      refine exf_go 3 (show wpC (d + 3) true 157 [.ref 10, .int y] h (fun r h' => Go (d + 3) true 133 13 [.ref 10, .int (nI j1), .int y] [r] h' Q) from ?_)
      refine c_isNumber cs (fun j3 e3 q3 r3 => ?_) (fun e3 => ?_)
      · skip
        subst q3
        show Go (d + 3) true 133 13 [.ref 10, .int (nI j1), .int (nI j3)] [.int 1] h Q
        refine exf_go 1 (show (¬ (1 : Int32) = 0 → Go (d + 3) true 133 19 [.ref 10, .int (nI j1), .int (nI j3)] [] h Q) ∧ (¬ (¬ (1 : Int32) = 0) → Go (d + 3) true 133 16 [.ref 10, .int (nI j1), .int (nI j3)] [] h Q) from ⟨fun c4 => ?_, fun c4 => ?_⟩)
        · skip
          refine exf_go 5 (show wpC (d + 3) true 83 [.ref 31, .int (nI j1), .int (nI j3)] h (fun r h' => Go (d + 3) true 133 28 [.ref 10, .int (nI j1), .int (nI j3)] [r] h' Q) from ?_)
          refine c_turns cs (by omega) (by omega) ?_
          show Go (d + 3) true 133 28 [.ref 10, .int (nI j1), .int (nI j3)] [.int (nI (trn g j1 j3))] h Q
          refine exf_go 1 (show Q (.int (nI (trn g j1 j3))) h from ?_)
          simp only [fSteps, *] at k; exact k
        · skip
          exact absurd (by decide) c4
      · skip
        show Go (d + 3) true 133 13 [.ref 10, .int (nI j1), .int y] [.int 0] h Q
        refine exf_go 1 (show (¬ (0 : Int32) = 0 → Go (d + 3) true 133 19 [.ref 10, .int (nI j1), .int y] [] h Q) ∧ (¬ (¬ (0 : Int32) = 0) → Go (d + 3) true 133 16 [.ref 10, .int (nI j1), .int y] [] h Q) from ⟨fun c5 => ?_, fun c5 => ?_⟩)
        · skip
          exact absurd c5 (by decide)
        · skip
          refine exf_go 2 (show Q (.int (-3)) h from ?_)
          simp only [fSteps, *] at k; exact k
  · skip
    show Go (d + 3) true 133 5 [.ref 10, .int x, .int y] [.int 0] h Q
    refine exf_go 1 (show ((0 : Int32) = 0 → Go (d + 3) true 133 16 [.ref 10, .int x, .int y] [] h Q) ∧ (¬ ((0 : Int32) = 0) → Go (d + 3) true 133 8 [.ref 10, .int x, .int y] [] h Q) from ⟨fun c6 => ?_, fun c6 => ?_⟩)
    · skip
      refine exf_go 2 (show Q (.int (-3)) h from ?_)
      simp only [fSteps, *] at k; exact k
    · skip
      exact absurd (by decide) c6
theorem c_likely {d : Nat} {h : Hp} {g : ShG} {l : LkG} {x : Int32} {Q : Po} (cs : CS 31 g h) (cl : CL 39 g l h) (k : Q (.long (fLikely g l x)) h) : wpC (d + 4) true 118 [.ref 10, .int x] h Q := by
  have hN := tot_b cs.1
  refine go_in rfl ?_
  refine exf_go 3 (show wpC (d + 3) true 157 [.ref 10, .int x] h (fun r h' => Go (d + 3) true 118 5 [.ref 10, .int x] [r] h' Q) from ?_)
  refine c_isNumber cs (fun j1 e1 q1 r1 => ?_) (fun e1 => ?_)
  · skip
    subst q1
    show Go (d + 3) true 118 5 [.ref 10, .int (nI j1)] [.int 1] h Q
    refine exf_go 1 (show (¬ (1 : Int32) = 0 → Go (d + 3) true 118 12 [.ref 10, .int (nI j1)] [] h Q) ∧ (¬ (¬ (1 : Int32) = 0) → Go (d + 3) true 118 8 [.ref 10, .int (nI j1)] [] h Q) from ⟨fun c2 => ?_, fun c2 => ?_⟩)
    · skip
      refine exf_go 3 (show wpC (d + 3) true 164 [.ref 10, .int (nI j1)] h (fun r h' => Go (d + 3) true 118 17 [.ref 10, .int (nI j1)] [r] h' Q) from ?_)
      refine c_leftWeight cs cl (by omega) ?_
      show Go (d + 3) true 118 17 [.ref 10, .int (nI j1)] [.long (lN (lwt g l j1))] h Q
      refine exf_go 1 (show Q (.long (lN (lwt g l j1))) h from ?_)
      simp only [fLikely, *] at k; exact k
    · skip
      exact absurd (by decide) c2
  · skip
    show Go (d + 3) true 118 5 [.ref 10, .int x] [.int 0] h Q
    refine exf_go 1 (show (¬ (0 : Int32) = 0 → Go (d + 3) true 118 12 [.ref 10, .int x] [] h Q) ∧ (¬ (¬ (0 : Int32) = 0) → Go (d + 3) true 118 8 [.ref 10, .int x] [] h Q) from ⟨fun c3 => ?_, fun c3 => ?_⟩)
    · skip
      exact absurd c3 (by decide)
    · skip
      refine exf_go 2 (show Q (.long (-3)) h from ?_)
      simp only [fLikely, *] at k; exact k
theorem c_left {d : Nat} {h : Hp} {g : ShG} {l : LkG} {Q : Po} (cs : CS 31 g h) (cl : CL 39 g l h) (k : Q (.int (nI (cntL g l))) h) : wpC (d + 4) true 119 [.ref 10] h Q := by
  have hN := tot_b cs.1
  refine go_in rfl ?_
  refine exf_go 3 (show wpC (d + 3) true 33 [.ref 39] h (fun r h' => Go (d + 3) true 119 7 [.ref 10] [r] h' Q) from ?_)
  refine c_leftOnes cs cl ?_
  show Go (d + 3) true 119 7 [.ref 10] [.int (nI (cntN (lft g l) (tot g)))] h Q
  refine exf_go 1 (show Q (.int (nI (cntN (lft g l) (tot g)))) h from ?_)
  exact k
theorem c_all {d : Nat} {h : Hp} {g : ShG} {l : LkG} {Q : Po} (cs : CS 31 g h) (cl : CL 39 g l h) (k : Q (.long (lN (sumL g l))) h) : wpC (d + 5) true 120 [.ref 10] h Q := by
  have hN := tot_b cs.1
  refine go_in rfl ?_
  refine exf_go 2 (show wpC (d + 4) true 165 [.ref 10] h (fun r h' => Go (d + 4) true 120 4 [.ref 10] [r] h' Q) from ?_)
  refine c_leftSum cs cl ?_
  show Go (d + 4) true 120 4 [.ref 10] [.long (lN (sumL g l))] h Q
  refine exf_go 1 (show Q (.long (lN (sumL g l))) h from ?_)
  exact k
theorem c_holds {d : Nat} {h : Hp} {g : ShG} {l : LkG} {x y : Int32} {Q : Po} (cs : CS 31 g h) (cl : CL 39 g l h) (k : Q (.int (fHolds g x y)) h) : wpC (d + 3) true 116 [.ref 10, .int x, .int y] h Q := by
  have hN := tot_b cs.1
  have h8 := cs.1.2.2.2.1
  have hb := fun n => sH_b cs.1 n
  refine go_in rfl ?_
  refine exf_go 2 (show (x < 0 → Go (d + 2) true 116 15 [.ref 10, .int x, .int y] [] h Q) ∧ (¬ (x < 0) → Go (d + 2) true 116 4 [.ref 10, .int x, .int y] [] h Q) from ⟨fun c1 => ?_, fun c1 => ?_⟩)
  · skip
    have e1 : ixN x (sC g) = none := ix_neg c1
    refine exf_go 2 (show Q (.int (-2)) h from ?_)
    simp only [fHolds, *] at k; exact k
  · skip
    refine exf_go 4 (show Go (d + 2) true 116 12 [.ref 10, .int x, .int y] [.int (rI h 31 6), .int x] h Q from ?_)
    rw [show (rI h 31 6 : Int32) = nI (sC g) from cs_C cs]
    refine exf_go 1 (show (x < (nI (sC g)) → Go (d + 2) true 116 18 [.ref 10, .int x, .int y] [] h Q) ∧ (¬ (x < (nI (sC g))) → Go (d + 2) true 116 15 [.ref 10, .int x, .int y] [] h Q) from ⟨fun c2 => ?_, fun c2 => ?_⟩)
    · skip
      obtain ⟨j, e1, e2, e3⟩ := ix_in (by omega) c1 (Int32.not_le.mpr c2)
      subst e2
      refine exf_go 3 (show wpC (d + 2) true 157 [.ref 10, .int y] h (fun r h' => Go (d + 2) true 116 23 [.ref 10, .int (nI j), .int y] [r] h' Q) from ?_)
      refine c_isNumber cs (fun j3 e3 q3 r3 => ?_) (fun e3 => ?_)
      · skip
        subst q3
        show Go (d + 2) true 116 23 [.ref 10, .int (nI j), .int (nI j3)] [.int 1] h Q
        refine exf_go 1 (show (¬ (1 : Int32) = 0 → Go (d + 2) true 116 29 [.ref 10, .int (nI j), .int (nI j3)] [] h Q) ∧ (¬ (¬ (1 : Int32) = 0) → Go (d + 2) true 116 26 [.ref 10, .int (nI j), .int (nI j3)] [] h Q) from ⟨fun c4 => ?_, fun c4 => ?_⟩)
        · skip
          refine exf_go 4 (show wpC (d + 2) true 29 [.ref 39, .int (nI j3)] h (fun r h' => Go (d + 2) true 116 37 [.ref 10, .int (nI j), .int (nI j3)] [r] h' Q) from ?_)
          refine c_maskOf cs cl (by omega) ?_
          show Go (d + 2) true 116 37 [.ref 10, .int (nI j), .int (nI j3)] [.int (nI (sH g j3))] h Q
          refine exf_go 2 (show Go (d + 2) true 116 39 [.ref 10, .int (nI j), .int (nI j3)] [.int ((nI (sH g j3)) >>> ((nI j) &&& 31))] h Q from ?_)
          rw [show ((nI (sH g j3)) >>> ((nI j) &&& 31) : Int32) = nI ((sH g j3) / 2 ^ j) from nI_shr (by omega) (by omega)]
          refine exf_go 2 (show Go (d + 2) true 116 41 [.ref 10, .int (nI j), .int (nI j3)] [.int ((nI ((sH g j3) / 2 ^ j)) &&& 1)] h Q from ?_)
          rw [show ((nI ((sH g j3) / 2 ^ j)) &&& 1 : Int32) = nI (btn (sH g j3) j) from nI_low1 (Nat.lt_of_le_of_lt (Nat.div_le_self _ _) (by omega))]
          refine exf_go 1 (show Q (.int (nI (btn (sH g j3) j))) h from ?_)
          simp only [fHolds, *] at k; exact k
        · skip
          exact absurd (by decide) c4
      · skip
        show Go (d + 2) true 116 23 [.ref 10, .int (nI j), .int y] [.int 0] h Q
        refine exf_go 1 (show (¬ (0 : Int32) = 0 → Go (d + 2) true 116 29 [.ref 10, .int (nI j), .int y] [] h Q) ∧ (¬ (¬ (0 : Int32) = 0) → Go (d + 2) true 116 26 [.ref 10, .int (nI j), .int y] [] h Q) from ⟨fun c5 => ?_, fun c5 => ?_⟩)
        · skip
          exact absurd c5 (by decide)
        · skip
          refine exf_go 2 (show Q (.int (-3)) h from ?_)
          simp only [fHolds, *] at k; exact k
    · skip
      have e1 : ixN x (sC g) = none := ix_ge (Int32.not_lt.mp c2)
      refine exf_go 2 (show Q (.int (-2)) h from ?_)
      simp only [fHolds, *] at k; exact k
