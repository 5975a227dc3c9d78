/-! The class's lock: which numbers are left. -/
theorem cl_N {a : Nat} {g : ShG} {l : LkG} {h : Hp} (cl : CL a g l h) : rI h a 1 = nI (tot g) := cl.2.1
theorem cl_A {a : Nat} {g : ShG} {l : LkG} {h : Hp} (cl : CL a g l h) : rI h a 3 = nI (lA l) := cl.2.2.1
theorem cl_X {a : Nat} {g : ShG} {l : LkG} {h : Hp} (cl : CL a g l h) : rI h a 4 = lX l := cl.2.2.2.1
theorem cl_G {a : Nat} {g : ShG} {l : LkG} {h : Hp} (cl : CL a g l h) : rI h a 5 = lG l := cl.2.2.2.2.1
theorem cl_O {a : Nat} {g : ShG} {l : LkG} {h : Hp} (cl : CL a g l h) : rI h a 7 = nI (lO l) := cl.2.2.2.2.2.1
theorem cl_T {a : Nat} {g : ShG} {l : LkG} {h : Hp} (cl : CL a g l h) : rI h a 6 = nI (cntN (fun n => lT l n == 1) (tot g)) := cl.2.2.2.2.2.2.1
theorem cl_al {a : Nat} {g : ShG} {l : LkG} {h : Hp} (cl : CL a g l h) : tot g ≤ al h (a + 1) ∧ al h (a + 1) < 2 ^ 31 := ⟨cl.2.2.2.2.2.2.2.1, cl.2.2.2.2.2.2.2.2.1⟩
theorem cl_Cl {a : Nat} {g : ShG} {l : LkG} {h : Hp} (cl : CL a g l h) (n : Nat) (hn : n < tot g) : rI h (a + 1) n = nI (cel g l n) := cl.2.2.2.2.2.2.2.2.2.1 n hn
theorem cl_Fl {a : Nat} {g : ShG} {l : LkG} {h : Hp} (cl : CL a g l h) (n : Nat) (hn : n < sW g) : rI h (a + 2) n = nI (lF l n % 2 ^ sF g n) := cl.2.2.2.2.2.2.2.2.2.2 n hn
theorem cl_C {a b : Nat} {g : ShG} {l : LkG} {h : Hp} (cs : CS b g h) (cl : CL a g l h) {n : Nat} (hn : n < tot g) : rI h (a + 1) (nI n).toNatClampNeg = nI (cel g l n) := by have := tot_b cs.1; rw [nI_clamp (by omega)]; exact cl_Cl cl n hn
theorem cl_F {a b : Nat} {g : ShG} {l : LkG} {h : Hp} (cs : CS b g h) (cl : CL a g l h) {n : Nat} (hn : n < sW g) : rI h (a + 2) (nI n).toNatClampNeg = nI (lF l n % 2 ^ sF g n) := by have := cs.1.1; rw [nI_clamp (by omega)]; exact cl_Fl cl n hn
theorem c_isCell {d : Nat} {h : Hp} {g : ShG} {l : LkG} {n : Nat} {Q : Po} (cs : CS 31 g h) (cl : CL 39 g l h) (hn : n < tot g) (k : Q (.int 1) h) : wpC (d + 1) true 32 [.ref 39, .int (nI n)] h Q := by
  have hN := tot_b cs.1
  refine go_in rfl ?_
  refine exf_go 2 (show ((nI n) < 0 → Go d true 32 16 [.ref 39, .int (nI n)] [] h Q) ∧ (¬ ((nI n) < 0) → Go d true 32 4 [.ref 39, .int (nI n)] [] h Q) from ⟨fun c1 => ?_, fun c1 => ?_⟩)
  · skip
    have c1 : n < 0 := (nI_ltI (a := n) (b := 0) (by omega) (by omega)).mp c1
    refine exf_go 2 (show ((0 : Int32) = 0 ∨ (0 : Int32) = 1) ∧ Q (.int 0) h from ⟨(by first | exact Or.inl rfl | exact Or.inr rfl | assumption), ?_⟩)
    exfalso; omega
  · skip
    have c1 : ¬ n < 0 := fun q => c1 ((nI_ltI (a := n) (b := 0) (by omega) (by omega)).mpr q)
    refine exf_go 3 (show Go d true 32 9 [.ref 39, .int (nI n)] [.int (rI h 39 1), .int (nI n)] h Q from ?_)
    rw [show (rI h 39 1 : Int32) = nI (tot g) from cl_N cl]
    refine exf_go 1 (show ((nI (tot g)) ≤ (nI n) → Go d true 32 16 [.ref 39, .int (nI n)] [] h Q) ∧ (¬ ((nI (tot g)) ≤ (nI n)) → Go d true 32 12 [.ref 39, .int (nI n)] [] h Q) from ⟨fun c2 => ?_, fun c2 => ?_⟩)
    · skip
      have c2 : (tot g) ≤ n := (nI_leI (a := (tot g)) (b := n) (by omega) (by omega)).mp c2
      refine exf_go 2 (show ((0 : Int32) = 0 ∨ (0 : Int32) = 1) ∧ Q (.int 0) h from ⟨(by first | exact Or.inl rfl | exact Or.inr rfl | assumption), ?_⟩)
      exfalso; omega
    · skip
      have c2 : ¬ (tot g) ≤ n := fun q => c2 ((nI_leI (a := (tot g)) (b := n) (by omega) (by omega)).mpr q)
      refine exf_go 3 (show ((1 : Int32) = 0 ∨ (1 : Int32) = 1) ∧ Q (.int 1) h from ⟨(by first | exact Or.inl rfl | exact Or.inr rfl | assumption), ?_⟩)
      exact k
theorem c_isLeft {d : Nat} {h : Hp} {g : ShG} {l : LkG} {n : Nat} {Q : Po} (cs : CS 31 g h) (cl : CL 39 g l h) (hn : n < tot g) (k1 : lft g l n = true → Q (.int 1) h) (k0 : lft g l n = false → Q (.int 0) h) : wpC (d + 2) true 31 [.ref 39, .int (nI n)] h Q := by
  have hN := tot_b cs.1
  have hc := cel_b cs.1 cl.1 n
  have hal := cl_al cl
  simp only [Nat.reduceAdd] at hal
  have hb : cel g l n &&& 1792 ≤ cel g l n := Nat.and_le_left
  have hg := and_gone _ hc
  refine go_in rfl ?_
  refine exf_go 3 (show wpC (d + 1) true 32 [.ref 39, .int (nI n)] h (fun r h' => Go (d + 1) true 31 5 [.ref 39, .int (nI n)] [r] h' Q) from ?_)
  refine c_isCell cs cl (by omega) ?_
  show Go (d + 1) true 31 5 [.ref 39, .int (nI n)] [.int 1] h Q
  refine exf_go 1 (show ((1 : Int32) = 0 → Go (d + 1) true 31 25 [.ref 39, .int (nI n)] [] h Q) ∧ (¬ ((1 : Int32) = 0) → Go (d + 1) true 31 8 [.ref 39, .int (nI n)] [] h Q) from ⟨fun c1 => ?_, fun c1 => ?_⟩)
  · skip
    exact absurd c1 (by decide)
  · skip
    refine exf_go 4 (show vp_in (nI n) (al h 40) ∧ (Go (d + 1) true 31 14 [.ref 39, .int (nI n)] [.int (rI h 40 ((nI n).toNatClampNeg))] h Q) from ⟨(vp_in_nI (by omega) (by omega)), ?_⟩)
    rw [show (rI h 40 ((nI n).toNatClampNeg) : Int32) = nI (cel g l n) from cl_C cs cl (n := n) (by omega)]
    refine exf_go 2 (show Go (d + 1) true 31 18 [.ref 39, .int (nI n)] [.int ((nI (cel g l n)) &&& 1792)] h Q from ?_)
    rw [show ((nI (cel g l n)) &&& 1792 : Int32) = nI (cel g l n &&& 1792) from nI_and _ 1792]
    refine exf_go 1 (show (¬ (nI (cel g l n &&& 1792)) = 0 → Go (d + 1) true 31 25 [.ref 39, .int (nI n)] [] h Q) ∧ (¬ (¬ (nI (cel g l n &&& 1792)) = 0) → Go (d + 1) true 31 21 [.ref 39, .int (nI n)] [] h Q) from ⟨fun c2 => ?_, fun c2 => ?_⟩)
    · skip
      have c2 : ¬ (cel g l n &&& 1792) = 0 := fun q => c2 ((nI_eq (a := (cel g l n &&& 1792)) (b := 0) (by omega) (by omega)).mpr q)
      refine exf_go 2 (show ((0 : Int32) = 0 ∨ (0 : Int32) = 1) ∧ Q (.int 0) h from ⟨(by first | exact Or.inl rfl | exact Or.inr rfl | assumption), ?_⟩)
      first | exact absurd rfl (by assumption) | exact k0 (decide_eq_false (fun q => absurd (hg.mpr q) (by omega)))
    · skip
      have c2 : (cel g l n &&& 1792) = 0 := (nI_eq (a := (cel g l n &&& 1792)) (b := 0) (by omega) (by omega)).mp (Classical.not_not.mp c2)
      refine exf_go 3 (show ((1 : Int32) = 0 ∨ (1 : Int32) = 1) ∧ Q (.int 1) h from ⟨(by first | exact Or.inl rfl | exact Or.inr rfl | assumption), ?_⟩)
      exact k1 (decide_eq_true (hg.mp (by omega)))
theorem c_maskOf {d : Nat} {h : Hp} {g : ShG} {l : LkG} {n : Nat} {Q : Po} (cs : CS 31 g h) (cl : CL 39 g l h) (hn : n < tot g) (k : Q (.int (nI (sH g n))) h) : wpC (d + 2) true 29 [.ref 39, .int (nI n)] h Q := by
  have hN := tot_b cs.1
  have hc := cel_b cs.1 cl.1 n
  have hal := cl_al cl
  simp only [Nat.reduceAdd] at hal
  refine go_in rfl ?_
  refine exf_go 3 (show wpC (d + 1) true 32 [.ref 39, .int (nI n)] h (fun r h' => Go (d + 1) true 29 5 [.ref 39, .int (nI n)] [r] h' Q) from ?_)
  refine c_isCell cs cl (by omega) ?_
  show Go (d + 1) true 29 5 [.ref 39, .int (nI n)] [.int 1] h Q
  refine exf_go 1 (show ((1 : Int32) = 0 → Go (d + 1) true 29 21 [.ref 39, .int (nI n)] [] h Q) ∧ (¬ ((1 : Int32) = 0) → Go (d + 1) true 29 8 [.ref 39, .int (nI n)] [] h Q) from ⟨fun c1 => ?_, fun c1 => ?_⟩)
  · skip
    exact absurd c1 (by decide)
  · skip
    refine exf_go 4 (show vp_in (nI n) (al h 40) ∧ (Go (d + 1) true 29 14 [.ref 39, .int (nI n)] [.int (rI h 40 ((nI n).toNatClampNeg))] h Q) from ⟨(vp_in_nI (by omega) (by omega)), ?_⟩)
    rw [show (rI h 40 ((nI n).toNatClampNeg) : Int32) = nI (cel g l n) from cl_C cs cl (n := n) (by omega)]
    refine exf_go 2 (show Go (d + 1) true 29 18 [.ref 39, .int (nI n)] [.int ((nI (cel g l n)) &&& 255)] h Q from ?_)
    rw [show ((nI (cel g l n)) &&& 255 : Int32) = nI (sH g n) from by rw [nI_low8 (by omega), cel_low cs.1]]
    refine exf_go 2 (show Q (.int (nI (sH g n))) h from ?_)
    exact k
theorem c_hasMark {d : Nat} {h : Hp} {g : ShG} {l : LkG} {n b : Nat} {Q : Po} (cs : CS 31 g h) (cl : CL 39 g l h) (hn : n < tot g) (k1 : ¬ cel g l n &&& b = 0 → Q (.int 1) h) (k0 : cel g l n &&& b = 0 → Q (.int 0) h) : wpC (d + 2) true 30 [.ref 39, .int (nI n), .int (nI b)] h Q := by
  have hN := tot_b cs.1
  have hc := cel_b cs.1 cl.1 n
  have hal := cl_al cl
  simp only [Nat.reduceAdd] at hal
  have hb : cel g l n &&& b ≤ cel g l n := Nat.and_le_left
  refine go_in rfl ?_
  refine exf_go 3 (show wpC (d + 1) true 32 [.ref 39, .int (nI n)] h (fun r h' => Go (d + 1) true 30 5 [.ref 39, .int (nI n), .int (nI b)] [r] h' Q) from ?_)
  refine c_isCell cs cl (by omega) ?_
  show Go (d + 1) true 30 5 [.ref 39, .int (nI n), .int (nI b)] [.int 1] h Q
  refine exf_go 1 (show ((1 : Int32) = 0 → Go (d + 1) true 30 23 [.ref 39, .int (nI n), .int (nI b)] [] h Q) ∧ (¬ ((1 : Int32) = 0) → Go (d + 1) true 30 8 [.ref 39, .int (nI n), .int (nI b)] [] h Q) from ⟨fun c1 => ?_, fun c1 => ?_⟩)
  · skip
    exact absurd c1 (by decide)
  · skip
    refine exf_go 4 (show vp_in (nI n) (al h 40) ∧ (Go (d + 1) true 30 14 [.ref 39, .int (nI n), .int (nI b)] [.int (rI h 40 ((nI n).toNatClampNeg))] h Q) from ⟨(vp_in_nI (by omega) (by omega)), ?_⟩)
    rw [show (rI h 40 ((nI n).toNatClampNeg) : Int32) = nI (cel g l n) from cl_C cs cl (n := n) (by omega)]
    refine exf_go 2 (show Go (d + 1) true 30 16 [.ref 39, .int (nI n), .int (nI b)] [.int ((nI (cel g l n)) &&& (nI b))] h Q from ?_)
    rw [show ((nI (cel g l n)) &&& (nI b) : Int32) = nI (cel g l n &&& b) from nI_and _ b]
    refine exf_go 1 (show ((nI (cel g l n &&& b)) = 0 → Go (d + 1) true 30 23 [.ref 39, .int (nI n), .int (nI b)] [] h Q) ∧ (¬ ((nI (cel g l n &&& b)) = 0) → Go (d + 1) true 30 19 [.ref 39, .int (nI n), .int (nI b)] [] h Q) from ⟨fun c2 => ?_, fun c2 => ?_⟩)
    · skip
      have c2 : (cel g l n &&& b) = 0 := (nI_eq (a := (cel g l n &&& b)) (b := 0) (by omega) (by omega)).mp c2
      refine exf_go 2 (show ((0 : Int32) = 0 ∨ (0 : Int32) = 1) ∧ Q (.int 0) h from ⟨(by first | exact Or.inl rfl | exact Or.inr rfl | assumption), ?_⟩)
      first | exact k0 (by assumption) | (exfalso; omega)
    · skip
      have c2 : ¬ (cel g l n &&& b) = 0 := fun q => c2 ((nI_eq (a := (cel g l n &&& b)) (b := 0) (by omega) (by omega)).mpr q)
      refine exf_go 3 (show ((1 : Int32) = 0 ∨ (1 : Int32) = 1) ∧ Q (.int 1) h from ⟨(by first | exact Or.inl rfl | exact Or.inr rfl | assumption), ?_⟩)
      exact k1 (by assumption)
theorem c_leftOnes {d : Nat} {h : Hp} {g : ShG} {l : LkG} {Q : Po} (cs : CS 31 g h) (cl : CL 39 g l h) (k : Q (.int (nI (cntN (lft g l) (tot g)))) h) : wpC (d + 3) true 33 [.ref 39] h Q := by
  have hN := tot_b cs.1
  refine go_in rfl ?_
  refine exf_go 4 (show Go (d + 2) true 33 4 [.ref 39, .int 0, .int 0] [] h Q from ?_)
  have L4 : ∀ (k4 : Nat) (n c : Nat), (tot g - n) < k4 → (n ≤ tot g) → (c = cntN (lft g l) n) → Go (d + 2) true 33 4 [.ref 39, .int (nI c), .int (nI n)] [] h Q := by
    intro k4
    induction k4 with
    | zero => intro n c hk; exact absurd hk (Nat.not_lt_zero _)
    | succ k4 ih4 =>
      intro n c hk hn hc
      refine exf_go 3 (show Go (d + 2) true 33 9 [.ref 39, .int (nI c), .int (nI n)] [.int (rI h 39 1), .int (nI n)] h Q from ?_)
      rw [show (rI h 39 1 : Int32) = nI (tot g) from cl_N cl]
      refine exf_go 1 (show ((nI (tot g)) ≤ (nI n) → Go (d + 2) true 33 29 [.ref 39, .int (nI c), .int (nI n)] [] h Q) ∧ (¬ ((nI (tot g)) ≤ (nI n)) → Go (d + 2) true 33 12 [.ref 39, .int (nI c), .int (nI n)] [] h Q) from ⟨fun c1 => ?_, fun c1 => ?_⟩)
      · skip
        have c1 : (tot g) ≤ n := (nI_leI (a := (tot g)) (b := n) (by omega) (by omega)).mp c1
        refine exf_go 2 (show Q (.int (nI c)) h from ?_)
        rw [show c = cntN (lft g l) (tot g) from by rw [hc, show n = tot g from by omega]]; exact k
      · skip
        have c1 : ¬ (tot g) ≤ n := fun q => c1 ((nI_leI (a := (tot g)) (b := n) (by omega) (by omega)).mpr q)
        refine exf_go 3 (show wpC (d + 2) true 31 [.ref 39, .int (nI n)] h (fun r h' => Go (d + 2) true 33 17 [.ref 39, .int (nI c), .int (nI n)] [r] h' Q) from ?_)
        refine c_isLeft cs cl (by omega) (fun b2 => ?_) (fun b2 => ?_)
        · skip
          show Go (d + 2) true 33 17 [.ref 39, .int (nI c), .int (nI n)] [.int 1] h Q
          refine exf_go 1 (show ((1 : Int32) = 0 → Go (d + 2) true 33 23 [.ref 39, .int (nI c), .int (nI n)] [] h Q) ∧ (¬ ((1 : Int32) = 0) → Go (d + 2) true 33 20 [.ref 39, .int (nI c), .int (nI n)] [] h Q) from ⟨fun c3 => ?_, fun c3 => ?_⟩)
          · skip
            exact absurd c3 (by decide)
          · skip
            refine exf_go 1 (show Go (d + 2) true 33 23 [.ref 39, .int ((nI c) + 1), .int (nI n)] [] h Q from ?_)
            rw [show ((nI c) + 1 : Int32) = nI (c + 1) from nI_add c 1]
            refine exf_go 1 (show Go (d + 2) true 33 26 [.ref 39, .int (nI (c + 1)), .int ((nI n) + 1)] [] h Q from ?_)
            rw [show ((nI n) + 1 : Int32) = nI (n + 1) from nI_add n 1]
            refine exf_go 1 (show Go (d + 2) true 33 4 [.ref 39, .int (nI (c + 1)), .int (nI (n + 1))] [] h Q from ?_)
            exact ih4 (n + 1) (c + 1) (by omega) (by omega) (by rw [hc, cntN]; simp only [*, if_true, if_false, Nat.add_zero]; try rfl)
        · skip
          show Go (d + 2) true 33 17 [.ref 39, .int (nI c), .int (nI n)] [.int 0] h Q
          refine exf_go 1 (show ((0 : Int32) = 0 → Go (d + 2) true 33 23 [.ref 39, .int (nI c), .int (nI n)] [] h Q) ∧ (¬ ((0 : Int32) = 0) → Go (d + 2) true 33 20 [.ref 39, .int (nI c), .int (nI n)] [] h Q) from ⟨fun c4 => ?_, fun c4 => ?_⟩)
          · skip
            refine exf_go 1 (show Go (d + 2) true 33 26 [.ref 39, .int (nI c), .int ((nI n) + 1)] [] h Q from ?_)
            rw [show ((nI n) + 1 : Int32) = nI (n + 1) from nI_add n 1]
            refine exf_go 1 (show Go (d + 2) true 33 4 [.ref 39, .int (nI c), .int (nI (n + 1))] [] h Q from ?_)
            exact ih4 (n + 1) c (by omega) (by omega) (by rw [hc, cntN]; simp only [*, if_true, if_false, Nat.add_zero]; try rfl)
          · skip
            exact absurd (by decide) c4
  exact L4 (tot g + 1) 0 0 (by omega) (by omega) rfl
