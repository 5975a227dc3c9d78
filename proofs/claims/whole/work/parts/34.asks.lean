/-! What the class answers of the shed and of what is left. -/
def lwt (g : ShG) (l : LkG) (n : Nat) : Nat := if lft g l n then wtA g (sH g n) else 0
def sumL (g : ShG) (l : LkG) : Nat := sumN (lwt g l) (tot g)
theorem lwt_b {g : ShG} (h : ShW g) (l : LkG) (n : Nat) : lwt g l n ≤ 100000000 := by
  have := wtA_b h (sH g n)
  unfold lwt
  split <;> omega
theorem sumN_b {f : Nat → Nat} (hf : ∀ k, f k ≤ 100000000) (n : Nat) (hn : n ≤ 10000) : sumN f n ≤ 1000000000000 := by
  have := sumN_le (f := f) (c := 100000000) n (fun k _ => hf k)
  omega
theorem hH {g : ShG} (h : ShW g) (n : Nat) : sH g n < 2 ^ sC g := h.2.2.2.2.2.2.2.2.2.2.2.2.2 n
theorem c_leftWeight {d : Nat} {h : Hp} {g : ShG} {l : LkG} {n : Nat} {Q : Po} (cs : CS 31 g h) (cl : CL 39 g l h) (hn : n < tot g) (k : Q (.long (lN (lwt g l n))) h) : wpC (d + 3) true 164 [.ref 10, .int (nI n)] h Q := by
  have hN := tot_b cs.1
  have e := evr_b cs.1
  have hh := hH cs.1 n
  have hw := wtA_b cs.1 (sH g n)
  refine go_in rfl ?_
  refine exf_go 4 (show wpC (d + 2) true 31 [.ref 39, .int (nI n)] h (fun r h' => Go (d + 2) true 164 8 [.ref 10, .int (nI n)] [r] h' Q) from ?_)
  refine c_isLeft cs cl (by omega) (fun b1 => ?_) (fun b1 => ?_)
  · skip
    show Go (d + 2) true 164 8 [.ref 10, .int (nI n)] [.int 1] h Q
    refine exf_go 1 (show ((1 : Int32) = 0 → Go (d + 2) true 164 31 [.ref 10, .int (nI n)] [] h Q) ∧ (¬ ((1 : Int32) = 0) → Go (d + 2) true 164 11 [.ref 10, .int (nI n)] [] h Q) from ⟨fun c2 => ?_, fun c2 => ?_⟩)
    · skip
      exact absurd c2 (by decide)
    · skip
      refine exf_go 7 (show wpC (d + 2) true 29 [.ref 39, .int (nI n)] h (fun r h' => Go (d + 2) true 164 26 [.ref 10, .int (nI n)] [r, .ref 37] h' Q) from ?_)
      refine c_maskOf cs cl (by omega) ?_
      have := sH_b cs.1 n
      show Go (d + 2) true 164 26 [.ref 10, .int (nI n)] [.int (nI (sH g n)), .ref 37] h Q
      refine exf_go 1 (show vp_in (nI (sH g n)) 256 ∧ (Go (d + 2) true 164 27 [.ref 10, .int (nI n)] [.int (rI h 37 ((nI (sH g n)).toNatClampNeg))] h Q) from ⟨(vp_in_nI (by omega) (by omega)), ?_⟩)
      rw [show (rI h 37 ((nI (sH g n)).toNatClampNeg) : Int32) = nI (wtA g (sH g n)) from cs_wt cs (n := (sH g n)) (by omega)]
      refine exf_go 1 (show Go (d + 2) true 164 28 [.ref 10, .int (nI n)] [.long ((nI (wtA g (sH g n))).toInt64)] h Q from ?_)
      rw [show ((nI (wtA g (sH g n))).toInt64 : Int64) = lN (wtA g (sH g n)) from nI_l (n := (wtA g (sH g n))) (by omega)]
      refine exf_go 2 (show Q (.long (lN (wtA g (sH g n)))) h from ?_)
      rw [lwt, b1] at k; exact k
  · skip
    show Go (d + 2) true 164 8 [.ref 10, .int (nI n)] [.int 0] h Q
    refine exf_go 1 (show ((0 : Int32) = 0 → Go (d + 2) true 164 31 [.ref 10, .int (nI n)] [] h Q) ∧ (¬ ((0 : Int32) = 0) → Go (d + 2) true 164 11 [.ref 10, .int (nI n)] [] h Q) from ⟨fun c3 => ?_, fun c3 => ?_⟩)
    · skip
      refine exf_go 2 (show Q (.long 0) h from ?_)
      rw [lwt, b1] at k; exact k
    · skip
      exact absurd (by decide) c3
theorem c_leftSum {d : Nat} {h : Hp} {g : ShG} {l : LkG} {Q : Po} (cs : CS 31 g h) (cl : CL 39 g l h) (k : Q (.long (lN (sumL g l))) h) : wpC (d + 4) true 165 [.ref 10] h Q := by
  have hN := tot_b cs.1
  refine go_in rfl ?_
  refine exf_go 4 (show Go (d + 3) true 165 4 [.ref 10, .long 0, mk_, .int 0] [] h Q from ?_)
  have L4 : ∀ (k4 : Nat) (n : Nat), (tot g - n) < k4 → (n ≤ tot g) → Go (d + 3) true 165 4 [.ref 10, .long (lN (sumN (lwt g l) n)), mk_, .int (nI n)] [] h Q := by
    intro k4
    induction k4 with
    | zero => intro n hk; exact absurd hk (Nat.not_lt_zero _)
    | succ k4 ih4 =>
      intro n hk hn
      refine exf_go 4 (show Go (d + 3) true 165 12 [.ref 10, .long (lN (sumN (lwt g l) n)), mk_, .int (nI n)] [.int (rI h 31 5), .int (nI n)] h Q from ?_)
      rw [show (rI h 31 5 : Int32) = nI (tot g) from cs_N cs]
      refine exf_go 1 (show ((nI (tot g)) ≤ (nI n) → Go (d + 3) true 165 29 [.ref 10, .long (lN (sumN (lwt g l) n)), mk_, .int (nI n)] [] h Q) ∧ (¬ ((nI (tot g)) ≤ (nI n)) → Go (d + 3) true 165 15 [.ref 10, .long (lN (sumN (lwt g l) n)), mk_, .int (nI n)] [] h Q) from ⟨fun c1 => ?_, fun c1 => ?_⟩)
      · skip
        have c1 : (tot g) ≤ n := (nI_leI (a := (tot g)) (b := n) (by omega) (by omega)).mp c1
        refine exf_go 2 (show Q (.long (lN (sumN (lwt g l) n))) h from ?_)
        rw [show n = tot g from by omega]; exact k
      · skip
        have c1 : ¬ (tot g) ≤ n := fun q => c1 ((nI_leI (a := (tot g)) (b := n) (by omega) (by omega)).mpr q)
        refine exf_go 4 (show wpC (d + 3) true 164 [.ref 10, .int (nI n)] h (fun r h' => Go (d + 3) true 165 21 [.ref 10, .long (lN (sumN (lwt g l) n)), mk_, .int (nI n)] [r, .long (lN (sumN (lwt g l) n))] h' Q) from ?_)
        refine c_leftWeight cs cl (by omega) ?_
        have := lwt_b cs.1 l n
        show Go (d + 3) true 165 21 [.ref 10, .long (lN (sumN (lwt g l) n)), mk_, .int (nI n)] [.long (lN (lwt g l n)), .long (lN (sumN (lwt g l) n))] h Q
        refine exf_go 1 (show Go (d + 3) true 165 22 [.ref 10, .long (lN (sumN (lwt g l) n)), mk_, .int (nI n)] [.long ((lN (sumN (lwt g l) n)) + (lN (lwt g l n)))] h Q from ?_)
        rw [show ((lN (sumN (lwt g l) n)) + (lN (lwt g l n)) : Int64) = lN ((sumN (lwt g l) n) + (lwt g l n)) from lN_add (sumN (lwt g l) n) (lwt g l n)]
        refine exf_go 2 (show Go (d + 3) true 165 26 [.ref 10, .long (lN ((sumN (lwt g l) n) + (lwt g l n))), mk_, .int ((nI n) + 1)] [] h Q from ?_)
        rw [show ((nI n) + 1 : Int32) = nI (n + 1) from nI_add n 1]
        refine exf_go 1 (show Go (d + 3) true 165 4 [.ref 10, .long (lN ((sumN (lwt g l) n) + (lwt g l n))), mk_, .int (nI (n + 1))] [] h Q from ?_)
        exact ih4 (n + 1) (by omega) (by omega)
  exact L4 (tot g + 1) 0 (by omega) (by omega)
def sumH (g : ShG) (l : LkG) (c : Nat) : Nat → Nat := sumN (fun n => if btn (sH g n) c = 1 then lwt g l n else 0)
theorem sumN_mono {f f2 : Nat → Nat} (hf : ∀ k, f k ≤ f2 k) : ∀ n, sumN f n ≤ sumN f2 n
  | 0 => Nat.le_refl _
  | n + 1 => Nat.add_le_add (sumN_mono hf n) (hf n)
theorem sumH_le (g : ShG) (l : LkG) (c n : Nat) : sumH g l c n ≤ sumN (lwt g l) n := sumN_mono (fun k => by split <;> omega) n
theorem c_leftHeld {d : Nat} {h : Hp} {g : ShG} {l : LkG} {c : Nat} {Q : Po} (cs : CS 31 g h) (cl : CL 39 g l h) (hc : c < 8) (k : Q (.long (lN (sumH g l c (tot g)))) h) : wpC (d + 4) true 166 [.ref 10, .int (nI c)] h Q := by
  have hN := tot_b cs.1
  refine go_in rfl ?_
  refine exf_go 4 (show Go (d + 3) true 166 5 [.ref 10, .int (nI c), .long 0, mk_, .int 0] [] h Q from ?_)
  have L5 : ∀ (k5 : Nat) (n s : Nat), (tot g - n) < k5 → (n ≤ tot g) → (s = sumH g l c n) → Go (d + 3) true 166 5 [.ref 10, .int (nI c), .long (lN s), mk_, .int (nI n)] [] h Q := by
    intro k5
    induction k5 with
    | zero => intro n s hk; exact absurd hk (Nat.not_lt_zero _)
    | succ k5 ih5 =>
      intro n s hk hn hs
      have hh := sH_b cs.1 n
      have hb := btn_le (sH g n) c
      refine exf_go 4 (show Go (d + 3) true 166 14 [.ref 10, .int (nI c), .long (lN s), mk_, .int (nI n)] [.int (rI h 31 5), .int (nI n)] h Q from ?_)
      rw [show (rI h 31 5 : Int32) = nI (tot g) from cs_N cs]
      refine exf_go 1 (show ((nI (tot g)) ≤ (nI n) → Go (d + 3) true 166 49 [.ref 10, .int (nI c), .long (lN s), mk_, .int (nI n)] [] h Q) ∧ (¬ ((nI (tot g)) ≤ (nI n)) → Go (d + 3) true 166 17 [.ref 10, .int (nI c), .long (lN s), mk_, .int (nI n)] [] h Q) from ⟨fun c1 => ?_, fun c1 => ?_⟩)
      · skip
        have c1 : (tot g) ≤ n := (nI_leI (a := (tot g)) (b := n) (by omega) (by omega)).mp c1
        refine exf_go 2 (show Q (.long (lN s)) h from ?_)
        rw [hs, show n = tot g from by omega]; exact k
      · skip
        have c1 : ¬ (tot g) ≤ n := fun q => c1 ((nI_leI (a := (tot g)) (b := n) (by omega) (by omega)).mpr q)
        refine exf_go 4 (show wpC (d + 3) true 29 [.ref 39, .int (nI n)] h (fun r h' => Go (d + 3) true 166 26 [.ref 10, .int (nI c), .long (lN s), mk_, .int (nI n)] [r] h' Q) from ?_)
        refine c_maskOf cs cl (by omega) ?_
        have := sH_b cs.1 n
        show Go (d + 3) true 166 26 [.ref 10, .int (nI c), .long (lN s), mk_, .int (nI n)] [.int (nI (sH g n))] h Q
        refine exf_go 2 (show Go (d + 3) true 166 28 [.ref 10, .int (nI c), .long (lN s), mk_, .int (nI n)] [.int ((nI (sH g n)) >>> ((nI c) &&& 31))] h Q from ?_)
        rw [show ((nI (sH g n)) >>> ((nI c) &&& 31) : Int32) = nI ((sH g n) / 2 ^ c) from nI_shr (a := (sH g n)) (k := c) (by omega) (by omega)]
        refine exf_go 2 (show Go (d + 3) true 166 30 [.ref 10, .int (nI c), .long (lN s), mk_, .int (nI n)] [.int ((nI ((sH g n) / 2 ^ c)) &&& 1)] h Q from ?_)
        rw [show ((nI ((sH g n) / 2 ^ c)) &&& 1 : Int32) = nI (btn (sH g n) c) from nI_low1 (Nat.lt_of_le_of_lt (Nat.div_le_self _ _) (by omega))]
        refine exf_go 2 (show (¬ (nI (btn (sH g n) c)) = 1 → Go (d + 3) true 166 43 [.ref 10, .int (nI c), .long (lN s), mk_, .int (nI n)] [] h Q) ∧ (¬ (¬ (nI (btn (sH g n) c)) = 1) → Go (d + 3) true 166 34 [.ref 10, .int (nI c), .long (lN s), mk_, .int (nI n)] [] h Q) from ⟨fun c2 => ?_, fun c2 => ?_⟩)
        · skip
          have c2 : ¬ (btn (sH g n) c) = 1 := fun q => c2 ((nI_eq (a := (btn (sH g n) c)) (b := 1) (by omega) (by omega)).mpr q)
          refine exf_go 1 (show Go (d + 3) true 166 46 [.ref 10, .int (nI c), .long (lN s), mk_, .int ((nI n) + 1)] [] h Q from ?_)
          rw [show ((nI n) + 1 : Int32) = nI (n + 1) from nI_add n 1]
          refine exf_go 1 (show Go (d + 3) true 166 5 [.ref 10, .int (nI c), .long (lN s), mk_, .int (nI (n + 1))] [] h Q from ?_)
          exact ih5 (n + 1) s (by omega) (by omega) (by rw [hs]; show _ = sumH g l c n + (if btn (sH g n) c = 1 then lwt g l n else 0); first | rw [if_pos (by assumption)] | rw [if_neg (by assumption), Nat.add_zero])
        · skip
          have c2 : (btn (sH g n) c) = 1 := (nI_eq (a := (btn (sH g n) c)) (b := 1) (by omega) (by omega)).mp (Classical.not_not.mp c2)
          refine exf_go 4 (show wpC (d + 3) true 164 [.ref 10, .int (nI n)] h (fun r h' => Go (d + 3) true 166 41 [.ref 10, .int (nI c), .long (lN s), mk_, .int (nI n)] [r, .long (lN s)] h' Q) from ?_)
          refine c_leftWeight cs cl (by omega) ?_
          have := lwt_b cs.1 l n
          show Go (d + 3) true 166 41 [.ref 10, .int (nI c), .long (lN s), mk_, .int (nI n)] [.long (lN (lwt g l n)), .long (lN s)] h Q
          refine exf_go 1 (show Go (d + 3) true 166 42 [.ref 10, .int (nI c), .long (lN s), mk_, .int (nI n)] [.long ((lN s) + (lN (lwt g l n)))] h Q from ?_)
          rw [show ((lN s) + (lN (lwt g l n)) : Int64) = lN (s + (lwt g l n)) from lN_add s (lwt g l n)]
          refine exf_go 2 (show Go (d + 3) true 166 46 [.ref 10, .int (nI c), .long (lN (s + (lwt g l n))), mk_, .int ((nI n) + 1)] [] h Q from ?_)
          rw [show ((nI n) + 1 : Int32) = nI (n + 1) from nI_add n 1]
          refine exf_go 1 (show Go (d + 3) true 166 5 [.ref 10, .int (nI c), .long (lN (s + (lwt g l n))), mk_, .int (nI (n + 1))] [] h Q from ?_)
          exact ih5 (n + 1) (s + (lwt g l n)) (by omega) (by omega) (by rw [hs]; show _ = sumH g l c n + (if btn (sH g n) c = 1 then lwt g l n else 0); first | rw [if_pos (by assumption)] | rw [if_neg (by assumption), Nat.add_zero])
  exact L5 (tot g + 1) 0 0 (by omega) (by omega) rfl
theorem c_isWheel {d : Nat} {h : Hp} {g : ShG} {x : Int32} {Q : Po} (cs : CS 31 g h) (k1 : ∀ j, ixN x (sW g) = some j → x = nI j → j < sW g → Q (.int 1) h) (k0 : ixN x (sW g) = none → Q (.int 0) h) : wpC (d + 1) true 155 [.ref 10, .int x] h Q := by
  refine go_in rfl ?_
  refine exf_go 2 (show (x < 0 → Go d true 155 19 [.ref 10, .int x] [] h Q) ∧ (¬ (x < 0) → Go d true 155 4 [.ref 10, .int x] [] h Q) from ⟨fun c1 => ?_, fun c1 => ?_⟩)
  · skip
    refine exf_go 2 (show ((0 : Int32) = 0 ∨ (0 : Int32) = 1) ∧ Q (.int 0) h from ⟨(by first | exact Or.inl rfl | exact Or.inr rfl | assumption), ?_⟩)
    first | exact k0 (ix_neg (by assumption)) | exact k0 (ix_ge (by assumption))
  · skip
    refine exf_go 4 (show Go d true 155 12 [.ref 10, .int x] [.int (rI h 31 0), .int x] h Q from ?_)
    rw [show (rI h 31 0 : Int32) = nI (sW g) from cs_W cs]
    refine exf_go 1 (show ((nI (sW g)) ≤ x → Go d true 155 19 [.ref 10, .int x] [] h Q) ∧ (¬ ((nI (sW g)) ≤ x) → Go d true 155 15 [.ref 10, .int x] [] h Q) from ⟨fun c2 => ?_, fun c2 => ?_⟩)
    · skip
      refine exf_go 2 (show ((0 : Int32) = 0 ∨ (0 : Int32) = 1) ∧ Q (.int 0) h from ⟨(by first | exact Or.inl rfl | exact Or.inr rfl | assumption), ?_⟩)
      first | exact k0 (ix_neg (by assumption)) | exact k0 (ix_ge (by assumption))
    · skip
      refine exf_go 3 (show ((1 : Int32) = 0 ∨ (1 : Int32) = 1) ∧ Q (.int 1) h from ⟨(by first | exact Or.inl rfl | exact Or.inr rfl | assumption), ?_⟩)
      obtain ⟨j, e1, e2, e3⟩ := ix_in (by have := cs.1.1; omega) c1 c2
      exact k1 j e1 e2 e3
theorem c_isNumber {d : Nat} {h : Hp} {g : ShG} {x : Int32} {Q : Po} (cs : CS 31 g h) (k1 : ∀ j, ixN x (tot g) = some j → x = nI j → j < tot g → Q (.int 1) h) (k0 : ixN x (tot g) = none → Q (.int 0) h) : wpC (d + 1) true 157 [.ref 10, .int x] h Q := by
  refine go_in rfl ?_
  refine exf_go 2 (show (x < 0 → Go d true 157 19 [.ref 10, .int x] [] h Q) ∧ (¬ (x < 0) → Go d true 157 4 [.ref 10, .int x] [] h Q) from ⟨fun c1 => ?_, fun c1 => ?_⟩)
  · skip
    refine exf_go 2 (show ((0 : Int32) = 0 ∨ (0 : Int32) = 1) ∧ Q (.int 0) h from ⟨(by first | exact Or.inl rfl | exact Or.inr rfl | assumption), ?_⟩)
    first | exact k0 (ix_neg (by assumption)) | exact k0 (ix_ge (by assumption))
  · skip
    refine exf_go 4 (show Go d true 157 12 [.ref 10, .int x] [.int (rI h 31 5), .int x] h Q from ?_)
    rw [show (rI h 31 5 : Int32) = nI (tot g) from cs_N cs]
    refine exf_go 1 (show ((nI (tot g)) ≤ x → Go d true 157 19 [.ref 10, .int x] [] h Q) ∧ (¬ ((nI (tot g)) ≤ x) → Go d true 157 15 [.ref 10, .int x] [] h Q) from ⟨fun c2 => ?_, fun c2 => ?_⟩)
    · skip
      refine exf_go 2 (show ((0 : Int32) = 0 ∨ (0 : Int32) = 1) ∧ Q (.int 0) h from ⟨(by first | exact Or.inl rfl | exact Or.inr rfl | assumption), ?_⟩)
      first | exact k0 (ix_neg (by assumption)) | exact k0 (ix_ge (by assumption))
    · skip
      refine exf_go 3 (show ((1 : Int32) = 0 ∨ (1 : Int32) = 1) ∧ Q (.int 1) h from ⟨(by first | exact Or.inl rfl | exact Or.inr rfl | assumption), ?_⟩)
      obtain ⟨j, e1, e2, e3⟩ := ix_in (by have := tot_b cs.1; omega) c1 c2
      exact k1 j e1 e2 e3
theorem c_isMate {d : Nat} {h : Hp} {g : ShG} {x : Int32} {Q : Po} (cs : CS 31 g h) (k1 : ∀ j, ixN x (sM g) = some j → x = nI j → j < sM g → Q (.int 1) h) (k0 : ixN x (sM g) = none → Q (.int 0) h) : wpC (d + 1) true 158 [.ref 10, .int x] h Q := by
  refine go_in rfl ?_
  refine exf_go 2 (show (x < 0 → Go d true 158 19 [.ref 10, .int x] [] h Q) ∧ (¬ (x < 0) → Go d true 158 4 [.ref 10, .int x] [] h Q) from ⟨fun c1 => ?_, fun c1 => ?_⟩)
  · skip
    refine exf_go 2 (show ((0 : Int32) = 0 ∨ (0 : Int32) = 1) ∧ Q (.int 0) h from ⟨(by first | exact Or.inl rfl | exact Or.inr rfl | assumption), ?_⟩)
    first | exact k0 (ix_neg (by assumption)) | exact k0 (ix_ge (by assumption))
  · skip
    refine exf_go 4 (show Go d true 158 12 [.ref 10, .int x] [.int (rI h 31 13), .int x] h Q from ?_)
    rw [show (rI h 31 13 : Int32) = nI (sM g) from cs_M cs]
    refine exf_go 1 (show ((nI (sM g)) ≤ x → Go d true 158 19 [.ref 10, .int x] [] h Q) ∧ (¬ ((nI (sM g)) ≤ x) → Go d true 158 15 [.ref 10, .int x] [] h Q) from ⟨fun c2 => ?_, fun c2 => ?_⟩)
    · skip
      refine exf_go 2 (show ((0 : Int32) = 0 ∨ (0 : Int32) = 1) ∧ Q (.int 0) h from ⟨(by first | exact Or.inl rfl | exact Or.inr rfl | assumption), ?_⟩)
      first | exact k0 (ix_neg (by assumption)) | exact k0 (ix_ge (by assumption))
    · skip
      refine exf_go 3 (show ((1 : Int32) = 0 ∨ (1 : Int32) = 1) ∧ Q (.int 1) h from ⟨(by first | exact Or.inl rfl | exact Or.inr rfl | assumption), ?_⟩)
      obtain ⟨j, e1, e2, e3⟩ := ix_in (by have := cs.1.2.2.2.2.2.1; omega) c1 c2
      exact k1 j e1 e2 e3
