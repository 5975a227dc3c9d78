/-! Marks in a ring. -/
def sMk (i a _x : Nat) : Bool := Nat.ble (44 + 3 * i) a && Nat.ble a (46 + 3 * i)
theorem sMk_ne {i j a x : Nat} (h : i ≠ j) (ha : 44 + 3 * j ≤ a) (ha2 : a ≤ 46 + 3 * j) : sMk i a x = false := by
  unfold sMk
  rw [Bool.eq_false_iff]
  intro z
  rw [Bool.and_eq_true] at z
  have h1 := Nat.ble_eq.mp z.1
  have h2 := Nat.ble_eq.mp z.2
  omega
theorem sLm_ne {i j a x : Nat} (h : i ≠ j) (ha : 44 + 3 * j ≤ a) (ha2 : a ≤ 46 + 3 * j) : sLm i a x = false := by
  unfold sLm
  rw [Bool.or_eq_false_iff, Bool.eq_false_iff, Bool.eq_false_iff]
  constructor
  · intro z
    rw [Bool.and_eq_true] at z
    have h2 := Nat.ble_eq.mp z.2
    omega
  · intro z
    rw [Bool.and_eq_true] at z
    have h1 := Nat.ble_eq.mp z.1
    have h2 := Nat.ble_eq.mp z.2
    omega
theorem sL3_ne {a x : Nat} (ha : 42 ≤ a) : sL3 a x = false := by
  unfold sL3
  rw [Bool.eq_false_iff]
  intro z
  rw [Bool.and_eq_true] at z
  have h2 := Nat.ble_eq.mp z.2
  omega
theorem mk_q {g : ShG} {i c : Nat} {l0 l : LkG} {h h1 : Hp} {s : Nat → Nat → Bool} (mk : CMK g i l0 l c h) (q : Fq s h h1) (hs : ∀ a x, 44 + 3 * i ≤ a → a ≤ 46 + 3 * i → s a x = false) : CMK g i l0 l c h1 := mk_fq mk (q.I (fun _ => hs _ _ (by omega) (by omega))) (q.I (fun _ => hs _ _ (by omega) (by omega))) (q.I (fun _ => hs _ _ (by omega) (by omega)))
theorem c_take0 {d : Nat} {h : Hp} {g : ShG} {l : LkG} {Q : Po} (hg : ShW g) (cl : CL 39 g l h) (k : ∀ h1, Fq (sMk 0) h h1 → CMK g 0 l l 0 h1 → Q mk_ h1) : wpC (d + 1) true 39 [.ref 44, .ref 39] h Q := by
  have h4 := hg.1
  refine go_in rfl ?_
  refine exf_go 6 (show Go d true 39 10 [.ref 44, .ref 39] [.int (rI h 39 3), .ref 44] (uI h 44 1 0) Q from ?_)
  rw [show (rI h 39 3 : Int32) = nI (lA l) from cl_A cl]
  refine exf_go 4 (show Go d true 39 18 [.ref 44, .ref 39] [.int (rI h 39 4), .ref 44] (uI (uI h 44 1 0) 44 3 (nI (lA l))) Q from ?_)
  rw [show (rI h 39 4 : Int32) = lX l from cl_X cl]
  refine exf_go 4 (show Go d true 39 26 [.ref 44, .ref 39] [.int (rI h 39 5), .ref 44] (uI (uI (uI h 44 1 0) 44 3 (nI (lA l))) 44 4 (lX l)) Q from ?_)
  rw [show (rI h 39 5 : Int32) = lG l from cl_G cl]
  refine exf_go 4 (show Go d true 39 34 [.ref 44, .ref 39] [.int (rI h 39 7), .ref 44] (uI (uI (uI (uI h 44 1 0) 44 3 (nI (lA l))) 44 4 (lX l)) 44 5 (lG l)) Q from ?_)
  rw [show (rI h 39 7 : Int32) = nI (lO l) from cl_O cl]
  refine exf_go 10 (show ((nI (lO l)) = 0 ∨ (nI (lO l)) = 1) ∧ ¬ (0 : Int32) < 0 ∧ ¬ (0 : Int32) < 0 ∧ ¬ (4 : Int32) < 0 ∧ 0 + 4 ≤ 4 ∧ 0 + 4 ≤ 4 ∧ Q (mk_) (uA (uI (uI (uI (uI (uI h 44 1 0) 44 3 (nI (lA l))) 44 4 (lX l)) 44 5 (lG l)) 44 6 (nI (lO l))) 46 (va_cpy (rI h 41) (rI h 46) 0 0 4)) from ⟨(lO_b cl.1), (by decide), (by decide), (by decide), (by first | decide | omega), (by first | decide | omega), ?_⟩)
  exact k _ ((((((Fq.uI' Fq.rfl' _ _ _ rfl).uI' _ _ _ rfl).uI' _ _ _ rfl).uI' _ _ _ rfl).uI' _ _ _ rfl).uA' _ _ (fun _ => rfl)) ⟨by decide, ⟨rfl, rfl, rfl, rfl, rfl⟩, fun v hv => (cpy4 _ _ (by omega)).trans (cl_Fl cl v hv), cl.1, fun _ => 0, fun j hj => absurd hj (Nat.not_lt_zero _), fun j k hj => absurd hj (Nat.not_lt_zero _), fun n _ _ => rfl⟩
theorem c_mk0 {d : Nat} {h : Hp} {g : ShG} {l : LkG} {Q : Po} (wf : WF h) (hg : ShW g) (cl : CL 39 g l h) (hp : rI h 42 1 = 0) (k : ∀ h1, Fq (sMk 0) h h1 → CMK g 0 l l 0 h1 → Q (.ref 44) h1) : wpC (d + 2) true 13 [.ref 42, .ref 39] h Q := by
  refine go_in rfl ?_
  refine exf_go 4 (show Go (d + 1) true 13 8 [.ref 42, .ref 39] [.int (rI h 42 1), .ref 43] h Q from ?_)
  rw [show (rI h 42 1 : Int32) = 0 from hp]
  refine exf_go 1 (show vp_in (0 : Int32) 9 ∧ (rN h 43 0 = true → Go (d + 1) true 13 9 [.ref 42, .ref 39] [.ref 44] h Q) ∧ (rN h 43 0 = false → Go (d + 1) true 13 9 [.ref 42, .ref 39] [.null] h Q) from ⟨vp_in_nI (n := 0) (by decide) (by decide), fun c1 => ?_, fun c1 => ?_⟩)
  · skip
    refine exf_go 2 (show wpC (d + 1) true 39 [.ref 44, .ref 39] h (fun _ h' => Go (d + 1) true 13 13 [.ref 42, .ref 39] [] h' Q) from ?_)
    refine c_take0 hg cl (fun h1 q1 mk1 => ?_)
    have hp1 : rI h1 42 1 = 0 := by rw [q1.I (a := 42) (fun _ => rfl)]; exact hp
    have hn1 : rN h1 43 0 = true := by rw [show rN h1 = rN h from congrArg (·.2.1) q1.2]; exact wf.2.2 43 0 rfl
    show Go (d + 1) true 13 13 [.ref 42, .ref 39] [] h1 Q
    refine exf_go 4 (show Go (d + 1) true 13 21 [.ref 42, .ref 39] [.int (rI h1 42 1), .ref 43] h1 Q from ?_)
    rw [show (rI h1 42 1 : Int32) = 0 from hp1]
    refine exf_go 1 (show vp_in (0 : Int32) 9 ∧ (rN h1 43 0 = true → Go (d + 1) true 13 22 [.ref 42, .ref 39] [.ref 44] h1 Q) ∧ (rN h1 43 0 = false → Go (d + 1) true 13 22 [.ref 42, .ref 39] [.null] h1 Q) from ⟨vp_in_nI (n := 0) (by decide) (by decide), fun c2 => ?_, fun c2 => ?_⟩)
    · skip
      refine exf_go 1 (show Q (.ref 44) h1 from ?_)
      exact k h1 q1 mk1
    · skip
      exact absurd ((hn1).symm.trans c2) (by decide)
  · skip
    exact absurd (((wf.2.2 43 0 rfl)).symm.trans c1) (by decide)
theorem c_take1 {d : Nat} {h : Hp} {g : ShG} {l : LkG} {Q : Po} (hg : ShW g) (cl : CL 39 g l h) (k : ∀ h1, Fq (sMk 1) h h1 → CMK g 1 l l 0 h1 → Q mk_ h1) : wpC (d + 1) true 39 [.ref 47, .ref 39] h Q := by
  have h4 := hg.1
  refine go_in rfl ?_
  refine exf_go 6 (show Go d true 39 10 [.ref 47, .ref 39] [.int (rI h 39 3), .ref 47] (uI h 47 1 0) Q from ?_)
  rw [show (rI h 39 3 : Int32) = nI (lA l) from cl_A cl]
  refine exf_go 4 (show Go d true 39 18 [.ref 47, .ref 39] [.int (rI h 39 4), .ref 47] (uI (uI h 47 1 0) 47 3 (nI (lA l))) Q from ?_)
  rw [show (rI h 39 4 : Int32) = lX l from cl_X cl]
  refine exf_go 4 (show Go d true 39 26 [.ref 47, .ref 39] [.int (rI h 39 5), .ref 47] (uI (uI (uI h 47 1 0) 47 3 (nI (lA l))) 47 4 (lX l)) Q from ?_)
  rw [show (rI h 39 5 : Int32) = lG l from cl_G cl]
  refine exf_go 4 (show Go d true 39 34 [.ref 47, .ref 39] [.int (rI h 39 7), .ref 47] (uI (uI (uI (uI h 47 1 0) 47 3 (nI (lA l))) 47 4 (lX l)) 47 5 (lG l)) Q from ?_)
  rw [show (rI h 39 7 : Int32) = nI (lO l) from cl_O cl]
  refine exf_go 10 (show ((nI (lO l)) = 0 ∨ (nI (lO l)) = 1) ∧ ¬ (0 : Int32) < 0 ∧ ¬ (0 : Int32) < 0 ∧ ¬ (4 : Int32) < 0 ∧ 0 + 4 ≤ 4 ∧ 0 + 4 ≤ 4 ∧ Q (mk_) (uA (uI (uI (uI (uI (uI h 47 1 0) 47 3 (nI (lA l))) 47 4 (lX l)) 47 5 (lG l)) 47 6 (nI (lO l))) 49 (va_cpy (rI h 41) (rI h 49) 0 0 4)) from ⟨(lO_b cl.1), (by decide), (by decide), (by decide), (by first | decide | omega), (by first | decide | omega), ?_⟩)
  exact k _ ((((((Fq.uI' Fq.rfl' _ _ _ rfl).uI' _ _ _ rfl).uI' _ _ _ rfl).uI' _ _ _ rfl).uI' _ _ _ rfl).uA' _ _ (fun _ => rfl)) ⟨by decide, ⟨rfl, rfl, rfl, rfl, rfl⟩, fun v hv => (cpy4 _ _ (by omega)).trans (cl_Fl cl v hv), cl.1, fun _ => 0, fun j hj => absurd hj (Nat.not_lt_zero _), fun j k hj => absurd hj (Nat.not_lt_zero _), fun n _ _ => rfl⟩
theorem c_mk1 {d : Nat} {h : Hp} {g : ShG} {l : LkG} {Q : Po} (wf : WF h) (hg : ShW g) (cl : CL 39 g l h) (hp : rI h 42 1 = 1) (k : ∀ h1, Fq (sMk 1) h h1 → CMK g 1 l l 0 h1 → Q (.ref 47) h1) : wpC (d + 2) true 13 [.ref 42, .ref 39] h Q := by
  refine go_in rfl ?_
  refine exf_go 4 (show Go (d + 1) true 13 8 [.ref 42, .ref 39] [.int (rI h 42 1), .ref 43] h Q from ?_)
  rw [show (rI h 42 1 : Int32) = 1 from hp]
  refine exf_go 1 (show vp_in (1 : Int32) 9 ∧ (rN h 43 1 = true → Go (d + 1) true 13 9 [.ref 42, .ref 39] [.ref 47] h Q) ∧ (rN h 43 1 = false → Go (d + 1) true 13 9 [.ref 42, .ref 39] [.null] h Q) from ⟨vp_in_nI (n := 1) (by decide) (by decide), fun c1 => ?_, fun c1 => ?_⟩)
  · skip
    refine exf_go 2 (show wpC (d + 1) true 39 [.ref 47, .ref 39] h (fun _ h' => Go (d + 1) true 13 13 [.ref 42, .ref 39] [] h' Q) from ?_)
    refine c_take1 hg cl (fun h1 q1 mk1 => ?_)
    have hp1 : rI h1 42 1 = 1 := by rw [q1.I (a := 42) (fun _ => rfl)]; exact hp
    have hn1 : rN h1 43 1 = true := by rw [show rN h1 = rN h from congrArg (·.2.1) q1.2]; exact wf.2.2 43 1 rfl
    show Go (d + 1) true 13 13 [.ref 42, .ref 39] [] h1 Q
    refine exf_go 4 (show Go (d + 1) true 13 21 [.ref 42, .ref 39] [.int (rI h1 42 1), .ref 43] h1 Q from ?_)
    rw [show (rI h1 42 1 : Int32) = 1 from hp1]
    refine exf_go 1 (show vp_in (1 : Int32) 9 ∧ (rN h1 43 1 = true → Go (d + 1) true 13 22 [.ref 42, .ref 39] [.ref 47] h1 Q) ∧ (rN h1 43 1 = false → Go (d + 1) true 13 22 [.ref 42, .ref 39] [.null] h1 Q) from ⟨vp_in_nI (n := 1) (by decide) (by decide), fun c2 => ?_, fun c2 => ?_⟩)
    · skip
      refine exf_go 1 (show Q (.ref 47) h1 from ?_)
      exact k h1 q1 mk1
    · skip
      exact absurd ((hn1).symm.trans c2) (by decide)
  · skip
    exact absurd (((wf.2.2 43 1 rfl)).symm.trans c1) (by decide)
theorem c_take2 {d : Nat} {h : Hp} {g : ShG} {l : LkG} {Q : Po} (hg : ShW g) (cl : CL 39 g l h) (k : ∀ h1, Fq (sMk 2) h h1 → CMK g 2 l l 0 h1 → Q mk_ h1) : wpC (d + 1) true 39 [.ref 50, .ref 39] h Q := by
  have h4 := hg.1
  refine go_in rfl ?_
  refine exf_go 6 (show Go d true 39 10 [.ref 50, .ref 39] [.int (rI h 39 3), .ref 50] (uI h 50 1 0) Q from ?_)
  rw [show (rI h 39 3 : Int32) = nI (lA l) from cl_A cl]
  refine exf_go 4 (show Go d true 39 18 [.ref 50, .ref 39] [.int (rI h 39 4), .ref 50] (uI (uI h 50 1 0) 50 3 (nI (lA l))) Q from ?_)
  rw [show (rI h 39 4 : Int32) = lX l from cl_X cl]
  refine exf_go 4 (show Go d true 39 26 [.ref 50, .ref 39] [.int (rI h 39 5), .ref 50] (uI (uI (uI h 50 1 0) 50 3 (nI (lA l))) 50 4 (lX l)) Q from ?_)
  rw [show (rI h 39 5 : Int32) = lG l from cl_G cl]
  refine exf_go 4 (show Go d true 39 34 [.ref 50, .ref 39] [.int (rI h 39 7), .ref 50] (uI (uI (uI (uI h 50 1 0) 50 3 (nI (lA l))) 50 4 (lX l)) 50 5 (lG l)) Q from ?_)
  rw [show (rI h 39 7 : Int32) = nI (lO l) from cl_O cl]
  refine exf_go 10 (show ((nI (lO l)) = 0 ∨ (nI (lO l)) = 1) ∧ ¬ (0 : Int32) < 0 ∧ ¬ (0 : Int32) < 0 ∧ ¬ (4 : Int32) < 0 ∧ 0 + 4 ≤ 4 ∧ 0 + 4 ≤ 4 ∧ Q (mk_) (uA (uI (uI (uI (uI (uI h 50 1 0) 50 3 (nI (lA l))) 50 4 (lX l)) 50 5 (lG l)) 50 6 (nI (lO l))) 52 (va_cpy (rI h 41) (rI h 52) 0 0 4)) from ⟨(lO_b cl.1), (by decide), (by decide), (by decide), (by first | decide | omega), (by first | decide | omega), ?_⟩)
  exact k _ ((((((Fq.uI' Fq.rfl' _ _ _ rfl).uI' _ _ _ rfl).uI' _ _ _ rfl).uI' _ _ _ rfl).uI' _ _ _ rfl).uA' _ _ (fun _ => rfl)) ⟨by decide, ⟨rfl, rfl, rfl, rfl, rfl⟩, fun v hv => (cpy4 _ _ (by omega)).trans (cl_Fl cl v hv), cl.1, fun _ => 0, fun j hj => absurd hj (Nat.not_lt_zero _), fun j k hj => absurd hj (Nat.not_lt_zero _), fun n _ _ => rfl⟩
theorem c_mk2 {d : Nat} {h : Hp} {g : ShG} {l : LkG} {Q : Po} (wf : WF h) (hg : ShW g) (cl : CL 39 g l h) (hp : rI h 42 1 = 2) (k : ∀ h1, Fq (sMk 2) h h1 → CMK g 2 l l 0 h1 → Q (.ref 50) h1) : wpC (d + 2) true 13 [.ref 42, .ref 39] h Q := by
  refine go_in rfl ?_
  refine exf_go 4 (show Go (d + 1) true 13 8 [.ref 42, .ref 39] [.int (rI h 42 1), .ref 43] h Q from ?_)
  rw [show (rI h 42 1 : Int32) = 2 from hp]
  refine exf_go 1 (show vp_in (2 : Int32) 9 ∧ (rN h 43 2 = true → Go (d + 1) true 13 9 [.ref 42, .ref 39] [.ref 50] h Q) ∧ (rN h 43 2 = false → Go (d + 1) true 13 9 [.ref 42, .ref 39] [.null] h Q) from ⟨vp_in_nI (n := 2) (by decide) (by decide), fun c1 => ?_, fun c1 => ?_⟩)
  · skip
    refine exf_go 2 (show wpC (d + 1) true 39 [.ref 50, .ref 39] h (fun _ h' => Go (d + 1) true 13 13 [.ref 42, .ref 39] [] h' Q) from ?_)
    refine c_take2 hg cl (fun h1 q1 mk1 => ?_)
    have hp1 : rI h1 42 1 = 2 := by rw [q1.I (a := 42) (fun _ => rfl)]; exact hp
    have hn1 : rN h1 43 2 = true := by rw [show rN h1 = rN h from congrArg (·.2.1) q1.2]; exact wf.2.2 43 2 rfl
    show Go (d + 1) true 13 13 [.ref 42, .ref 39] [] h1 Q
    refine exf_go 4 (show Go (d + 1) true 13 21 [.ref 42, .ref 39] [.int (rI h1 42 1), .ref 43] h1 Q from ?_)
    rw [show (rI h1 42 1 : Int32) = 2 from hp1]
    refine exf_go 1 (show vp_in (2 : Int32) 9 ∧ (rN h1 43 2 = true → Go (d + 1) true 13 22 [.ref 42, .ref 39] [.ref 50] h1 Q) ∧ (rN h1 43 2 = false → Go (d + 1) true 13 22 [.ref 42, .ref 39] [.null] h1 Q) from ⟨vp_in_nI (n := 2) (by decide) (by decide), fun c2 => ?_, fun c2 => ?_⟩)
    · skip
      refine exf_go 1 (show Q (.ref 50) h1 from ?_)
      exact k h1 q1 mk1
    · skip
      exact absurd ((hn1).symm.trans c2) (by decide)
  · skip
    exact absurd (((wf.2.2 43 2 rfl)).symm.trans c1) (by decide)
theorem c_take3 {d : Nat} {h : Hp} {g : ShG} {l : LkG} {Q : Po} (hg : ShW g) (cl : CL 39 g l h) (k : ∀ h1, Fq (sMk 3) h h1 → CMK g 3 l l 0 h1 → Q mk_ h1) : wpC (d + 1) true 39 [.ref 53, .ref 39] h Q := by
  have h4 := hg.1
  refine go_in rfl ?_
  refine exf_go 6 (show Go d true 39 10 [.ref 53, .ref 39] [.int (rI h 39 3), .ref 53] (uI h 53 1 0) Q from ?_)
  rw [show (rI h 39 3 : Int32) = nI (lA l) from cl_A cl]
  refine exf_go 4 (show Go d true 39 18 [.ref 53, .ref 39] [.int (rI h 39 4), .ref 53] (uI (uI h 53 1 0) 53 3 (nI (lA l))) Q from ?_)
  rw [show (rI h 39 4 : Int32) = lX l from cl_X cl]
  refine exf_go 4 (show Go d true 39 26 [.ref 53, .ref 39] [.int (rI h 39 5), .ref 53] (uI (uI (uI h 53 1 0) 53 3 (nI (lA l))) 53 4 (lX l)) Q from ?_)
  rw [show (rI h 39 5 : Int32) = lG l from cl_G cl]
  refine exf_go 4 (show Go d true 39 34 [.ref 53, .ref 39] [.int (rI h 39 7), .ref 53] (uI (uI (uI (uI h 53 1 0) 53 3 (nI (lA l))) 53 4 (lX l)) 53 5 (lG l)) Q from ?_)
  rw [show (rI h 39 7 : Int32) = nI (lO l) from cl_O cl]
  refine exf_go 10 (show ((nI (lO l)) = 0 ∨ (nI (lO l)) = 1) ∧ ¬ (0 : Int32) < 0 ∧ ¬ (0 : Int32) < 0 ∧ ¬ (4 : Int32) < 0 ∧ 0 + 4 ≤ 4 ∧ 0 + 4 ≤ 4 ∧ Q (mk_) (uA (uI (uI (uI (uI (uI h 53 1 0) 53 3 (nI (lA l))) 53 4 (lX l)) 53 5 (lG l)) 53 6 (nI (lO l))) 55 (va_cpy (rI h 41) (rI h 55) 0 0 4)) from ⟨(lO_b cl.1), (by decide), (by decide), (by decide), (by first | decide | omega), (by first | decide | omega), ?_⟩)
  exact k _ ((((((Fq.uI' Fq.rfl' _ _ _ rfl).uI' _ _ _ rfl).uI' _ _ _ rfl).uI' _ _ _ rfl).uI' _ _ _ rfl).uA' _ _ (fun _ => rfl)) ⟨by decide, ⟨rfl, rfl, rfl, rfl, rfl⟩, fun v hv => (cpy4 _ _ (by omega)).trans (cl_Fl cl v hv), cl.1, fun _ => 0, fun j hj => absurd hj (Nat.not_lt_zero _), fun j k hj => absurd hj (Nat.not_lt_zero _), fun n _ _ => rfl⟩
theorem c_mk3 {d : Nat} {h : Hp} {g : ShG} {l : LkG} {Q : Po} (wf : WF h) (hg : ShW g) (cl : CL 39 g l h) (hp : rI h 42 1 = 3) (k : ∀ h1, Fq (sMk 3) h h1 → CMK g 3 l l 0 h1 → Q (.ref 53) h1) : wpC (d + 2) true 13 [.ref 42, .ref 39] h Q := by
  refine go_in rfl ?_
  refine exf_go 4 (show Go (d + 1) true 13 8 [.ref 42, .ref 39] [.int (rI h 42 1), .ref 43] h Q from ?_)
  rw [show (rI h 42 1 : Int32) = 3 from hp]
  refine exf_go 1 (show vp_in (3 : Int32) 9 ∧ (rN h 43 3 = true → Go (d + 1) true 13 9 [.ref 42, .ref 39] [.ref 53] h Q) ∧ (rN h 43 3 = false → Go (d + 1) true 13 9 [.ref 42, .ref 39] [.null] h Q) from ⟨vp_in_nI (n := 3) (by decide) (by decide), fun c1 => ?_, fun c1 => ?_⟩)
  · skip
    refine exf_go 2 (show wpC (d + 1) true 39 [.ref 53, .ref 39] h (fun _ h' => Go (d + 1) true 13 13 [.ref 42, .ref 39] [] h' Q) from ?_)
    refine c_take3 hg cl (fun h1 q1 mk1 => ?_)
    have hp1 : rI h1 42 1 = 3 := by rw [q1.I (a := 42) (fun _ => rfl)]; exact hp
    have hn1 : rN h1 43 3 = true := by rw [show rN h1 = rN h from congrArg (·.2.1) q1.2]; exact wf.2.2 43 3 rfl
    show Go (d + 1) true 13 13 [.ref 42, .ref 39] [] h1 Q
    refine exf_go 4 (show Go (d + 1) true 13 21 [.ref 42, .ref 39] [.int (rI h1 42 1), .ref 43] h1 Q from ?_)
    rw [show (rI h1 42 1 : Int32) = 3 from hp1]
    refine exf_go 1 (show vp_in (3 : Int32) 9 ∧ (rN h1 43 3 = true → Go (d + 1) true 13 22 [.ref 42, .ref 39] [.ref 53] h1 Q) ∧ (rN h1 43 3 = false → Go (d + 1) true 13 22 [.ref 42, .ref 39] [.null] h1 Q) from ⟨vp_in_nI (n := 3) (by decide) (by decide), fun c2 => ?_, fun c2 => ?_⟩)
    · skip
      refine exf_go 1 (show Q (.ref 53) h1 from ?_)
      exact k h1 q1 mk1
    · skip
      exact absurd ((hn1).symm.trans c2) (by decide)
  · skip
    exact absurd (((wf.2.2 43 3 rfl)).symm.trans c1) (by decide)
theorem c_take4 {d : Nat} {h : Hp} {g : ShG} {l : LkG} {Q : Po} (hg : ShW g) (cl : CL 39 g l h) (k : ∀ h1, Fq (sMk 4) h h1 → CMK g 4 l l 0 h1 → Q mk_ h1) : wpC (d + 1) true 39 [.ref 56, .ref 39] h Q := by
  have h4 := hg.1
  refine go_in rfl ?_
  refine exf_go 6 (show Go d true 39 10 [.ref 56, .ref 39] [.int (rI h 39 3), .ref 56] (uI h 56 1 0) Q from ?_)
  rw [show (rI h 39 3 : Int32) = nI (lA l) from cl_A cl]
  refine exf_go 4 (show Go d true 39 18 [.ref 56, .ref 39] [.int (rI h 39 4), .ref 56] (uI (uI h 56 1 0) 56 3 (nI (lA l))) Q from ?_)
  rw [show (rI h 39 4 : Int32) = lX l from cl_X cl]
  refine exf_go 4 (show Go d true 39 26 [.ref 56, .ref 39] [.int (rI h 39 5), .ref 56] (uI (uI (uI h 56 1 0) 56 3 (nI (lA l))) 56 4 (lX l)) Q from ?_)
  rw [show (rI h 39 5 : Int32) = lG l from cl_G cl]
  refine exf_go 4 (show Go d true 39 34 [.ref 56, .ref 39] [.int (rI h 39 7), .ref 56] (uI (uI (uI (uI h 56 1 0) 56 3 (nI (lA l))) 56 4 (lX l)) 56 5 (lG l)) Q from ?_)
  rw [show (rI h 39 7 : Int32) = nI (lO l) from cl_O cl]
  refine exf_go 10 (show ((nI (lO l)) = 0 ∨ (nI (lO l)) = 1) ∧ ¬ (0 : Int32) < 0 ∧ ¬ (0 : Int32) < 0 ∧ ¬ (4 : Int32) < 0 ∧ 0 + 4 ≤ 4 ∧ 0 + 4 ≤ 4 ∧ Q (mk_) (uA (uI (uI (uI (uI (uI h 56 1 0) 56 3 (nI (lA l))) 56 4 (lX l)) 56 5 (lG l)) 56 6 (nI (lO l))) 58 (va_cpy (rI h 41) (rI h 58) 0 0 4)) from ⟨(lO_b cl.1), (by decide), (by decide), (by decide), (by first | decide | omega), (by first | decide | omega), ?_⟩)
  exact k _ ((((((Fq.uI' Fq.rfl' _ _ _ rfl).uI' _ _ _ rfl).uI' _ _ _ rfl).uI' _ _ _ rfl).uI' _ _ _ rfl).uA' _ _ (fun _ => rfl)) ⟨by decide, ⟨rfl, rfl, rfl, rfl, rfl⟩, fun v hv => (cpy4 _ _ (by omega)).trans (cl_Fl cl v hv), cl.1, fun _ => 0, fun j hj => absurd hj (Nat.not_lt_zero _), fun j k hj => absurd hj (Nat.not_lt_zero _), fun n _ _ => rfl⟩
theorem c_mk4 {d : Nat} {h : Hp} {g : ShG} {l : LkG} {Q : Po} (wf : WF h) (hg : ShW g) (cl : CL 39 g l h) (hp : rI h 42 1 = 4) (k : ∀ h1, Fq (sMk 4) h h1 → CMK g 4 l l 0 h1 → Q (.ref 56) h1) : wpC (d + 2) true 13 [.ref 42, .ref 39] h Q := by
  refine go_in rfl ?_
  refine exf_go 4 (show Go (d + 1) true 13 8 [.ref 42, .ref 39] [.int (rI h 42 1), .ref 43] h Q from ?_)
  rw [show (rI h 42 1 : Int32) = 4 from hp]
  refine exf_go 1 (show vp_in (4 : Int32) 9 ∧ (rN h 43 4 = true → Go (d + 1) true 13 9 [.ref 42, .ref 39] [.ref 56] h Q) ∧ (rN h 43 4 = false → Go (d + 1) true 13 9 [.ref 42, .ref 39] [.null] h Q) from ⟨vp_in_nI (n := 4) (by decide) (by decide), fun c1 => ?_, fun c1 => ?_⟩)
  · skip
    refine exf_go 2 (show wpC (d + 1) true 39 [.ref 56, .ref 39] h (fun _ h' => Go (d + 1) true 13 13 [.ref 42, .ref 39] [] h' Q) from ?_)
    refine c_take4 hg cl (fun h1 q1 mk1 => ?_)
    have hp1 : rI h1 42 1 = 4 := by rw [q1.I (a := 42) (fun _ => rfl)]; exact hp
    have hn1 : rN h1 43 4 = true := by rw [show rN h1 = rN h from congrArg (·.2.1) q1.2]; exact wf.2.2 43 4 rfl
    show Go (d + 1) true 13 13 [.ref 42, .ref 39] [] h1 Q
    refine exf_go 4 (show Go (d + 1) true 13 21 [.ref 42, .ref 39] [.int (rI h1 42 1), .ref 43] h1 Q from ?_)
    rw [show (rI h1 42 1 : Int32) = 4 from hp1]
    refine exf_go 1 (show vp_in (4 : Int32) 9 ∧ (rN h1 43 4 = true → Go (d + 1) true 13 22 [.ref 42, .ref 39] [.ref 56] h1 Q) ∧ (rN h1 43 4 = false → Go (d + 1) true 13 22 [.ref 42, .ref 39] [.null] h1 Q) from ⟨vp_in_nI (n := 4) (by decide) (by decide), fun c2 => ?_, fun c2 => ?_⟩)
    · skip
      refine exf_go 1 (show Q (.ref 56) h1 from ?_)
      exact k h1 q1 mk1
    · skip
      exact absurd ((hn1).symm.trans c2) (by decide)
  · skip
    exact absurd (((wf.2.2 43 4 rfl)).symm.trans c1) (by decide)
theorem c_take5 {d : Nat} {h : Hp} {g : ShG} {l : LkG} {Q : Po} (hg : ShW g) (cl : CL 39 g l h) (k : ∀ h1, Fq (sMk 5) h h1 → CMK g 5 l l 0 h1 → Q mk_ h1) : wpC (d + 1) true 39 [.ref 59, .ref 39] h Q := by
  have h4 := hg.1
  refine go_in rfl ?_
  refine exf_go 6 (show Go d true 39 10 [.ref 59, .ref 39] [.int (rI h 39 3), .ref 59] (uI h 59 1 0) Q from ?_)
  rw [show (rI h 39 3 : Int32) = nI (lA l) from cl_A cl]
  refine exf_go 4 (show Go d true 39 18 [.ref 59, .ref 39] [.int (rI h 39 4), .ref 59] (uI (uI h 59 1 0) 59 3 (nI (lA l))) Q from ?_)
  rw [show (rI h 39 4 : Int32) = lX l from cl_X cl]
  refine exf_go 4 (show Go d true 39 26 [.ref 59, .ref 39] [.int (rI h 39 5), .ref 59] (uI (uI (uI h 59 1 0) 59 3 (nI (lA l))) 59 4 (lX l)) Q from ?_)
  rw [show (rI h 39 5 : Int32) = lG l from cl_G cl]
  refine exf_go 4 (show Go d true 39 34 [.ref 59, .ref 39] [.int (rI h 39 7), .ref 59] (uI (uI (uI (uI h 59 1 0) 59 3 (nI (lA l))) 59 4 (lX l)) 59 5 (lG l)) Q from ?_)
  rw [show (rI h 39 7 : Int32) = nI (lO l) from cl_O cl]
  refine exf_go 10 (show ((nI (lO l)) = 0 ∨ (nI (lO l)) = 1) ∧ ¬ (0 : Int32) < 0 ∧ ¬ (0 : Int32) < 0 ∧ ¬ (4 : Int32) < 0 ∧ 0 + 4 ≤ 4 ∧ 0 + 4 ≤ 4 ∧ Q (mk_) (uA (uI (uI (uI (uI (uI h 59 1 0) 59 3 (nI (lA l))) 59 4 (lX l)) 59 5 (lG l)) 59 6 (nI (lO l))) 61 (va_cpy (rI h 41) (rI h 61) 0 0 4)) from ⟨(lO_b cl.1), (by decide), (by decide), (by decide), (by first | decide | omega), (by first | decide | omega), ?_⟩)
  exact k _ ((((((Fq.uI' Fq.rfl' _ _ _ rfl).uI' _ _ _ rfl).uI' _ _ _ rfl).uI' _ _ _ rfl).uI' _ _ _ rfl).uA' _ _ (fun _ => rfl)) ⟨by decide, ⟨rfl, rfl, rfl, rfl, rfl⟩, fun v hv => (cpy4 _ _ (by omega)).trans (cl_Fl cl v hv), cl.1, fun _ => 0, fun j hj => absurd hj (Nat.not_lt_zero _), fun j k hj => absurd hj (Nat.not_lt_zero _), fun n _ _ => rfl⟩
theorem c_mk5 {d : Nat} {h : Hp} {g : ShG} {l : LkG} {Q : Po} (wf : WF h) (hg : ShW g) (cl : CL 39 g l h) (hp : rI h 42 1 = 5) (k : ∀ h1, Fq (sMk 5) h h1 → CMK g 5 l l 0 h1 → Q (.ref 59) h1) : wpC (d + 2) true 13 [.ref 42, .ref 39] h Q := by
  refine go_in rfl ?_
  refine exf_go 4 (show Go (d + 1) true 13 8 [.ref 42, .ref 39] [.int (rI h 42 1), .ref 43] h Q from ?_)
  rw [show (rI h 42 1 : Int32) = 5 from hp]
  refine exf_go 1 (show vp_in (5 : Int32) 9 ∧ (rN h 43 5 = true → Go (d + 1) true 13 9 [.ref 42, .ref 39] [.ref 59] h Q) ∧ (rN h 43 5 = false → Go (d + 1) true 13 9 [.ref 42, .ref 39] [.null] h Q) from ⟨vp_in_nI (n := 5) (by decide) (by decide), fun c1 => ?_, fun c1 => ?_⟩)
  · skip
    refine exf_go 2 (show wpC (d + 1) true 39 [.ref 59, .ref 39] h (fun _ h' => Go (d + 1) true 13 13 [.ref 42, .ref 39] [] h' Q) from ?_)
    refine c_take5 hg cl (fun h1 q1 mk1 => ?_)
    have hp1 : rI h1 42 1 = 5 := by rw [q1.I (a := 42) (fun _ => rfl)]; exact hp
    have hn1 : rN h1 43 5 = true := by rw [show rN h1 = rN h from congrArg (·.2.1) q1.2]; exact wf.2.2 43 5 rfl
    show Go (d + 1) true 13 13 [.ref 42, .ref 39] [] h1 Q
    refine exf_go 4 (show Go (d + 1) true 13 21 [.ref 42, .ref 39] [.int (rI h1 42 1), .ref 43] h1 Q from ?_)
    rw [show (rI h1 42 1 : Int32) = 5 from hp1]
    refine exf_go 1 (show vp_in (5 : Int32) 9 ∧ (rN h1 43 5 = true → Go (d + 1) true 13 22 [.ref 42, .ref 39] [.ref 59] h1 Q) ∧ (rN h1 43 5 = false → Go (d + 1) true 13 22 [.ref 42, .ref 39] [.null] h1 Q) from ⟨vp_in_nI (n := 5) (by decide) (by decide), fun c2 => ?_, fun c2 => ?_⟩)
    · skip
      refine exf_go 1 (show Q (.ref 59) h1 from ?_)
      exact k h1 q1 mk1
    · skip
      exact absurd ((hn1).symm.trans c2) (by decide)
  · skip
    exact absurd (((wf.2.2 43 5 rfl)).symm.trans c1) (by decide)
theorem c_take6 {d : Nat} {h : Hp} {g : ShG} {l : LkG} {Q : Po} (hg : ShW g) (cl : CL 39 g l h) (k : ∀ h1, Fq (sMk 6) h h1 → CMK g 6 l l 0 h1 → Q mk_ h1) : wpC (d + 1) true 39 [.ref 62, .ref 39] h Q := by
  have h4 := hg.1
  refine go_in rfl ?_
  refine exf_go 6 (show Go d true 39 10 [.ref 62, .ref 39] [.int (rI h 39 3), .ref 62] (uI h 62 1 0) Q from ?_)
  rw [show (rI h 39 3 : Int32) = nI (lA l) from cl_A cl]
  refine exf_go 4 (show Go d true 39 18 [.ref 62, .ref 39] [.int (rI h 39 4), .ref 62] (uI (uI h 62 1 0) 62 3 (nI (lA l))) Q from ?_)
  rw [show (rI h 39 4 : Int32) = lX l from cl_X cl]
  refine exf_go 4 (show Go d true 39 26 [.ref 62, .ref 39] [.int (rI h 39 5), .ref 62] (uI (uI (uI h 62 1 0) 62 3 (nI (lA l))) 62 4 (lX l)) Q from ?_)
  rw [show (rI h 39 5 : Int32) = lG l from cl_G cl]
  refine exf_go 4 (show Go d true 39 34 [.ref 62, .ref 39] [.int (rI h 39 7), .ref 62] (uI (uI (uI (uI h 62 1 0) 62 3 (nI (lA l))) 62 4 (lX l)) 62 5 (lG l)) Q from ?_)
  rw [show (rI h 39 7 : Int32) = nI (lO l) from cl_O cl]
  refine exf_go 10 (show ((nI (lO l)) = 0 ∨ (nI (lO l)) = 1) ∧ ¬ (0 : Int32) < 0 ∧ ¬ (0 : Int32) < 0 ∧ ¬ (4 : Int32) < 0 ∧ 0 + 4 ≤ 4 ∧ 0 + 4 ≤ 4 ∧ Q (mk_) (uA (uI (uI (uI (uI (uI h 62 1 0) 62 3 (nI (lA l))) 62 4 (lX l)) 62 5 (lG l)) 62 6 (nI (lO l))) 64 (va_cpy (rI h 41) (rI h 64) 0 0 4)) from ⟨(lO_b cl.1), (by decide), (by decide), (by decide), (by first | decide | omega), (by first | decide | omega), ?_⟩)
  exact k _ ((((((Fq.uI' Fq.rfl' _ _ _ rfl).uI' _ _ _ rfl).uI' _ _ _ rfl).uI' _ _ _ rfl).uI' _ _ _ rfl).uA' _ _ (fun _ => rfl)) ⟨by decide, ⟨rfl, rfl, rfl, rfl, rfl⟩, fun v hv => (cpy4 _ _ (by omega)).trans (cl_Fl cl v hv), cl.1, fun _ => 0, fun j hj => absurd hj (Nat.not_lt_zero _), fun j k hj => absurd hj (Nat.not_lt_zero _), fun n _ _ => rfl⟩
theorem c_mk6 {d : Nat} {h : Hp} {g : ShG} {l : LkG} {Q : Po} (wf : WF h) (hg : ShW g) (cl : CL 39 g l h) (hp : rI h 42 1 = 6) (k : ∀ h1, Fq (sMk 6) h h1 → CMK g 6 l l 0 h1 → Q (.ref 62) h1) : wpC (d + 2) true 13 [.ref 42, .ref 39] h Q := by
  refine go_in rfl ?_
  refine exf_go 4 (show Go (d + 1) true 13 8 [.ref 42, .ref 39] [.int (rI h 42 1), .ref 43] h Q from ?_)
  rw [show (rI h 42 1 : Int32) = 6 from hp]
  refine exf_go 1 (show vp_in (6 : Int32) 9 ∧ (rN h 43 6 = true → Go (d + 1) true 13 9 [.ref 42, .ref 39] [.ref 62] h Q) ∧ (rN h 43 6 = false → Go (d + 1) true 13 9 [.ref 42, .ref 39] [.null] h Q) from ⟨vp_in_nI (n := 6) (by decide) (by decide), fun c1 => ?_, fun c1 => ?_⟩)
  · skip
    refine exf_go 2 (show wpC (d + 1) true 39 [.ref 62, .ref 39] h (fun _ h' => Go (d + 1) true 13 13 [.ref 42, .ref 39] [] h' Q) from ?_)
    refine c_take6 hg cl (fun h1 q1 mk1 => ?_)
    have hp1 : rI h1 42 1 = 6 := by rw [q1.I (a := 42) (fun _ => rfl)]; exact hp
    have hn1 : rN h1 43 6 = true := by rw [show rN h1 = rN h from congrArg (·.2.1) q1.2]; exact wf.2.2 43 6 rfl
    show Go (d + 1) true 13 13 [.ref 42, .ref 39] [] h1 Q
    refine exf_go 4 (show Go (d + 1) true 13 21 [.ref 42, .ref 39] [.int (rI h1 42 1), .ref 43] h1 Q from ?_)
    rw [show (rI h1 42 1 : Int32) = 6 from hp1]
    refine exf_go 1 (show vp_in (6 : Int32) 9 ∧ (rN h1 43 6 = true → Go (d + 1) true 13 22 [.ref 42, .ref 39] [.ref 62] h1 Q) ∧ (rN h1 43 6 = false → Go (d + 1) true 13 22 [.ref 42, .ref 39] [.null] h1 Q) from ⟨vp_in_nI (n := 6) (by decide) (by decide), fun c2 => ?_, fun c2 => ?_⟩)
    · skip
      refine exf_go 1 (show Q (.ref 62) h1 from ?_)
      exact k h1 q1 mk1
    · skip
      exact absurd ((hn1).symm.trans c2) (by decide)
  · skip
    exact absurd (((wf.2.2 43 6 rfl)).symm.trans c1) (by decide)
theorem c_take7 {d : Nat} {h : Hp} {g : ShG} {l : LkG} {Q : Po} (hg : ShW g) (cl : CL 39 g l h) (k : ∀ h1, Fq (sMk 7) h h1 → CMK g 7 l l 0 h1 → Q mk_ h1) : wpC (d + 1) true 39 [.ref 65, .ref 39] h Q := by
  have h4 := hg.1
  refine go_in rfl ?_
  refine exf_go 6 (show Go d true 39 10 [.ref 65, .ref 39] [.int (rI h 39 3), .ref 65] (uI h 65 1 0) Q from ?_)
  rw [show (rI h 39 3 : Int32) = nI (lA l) from cl_A cl]
  refine exf_go 4 (show Go d true 39 18 [.ref 65, .ref 39] [.int (rI h 39 4), .ref 65] (uI (uI h 65 1 0) 65 3 (nI (lA l))) Q from ?_)
  rw [show (rI h 39 4 : Int32) = lX l from cl_X cl]
  refine exf_go 4 (show Go d true 39 26 [.ref 65, .ref 39] [.int (rI h 39 5), .ref 65] (uI (uI (uI h 65 1 0) 65 3 (nI (lA l))) 65 4 (lX l)) Q from ?_)
  rw [show (rI h 39 5 : Int32) = lG l from cl_G cl]
  refine exf_go 4 (show Go d true 39 34 [.ref 65, .ref 39] [.int (rI h 39 7), .ref 65] (uI (uI (uI (uI h 65 1 0) 65 3 (nI (lA l))) 65 4 (lX l)) 65 5 (lG l)) Q from ?_)
  rw [show (rI h 39 7 : Int32) = nI (lO l) from cl_O cl]
  refine exf_go 10 (show ((nI (lO l)) = 0 ∨ (nI (lO l)) = 1) ∧ ¬ (0 : Int32) < 0 ∧ ¬ (0 : Int32) < 0 ∧ ¬ (4 : Int32) < 0 ∧ 0 + 4 ≤ 4 ∧ 0 + 4 ≤ 4 ∧ Q (mk_) (uA (uI (uI (uI (uI (uI h 65 1 0) 65 3 (nI (lA l))) 65 4 (lX l)) 65 5 (lG l)) 65 6 (nI (lO l))) 67 (va_cpy (rI h 41) (rI h 67) 0 0 4)) from ⟨(lO_b cl.1), (by decide), (by decide), (by decide), (by first | decide | omega), (by first | decide | omega), ?_⟩)
  exact k _ ((((((Fq.uI' Fq.rfl' _ _ _ rfl).uI' _ _ _ rfl).uI' _ _ _ rfl).uI' _ _ _ rfl).uI' _ _ _ rfl).uA' _ _ (fun _ => rfl)) ⟨by decide, ⟨rfl, rfl, rfl, rfl, rfl⟩, fun v hv => (cpy4 _ _ (by omega)).trans (cl_Fl cl v hv), cl.1, fun _ => 0, fun j hj => absurd hj (Nat.not_lt_zero _), fun j k hj => absurd hj (Nat.not_lt_zero _), fun n _ _ => rfl⟩
theorem c_mk7 {d : Nat} {h : Hp} {g : ShG} {l : LkG} {Q : Po} (wf : WF h) (hg : ShW g) (cl : CL 39 g l h) (hp : rI h 42 1 = 7) (k : ∀ h1, Fq (sMk 7) h h1 → CMK g 7 l l 0 h1 → Q (.ref 65) h1) : wpC (d + 2) true 13 [.ref 42, .ref 39] h Q := by
  refine go_in rfl ?_
  refine exf_go 4 (show Go (d + 1) true 13 8 [.ref 42, .ref 39] [.int (rI h 42 1), .ref 43] h Q from ?_)
  rw [show (rI h 42 1 : Int32) = 7 from hp]
  refine exf_go 1 (show vp_in (7 : Int32) 9 ∧ (rN h 43 7 = true → Go (d + 1) true 13 9 [.ref 42, .ref 39] [.ref 65] h Q) ∧ (rN h 43 7 = false → Go (d + 1) true 13 9 [.ref 42, .ref 39] [.null] h Q) from ⟨vp_in_nI (n := 7) (by decide) (by decide), fun c1 => ?_, fun c1 => ?_⟩)
  · skip
    refine exf_go 2 (show wpC (d + 1) true 39 [.ref 65, .ref 39] h (fun _ h' => Go (d + 1) true 13 13 [.ref 42, .ref 39] [] h' Q) from ?_)
    refine c_take7 hg cl (fun h1 q1 mk1 => ?_)
    have hp1 : rI h1 42 1 = 7 := by rw [q1.I (a := 42) (fun _ => rfl)]; exact hp
    have hn1 : rN h1 43 7 = true := by rw [show rN h1 = rN h from congrArg (·.2.1) q1.2]; exact wf.2.2 43 7 rfl
    show Go (d + 1) true 13 13 [.ref 42, .ref 39] [] h1 Q
    refine exf_go 4 (show Go (d + 1) true 13 21 [.ref 42, .ref 39] [.int (rI h1 42 1), .ref 43] h1 Q from ?_)
    rw [show (rI h1 42 1 : Int32) = 7 from hp1]
    refine exf_go 1 (show vp_in (7 : Int32) 9 ∧ (rN h1 43 7 = true → Go (d + 1) true 13 22 [.ref 42, .ref 39] [.ref 65] h1 Q) ∧ (rN h1 43 7 = false → Go (d + 1) true 13 22 [.ref 42, .ref 39] [.null] h1 Q) from ⟨vp_in_nI (n := 7) (by decide) (by decide), fun c2 => ?_, fun c2 => ?_⟩)
    · skip
      refine exf_go 1 (show Q (.ref 65) h1 from ?_)
      exact k h1 q1 mk1
    · skip
      exact absurd ((hn1).symm.trans c2) (by decide)
  · skip
    exact absurd (((wf.2.2 43 7 rfl)).symm.trans c1) (by decide)
theorem c_take8 {d : Nat} {h : Hp} {g : ShG} {l : LkG} {Q : Po} (hg : ShW g) (cl : CL 39 g l h) (k : ∀ h1, Fq (sMk 8) h h1 → CMK g 8 l l 0 h1 → Q mk_ h1) : wpC (d + 1) true 39 [.ref 68, .ref 39] h Q := by
  have h4 := hg.1
  refine go_in rfl ?_
  refine exf_go 6 (show Go d true 39 10 [.ref 68, .ref 39] [.int (rI h 39 3), .ref 68] (uI h 68 1 0) Q from ?_)
  rw [show (rI h 39 3 : Int32) = nI (lA l) from cl_A cl]
  refine exf_go 4 (show Go d true 39 18 [.ref 68, .ref 39] [.int (rI h 39 4), .ref 68] (uI (uI h 68 1 0) 68 3 (nI (lA l))) Q from ?_)
  rw [show (rI h 39 4 : Int32) = lX l from cl_X cl]
  refine exf_go 4 (show Go d true 39 26 [.ref 68, .ref 39] [.int (rI h 39 5), .ref 68] (uI (uI (uI h 68 1 0) 68 3 (nI (lA l))) 68 4 (lX l)) Q from ?_)
  rw [show (rI h 39 5 : Int32) = lG l from cl_G cl]
  refine exf_go 4 (show Go d true 39 34 [.ref 68, .ref 39] [.int (rI h 39 7), .ref 68] (uI (uI (uI (uI h 68 1 0) 68 3 (nI (lA l))) 68 4 (lX l)) 68 5 (lG l)) Q from ?_)
  rw [show (rI h 39 7 : Int32) = nI (lO l) from cl_O cl]
  refine exf_go 10 (show ((nI (lO l)) = 0 ∨ (nI (lO l)) = 1) ∧ ¬ (0 : Int32) < 0 ∧ ¬ (0 : Int32) < 0 ∧ ¬ (4 : Int32) < 0 ∧ 0 + 4 ≤ 4 ∧ 0 + 4 ≤ 4 ∧ Q (mk_) (uA (uI (uI (uI (uI (uI h 68 1 0) 68 3 (nI (lA l))) 68 4 (lX l)) 68 5 (lG l)) 68 6 (nI (lO l))) 70 (va_cpy (rI h 41) (rI h 70) 0 0 4)) from ⟨(lO_b cl.1), (by decide), (by decide), (by decide), (by first | decide | omega), (by first | decide | omega), ?_⟩)
  exact k _ ((((((Fq.uI' Fq.rfl' _ _ _ rfl).uI' _ _ _ rfl).uI' _ _ _ rfl).uI' _ _ _ rfl).uI' _ _ _ rfl).uA' _ _ (fun _ => rfl)) ⟨by decide, ⟨rfl, rfl, rfl, rfl, rfl⟩, fun v hv => (cpy4 _ _ (by omega)).trans (cl_Fl cl v hv), cl.1, fun _ => 0, fun j hj => absurd hj (Nat.not_lt_zero _), fun j k hj => absurd hj (Nat.not_lt_zero _), fun n _ _ => rfl⟩
theorem c_mk8 {d : Nat} {h : Hp} {g : ShG} {l : LkG} {Q : Po} (wf : WF h) (hg : ShW g) (cl : CL 39 g l h) (hp : rI h 42 1 = 8) (k : ∀ h1, Fq (sMk 8) h h1 → CMK g 8 l l 0 h1 → Q (.ref 68) h1) : wpC (d + 2) true 13 [.ref 42, .ref 39] h Q := by
  refine go_in rfl ?_
  refine exf_go 4 (show Go (d + 1) true 13 8 [.ref 42, .ref 39] [.int (rI h 42 1), .ref 43] h Q from ?_)
  rw [show (rI h 42 1 : Int32) = 8 from hp]
  refine exf_go 1 (show vp_in (8 : Int32) 9 ∧ (rN h 43 8 = true → Go (d + 1) true 13 9 [.ref 42, .ref 39] [.ref 68] h Q) ∧ (rN h 43 8 = false → Go (d + 1) true 13 9 [.ref 42, .ref 39] [.null] h Q) from ⟨vp_in_nI (n := 8) (by decide) (by decide), fun c1 => ?_, fun c1 => ?_⟩)
  · skip
    refine exf_go 2 (show wpC (d + 1) true 39 [.ref 68, .ref 39] h (fun _ h' => Go (d + 1) true 13 13 [.ref 42, .ref 39] [] h' Q) from ?_)
    refine c_take8 hg cl (fun h1 q1 mk1 => ?_)
    have hp1 : rI h1 42 1 = 8 := by rw [q1.I (a := 42) (fun _ => rfl)]; exact hp
    have hn1 : rN h1 43 8 = true := by rw [show rN h1 = rN h from congrArg (·.2.1) q1.2]; exact wf.2.2 43 8 rfl
    show Go (d + 1) true 13 13 [.ref 42, .ref 39] [] h1 Q
    refine exf_go 4 (show Go (d + 1) true 13 21 [.ref 42, .ref 39] [.int (rI h1 42 1), .ref 43] h1 Q from ?_)
    rw [show (rI h1 42 1 : Int32) = 8 from hp1]
    refine exf_go 1 (show vp_in (8 : Int32) 9 ∧ (rN h1 43 8 = true → Go (d + 1) true 13 22 [.ref 42, .ref 39] [.ref 68] h1 Q) ∧ (rN h1 43 8 = false → Go (d + 1) true 13 22 [.ref 42, .ref 39] [.null] h1 Q) from ⟨vp_in_nI (n := 8) (by decide) (by decide), fun c2 => ?_, fun c2 => ?_⟩)
    · skip
      refine exf_go 1 (show Q (.ref 68) h1 from ?_)
      exact k h1 q1 mk1
    · skip
      exact absurd ((hn1).symm.trans c2) (by decide)
  · skip
    exact absurd (((wf.2.2 43 8 rfl)).symm.trans c1) (by decide)
theorem c_mark {d : Nat} {h : Hp} {g : ShG} {l : LkG} {Q : Po} (i : Nat) (hi : i < 9) (wf : WF h) (hg : ShW g) (cl : CL 39 g l h) (hp : rI h 42 1 = nI i) (k : ∀ h1, Fq (sMk i) h h1 → CMK g i l l 0 h1 → Q (.ref (44 + 3 * i)) h1) : wpC (d + 2) true 13 [.ref 42, .ref 39] h Q := by
  rcases (show i = 0 ∨ i = 1 ∨ i = 2 ∨ i = 3 ∨ i = 4 ∨ i = 5 ∨ i = 6 ∨ i = 7 ∨ i = 8 by omega) with e | e | e | e | e | e | e | e | e <;> subst e
  · exact c_mk0 wf hg cl hp k
  · exact c_mk1 wf hg cl hp k
  · exact c_mk2 wf hg cl hp k
  · exact c_mk3 wf hg cl hp k
  · exact c_mk4 wf hg cl hp k
  · exact c_mk5 wf hg cl hp k
  · exact c_mk6 wf hg cl hp k
  · exact c_mk7 wf hg cl hp k
  · exact c_mk8 wf hg cl hp k
theorem c_takeBack {d : Nat} {h : Hp} {g : ShG} {l l0 : LkG} {c : Nat} {Q : Po} (i : Nat) (hi : i < 9) (cs : CS 31 g h) (cl : CL 39 g l h) (mk : CMK g i l0 l c h) (k : ∀ h1, Fq sL3 h h1 → CL 39 g l0 h1 → Q mk_ h1) : wpC (d + 3) true 36 [.ref 39, .ref 31, .ref (44 + 3 * i)] h Q := by
  rcases (show i = 0 ∨ i = 1 ∨ i = 2 ∨ i = 3 ∨ i = 4 ∨ i = 5 ∨ i = 6 ∨ i = 7 ∨ i = 8 by omega) with e | e | e | e | e | e | e | e | e <;> subst e
  · exact c_tb0 cs cl mk k
  · exact c_tb1 cs cl mk k
  · exact c_tb2 cs cl mk k
  · exact c_tb3 cs cl mk k
  · exact c_tb4 cs cl mk k
  · exact c_tb5 cs cl mk k
  · exact c_tb6 cs cl mk k
  · exact c_tb7 cs cl mk k
  · exact c_tb8 cs cl mk k
theorem c_keep {d : Nat} {h : Hp} {i m : Nat} {Q : Po} (hp : rI h 42 1 = nI i) (hm : rI h 42 2 = nI m) (hi : i < 9) (hm8 : m ≤ 8) (k : Q mk_ (uI (uI h 42 1 (nI ((i + 1) % 9))) 42 2 (nI (min 8 (m + 1))))) : wpC (d + 2) true 14 [.ref 42] h Q := by
  refine go_in rfl ?_
  refine exf_go 3 (show Go (d + 1) true 14 5 [.ref 42] [.int (rI h 42 1), .ref 42] h Q from ?_)
  rw [show (rI h 42 1 : Int32) = nI i from hp]
  refine exf_go 2 (show Go (d + 1) true 14 7 [.ref 42] [.int ((nI i) + 1), .ref 42] h Q from ?_)
  rw [show ((nI i) + 1 : Int32) = nI (i + 1) from nI_add i 1]
  refine exf_go 2 (show ¬ 9 = 0 ∧ (Go (d + 1) true 14 10 [.ref 42] [.int ((nI (i + 1)) - (nI (i + 1)) / 9 * 9), .ref 42] h Q) from ⟨(by decide), ?_⟩)
  rw [show ((nI (i + 1)) - (nI (i + 1)) / 9 * 9 : Int32) = nI ((i + 1) % 9) from pk_rem (a := (i + 1)) (d := 9) (by omega) (by omega) (by omega)]
  refine exf_go 5 (show Go (d + 1) true 14 20 [.ref 42] [.int (rI h 42 2), .int 8, .ref 42] (uI h 42 1 (nI ((i + 1) % 9))) Q from ?_)
  rw [show (rI h 42 2 : Int32) = nI m from hm]
  refine exf_go 2 (show Go (d + 1) true 14 22 [.ref 42] [.int ((nI m) + 1), .int 8, .ref 42] (uI h 42 1 (nI ((i + 1) % 9))) Q from ?_)
  rw [show ((nI m) + 1 : Int32) = nI (m + 1) from nI_add m 1]
  refine exf_go 1 (show wpC (d + 1) true 304 [.int 8, .int (nI (m + 1))] (uI h 42 1 (nI ((i + 1) % 9))) (fun r h' => Go (d + 1) true 14 25 [.ref 42] [r, .ref 42] h' Q) from ?_)
  refine c_min (a := 8) (b := m + 1) (by omega) (by omega) ?_
  show Go (d + 1) true 14 25 [.ref 42] [.int (nI (min 8 (m + 1))), .ref 42] (uI h 42 1 (nI ((i + 1) % 9))) Q
  refine exf_go 2 (show Q (mk_) (uI (uI h 42 1 (nI ((i + 1) % 9))) 42 2 (nI (min 8 (m + 1)))) from ?_)
  exact k
theorem c_forget {d : Nat} {h : Hp} {Q : Po} (k : Q mk_ (uI h 42 2 0)) : wpC (d + 1) true 16 [.ref 42] h Q := by
  refine go_in rfl ?_
  refine exf_go 4 (show Q (mk_) (uI h 42 2 0) from ?_)
  exact k
/-- one step back along the calls that can be taken back -/
def curL (l : LkG) (hl : Nat → LkG) : Nat → LkG
  | 0 => l
  | k + 1 => hl k
def psh (l : LkG) (hl : Nat → LkG) : Nat → LkG
  | 0 => l
  | k + 1 => hl k
/-- the class's calls that can be taken back: so many, where each led from -/
def CH (g : ShG) (l : LkG) (m : Nat) (hl : Nat → LkG) (i : Nat) (h : Hp) : Prop := i < 9 ∧ m ≤ 8 ∧ rI h 42 1 = nI i ∧ rI h 42 2 = nI m ∧ ∀ k, k < m → ∃ c, CMK g ((i + 8 - k) % 9) (hl k) (curL l hl k) c h
theorem ch_keep {g : ShG} {l l0 : LkG} {m i c : Nat} {hl : Nat → LkG} {h h1 : Hp} (ch : CH g l0 m hl i h) (qs : ∀ a, 42 ≤ a → a ≤ 70 → (a < 44 + 3 * i ∨ 46 + 3 * i < a) → rI h1 a = rI h a) (mk : CMK g i l0 l c h1) : CH g l (min 8 (m + 1)) (psh l0 hl) ((i + 1) % 9) (uI (uI h1 42 1 (nI ((i + 1) % 9))) 42 2 (nI (min 8 (m + 1)))) := by
  obtain ⟨a1, a2, a3, a4, a5⟩ := ch
  refine ⟨by omega, by omega, rfl, rfl, fun k hk => ?_⟩
  have hu : ∀ {j c2 : Nat} {x y : LkG}, j < 9 → CMK g j x y c2 h1 → CMK g j x y c2 (uI (uI h1 42 1 (nI ((i + 1) % 9))) 42 2 (nI (min 8 (m + 1)))) := fun hj mk2 => mk_fq mk2 ((rI_uI_ne (by omega)).trans (rI_uI_ne (by omega))) ((rI_uI_ne (by omega)).trans (rI_uI_ne (by omega))) ((rI_uI_ne (by omega)).trans (rI_uI_ne (by omega)))
  cases k with
  | zero =>
    refine ⟨c, ?_⟩
    rw [show ((i + 1) % 9 + 8 - 0) % 9 = i from by omega]
    exact hu a1 mk
  | succ k =>
    obtain ⟨c2, m2⟩ := a5 k (by omega)
    refine ⟨c2, ?_⟩
    rw [show ((i + 1) % 9 + 8 - (k + 1)) % 9 = (i + 8 - k) % 9 from by omega]
    have m3 : CMK g ((i + 8 - k) % 9) (hl k) (curL l0 hl k) c2 h1 := mk_fq m2 (qs _ (by omega) (by omega) (by omega)) (qs _ (by omega) (by omega) (by omega)) (qs _ (by omega) (by omega) (by omega))
    have e : curL l (psh l0 hl) (k + 1) = curL l0 hl k := by cases k <;> rfl
    rw [show psh l0 hl (k + 1) = hl k from rfl, e]
    exact hu (by omega) m3
theorem ch_keep0 {g : ShG} {l : LkG} {m i : Nat} {hl : Nat → LkG} {h h1 : Hp} (ch : CH g l m hl i h) (qs : ∀ a, 42 ≤ a → a ≤ 70 → (a < 44 + 3 * i ∨ 46 + 3 * i < a) → rI h1 a = rI h a) : CH g l m hl i h1 := by
  obtain ⟨a1, a2, a3, a4, a5⟩ := ch
  refine ⟨a1, a2, ?_, ?_, fun k hk => ?_⟩
  · rw [qs 42 (by omega) (by omega) (by omega)]; exact a3
  · rw [qs 42 (by omega) (by omega) (by omega)]; exact a4
  · obtain ⟨c2, m2⟩ := a5 k hk
    exact ⟨c2, mk_fq m2 (qs _ (by omega) (by omega) (by omega)) (qs _ (by omega) (by omega) (by omega)) (qs _ (by omega) (by omega) (by omega))⟩
theorem c_lat0 {d : Nat} {h : Hp} {j m : Nat} {Q : Po} (wf : WF h) (hp : rI h 42 1 = nI j) (hm : rI h 42 2 = nI (m + 1)) (hj : j < 9) (hm8 : m < 8) (hi : (j + 8) % 9 = 0) (k : Q (.ref 44) (uI (uI h 42 1 0) 42 2 (nI m))) : wpC (d + 2) true 15 [.ref 42] h Q := by
  have hj8 : nI (j + 9) - 1 = nI (j + 8) := nI_pred (j + 8)
  have hj2 : nI (j + 8) - nI (j + 8) / 9 * 9 = 0 := (pk_rem (a := j + 8) (d := 9) (by omega) (by omega) (by omega)).trans (by rw [hi]; rfl)
  refine go_in rfl ?_
  refine exf_go 3 (show Go (d + 1) true 15 5 [.ref 42] [.int (rI h 42 1), .ref 42] h Q from ?_)
  rw [show (rI h 42 1 : Int32) = nI j from hp]
  refine exf_go 2 (show Go (d + 1) true 15 8 [.ref 42] [.int ((nI j) + 9), .ref 42] h Q from ?_)
  rw [show ((nI j) + 9 : Int32) = nI (j + 9) from nI_add j 9]
  refine exf_go 2 (show Go (d + 1) true 15 10 [.ref 42] [.int ((nI (j + 9)) - 1), .ref 42] h Q from ?_)
  rw [show ((nI (j + 9)) - 1 : Int32) = nI (j + 8) from hj8]
  refine exf_go 2 (show ¬ 9 = 0 ∧ (Go (d + 1) true 15 13 [.ref 42] [.int ((nI (j + 8)) - (nI (j + 8)) / 9 * 9), .ref 42] h Q) from ⟨(by decide), ?_⟩)
  rw [show ((nI (j + 8)) - (nI (j + 8)) / 9 * 9 : Int32) = 0 from hj2]
  refine exf_go 5 (show Go (d + 1) true 15 22 [.ref 42] [.int (rI h 42 2), .int 0, .ref 42] (uI h 42 1 0) Q from ?_)
  rw [show (rI h 42 2 : Int32) = nI (m + 1) from hm]
  refine exf_go 2 (show Go (d + 1) true 15 24 [.ref 42] [.int ((nI (m + 1)) - 1), .int 0, .ref 42] (uI h 42 1 0) Q from ?_)
  rw [show ((nI (m + 1)) - 1 : Int32) = nI m from nI_pred m]
  refine exf_go 1 (show wpC (d + 1) true 302 [.int 0, .int (nI m)] (uI h 42 1 0) (fun r h' => Go (d + 1) true 15 27 [.ref 42] [r, .ref 42] h' Q) from ?_)
  refine c_max (a := 0) (b := m) (by omega) (by omega) ?_
  rw [show max 0 m = m from by omega]
  show Go (d + 1) true 15 27 [.ref 42] [.int (nI m), .ref 42] (uI h 42 1 0) Q
  refine exf_go 6 (show vp_in (0 : Int32) 9 ∧ (rN (uI (uI h 42 1 0) 42 2 (nI m)) 43 0 = true → Go (d + 1) true 15 39 [.ref 42] [.ref 44] (uI (uI h 42 1 0) 42 2 (nI m)) Q) ∧ (rN (uI (uI h 42 1 0) 42 2 (nI m)) 43 0 = false → Go (d + 1) true 15 39 [.ref 42] [.null] (uI (uI h 42 1 0) 42 2 (nI m)) Q) from ⟨vp_in_nI (n := 0) (by decide) (by decide), fun c1 => ?_, fun c1 => ?_⟩)
  · skip
    refine exf_go 1 (show Q (.ref 44) (uI (uI h 42 1 0) 42 2 (nI m)) from ?_)
    exact k
  · skip
    exact absurd (((wf.2.2 43 0 rfl)).symm.trans c1) (by decide)
theorem c_lat1 {d : Nat} {h : Hp} {j m : Nat} {Q : Po} (wf : WF h) (hp : rI h 42 1 = nI j) (hm : rI h 42 2 = nI (m + 1)) (hj : j < 9) (hm8 : m < 8) (hi : (j + 8) % 9 = 1) (k : Q (.ref 47) (uI (uI h 42 1 1) 42 2 (nI m))) : wpC (d + 2) true 15 [.ref 42] h Q := by
  have hj8 : nI (j + 9) - 1 = nI (j + 8) := nI_pred (j + 8)
  have hj2 : nI (j + 8) - nI (j + 8) / 9 * 9 = 1 := (pk_rem (a := j + 8) (d := 9) (by omega) (by omega) (by omega)).trans (by rw [hi]; rfl)
  refine go_in rfl ?_
  refine exf_go 3 (show Go (d + 1) true 15 5 [.ref 42] [.int (rI h 42 1), .ref 42] h Q from ?_)
  rw [show (rI h 42 1 : Int32) = nI j from hp]
  refine exf_go 2 (show Go (d + 1) true 15 8 [.ref 42] [.int ((nI j) + 9), .ref 42] h Q from ?_)
  rw [show ((nI j) + 9 : Int32) = nI (j + 9) from nI_add j 9]
  refine exf_go 2 (show Go (d + 1) true 15 10 [.ref 42] [.int ((nI (j + 9)) - 1), .ref 42] h Q from ?_)
  rw [show ((nI (j + 9)) - 1 : Int32) = nI (j + 8) from hj8]
  refine exf_go 2 (show ¬ 9 = 0 ∧ (Go (d + 1) true 15 13 [.ref 42] [.int ((nI (j + 8)) - (nI (j + 8)) / 9 * 9), .ref 42] h Q) from ⟨(by decide), ?_⟩)
  rw [show ((nI (j + 8)) - (nI (j + 8)) / 9 * 9 : Int32) = 1 from hj2]
  refine exf_go 5 (show Go (d + 1) true 15 22 [.ref 42] [.int (rI h 42 2), .int 0, .ref 42] (uI h 42 1 1) Q from ?_)
  rw [show (rI h 42 2 : Int32) = nI (m + 1) from hm]
  refine exf_go 2 (show Go (d + 1) true 15 24 [.ref 42] [.int ((nI (m + 1)) - 1), .int 0, .ref 42] (uI h 42 1 1) Q from ?_)
  rw [show ((nI (m + 1)) - 1 : Int32) = nI m from nI_pred m]
  refine exf_go 1 (show wpC (d + 1) true 302 [.int 0, .int (nI m)] (uI h 42 1 1) (fun r h' => Go (d + 1) true 15 27 [.ref 42] [r, .ref 42] h' Q) from ?_)
  refine c_max (a := 0) (b := m) (by omega) (by omega) ?_
  rw [show max 0 m = m from by omega]
  show Go (d + 1) true 15 27 [.ref 42] [.int (nI m), .ref 42] (uI h 42 1 1) Q
  refine exf_go 6 (show vp_in (1 : Int32) 9 ∧ (rN (uI (uI h 42 1 1) 42 2 (nI m)) 43 1 = true → Go (d + 1) true 15 39 [.ref 42] [.ref 47] (uI (uI h 42 1 1) 42 2 (nI m)) Q) ∧ (rN (uI (uI h 42 1 1) 42 2 (nI m)) 43 1 = false → Go (d + 1) true 15 39 [.ref 42] [.null] (uI (uI h 42 1 1) 42 2 (nI m)) Q) from ⟨vp_in_nI (n := 1) (by decide) (by decide), fun c1 => ?_, fun c1 => ?_⟩)
  · skip
    refine exf_go 1 (show Q (.ref 47) (uI (uI h 42 1 1) 42 2 (nI m)) from ?_)
    exact k
  · skip
    exact absurd (((wf.2.2 43 1 rfl)).symm.trans c1) (by decide)
theorem c_lat2 {d : Nat} {h : Hp} {j m : Nat} {Q : Po} (wf : WF h) (hp : rI h 42 1 = nI j) (hm : rI h 42 2 = nI (m + 1)) (hj : j < 9) (hm8 : m < 8) (hi : (j + 8) % 9 = 2) (k : Q (.ref 50) (uI (uI h 42 1 2) 42 2 (nI m))) : wpC (d + 2) true 15 [.ref 42] h Q := by
  have hj8 : nI (j + 9) - 1 = nI (j + 8) := nI_pred (j + 8)
  have hj2 : nI (j + 8) - nI (j + 8) / 9 * 9 = 2 := (pk_rem (a := j + 8) (d := 9) (by omega) (by omega) (by omega)).trans (by rw [hi]; rfl)
  refine go_in rfl ?_
  refine exf_go 3 (show Go (d + 1) true 15 5 [.ref 42] [.int (rI h 42 1), .ref 42] h Q from ?_)
  rw [show (rI h 42 1 : Int32) = nI j from hp]
  refine exf_go 2 (show Go (d + 1) true 15 8 [.ref 42] [.int ((nI j) + 9), .ref 42] h Q from ?_)
  rw [show ((nI j) + 9 : Int32) = nI (j + 9) from nI_add j 9]
  refine exf_go 2 (show Go (d + 1) true 15 10 [.ref 42] [.int ((nI (j + 9)) - 1), .ref 42] h Q from ?_)
  rw [show ((nI (j + 9)) - 1 : Int32) = nI (j + 8) from hj8]
  refine exf_go 2 (show ¬ 9 = 0 ∧ (Go (d + 1) true 15 13 [.ref 42] [.int ((nI (j + 8)) - (nI (j + 8)) / 9 * 9), .ref 42] h Q) from ⟨(by decide), ?_⟩)
  rw [show ((nI (j + 8)) - (nI (j + 8)) / 9 * 9 : Int32) = 2 from hj2]
  refine exf_go 5 (show Go (d + 1) true 15 22 [.ref 42] [.int (rI h 42 2), .int 0, .ref 42] (uI h 42 1 2) Q from ?_)
  rw [show (rI h 42 2 : Int32) = nI (m + 1) from hm]
  refine exf_go 2 (show Go (d + 1) true 15 24 [.ref 42] [.int ((nI (m + 1)) - 1), .int 0, .ref 42] (uI h 42 1 2) Q from ?_)
  rw [show ((nI (m + 1)) - 1 : Int32) = nI m from nI_pred m]
  refine exf_go 1 (show wpC (d + 1) true 302 [.int 0, .int (nI m)] (uI h 42 1 2) (fun r h' => Go (d + 1) true 15 27 [.ref 42] [r, .ref 42] h' Q) from ?_)
  refine c_max (a := 0) (b := m) (by omega) (by omega) ?_
  rw [show max 0 m = m from by omega]
  show Go (d + 1) true 15 27 [.ref 42] [.int (nI m), .ref 42] (uI h 42 1 2) Q
  refine exf_go 6 (show vp_in (2 : Int32) 9 ∧ (rN (uI (uI h 42 1 2) 42 2 (nI m)) 43 2 = true → Go (d + 1) true 15 39 [.ref 42] [.ref 50] (uI (uI h 42 1 2) 42 2 (nI m)) Q) ∧ (rN (uI (uI h 42 1 2) 42 2 (nI m)) 43 2 = false → Go (d + 1) true 15 39 [.ref 42] [.null] (uI (uI h 42 1 2) 42 2 (nI m)) Q) from ⟨vp_in_nI (n := 2) (by decide) (by decide), fun c1 => ?_, fun c1 => ?_⟩)
  · skip
    refine exf_go 1 (show Q (.ref 50) (uI (uI h 42 1 2) 42 2 (nI m)) from ?_)
    exact k
  · skip
    exact absurd (((wf.2.2 43 2 rfl)).symm.trans c1) (by decide)
theorem c_lat3 {d : Nat} {h : Hp} {j m : Nat} {Q : Po} (wf : WF h) (hp : rI h 42 1 = nI j) (hm : rI h 42 2 = nI (m + 1)) (hj : j < 9) (hm8 : m < 8) (hi : (j + 8) % 9 = 3) (k : Q (.ref 53) (uI (uI h 42 1 3) 42 2 (nI m))) : wpC (d + 2) true 15 [.ref 42] h Q := by
  have hj8 : nI (j + 9) - 1 = nI (j + 8) := nI_pred (j + 8)
  have hj2 : nI (j + 8) - nI (j + 8) / 9 * 9 = 3 := (pk_rem (a := j + 8) (d := 9) (by omega) (by omega) (by omega)).trans (by rw [hi]; rfl)
  refine go_in rfl ?_
  refine exf_go 3 (show Go (d + 1) true 15 5 [.ref 42] [.int (rI h 42 1), .ref 42] h Q from ?_)
  rw [show (rI h 42 1 : Int32) = nI j from hp]
  refine exf_go 2 (show Go (d + 1) true 15 8 [.ref 42] [.int ((nI j) + 9), .ref 42] h Q from ?_)
  rw [show ((nI j) + 9 : Int32) = nI (j + 9) from nI_add j 9]
  refine exf_go 2 (show Go (d + 1) true 15 10 [.ref 42] [.int ((nI (j + 9)) - 1), .ref 42] h Q from ?_)
  rw [show ((nI (j + 9)) - 1 : Int32) = nI (j + 8) from hj8]
  refine exf_go 2 (show ¬ 9 = 0 ∧ (Go (d + 1) true 15 13 [.ref 42] [.int ((nI (j + 8)) - (nI (j + 8)) / 9 * 9), .ref 42] h Q) from ⟨(by decide), ?_⟩)
  rw [show ((nI (j + 8)) - (nI (j + 8)) / 9 * 9 : Int32) = 3 from hj2]
  refine exf_go 5 (show Go (d + 1) true 15 22 [.ref 42] [.int (rI h 42 2), .int 0, .ref 42] (uI h 42 1 3) Q from ?_)
  rw [show (rI h 42 2 : Int32) = nI (m + 1) from hm]
  refine exf_go 2 (show Go (d + 1) true 15 24 [.ref 42] [.int ((nI (m + 1)) - 1), .int 0, .ref 42] (uI h 42 1 3) Q from ?_)
  rw [show ((nI (m + 1)) - 1 : Int32) = nI m from nI_pred m]
  refine exf_go 1 (show wpC (d + 1) true 302 [.int 0, .int (nI m)] (uI h 42 1 3) (fun r h' => Go (d + 1) true 15 27 [.ref 42] [r, .ref 42] h' Q) from ?_)
  refine c_max (a := 0) (b := m) (by omega) (by omega) ?_
  rw [show max 0 m = m from by omega]
  show Go (d + 1) true 15 27 [.ref 42] [.int (nI m), .ref 42] (uI h 42 1 3) Q
  refine exf_go 6 (show vp_in (3 : Int32) 9 ∧ (rN (uI (uI h 42 1 3) 42 2 (nI m)) 43 3 = true → Go (d + 1) true 15 39 [.ref 42] [.ref 53] (uI (uI h 42 1 3) 42 2 (nI m)) Q) ∧ (rN (uI (uI h 42 1 3) 42 2 (nI m)) 43 3 = false → Go (d + 1) true 15 39 [.ref 42] [.null] (uI (uI h 42 1 3) 42 2 (nI m)) Q) from ⟨vp_in_nI (n := 3) (by decide) (by decide), fun c1 => ?_, fun c1 => ?_⟩)
  · skip
    refine exf_go 1 (show Q (.ref 53) (uI (uI h 42 1 3) 42 2 (nI m)) from ?_)
    exact k
  · skip
    exact absurd (((wf.2.2 43 3 rfl)).symm.trans c1) (by decide)
theorem c_lat4 {d : Nat} {h : Hp} {j m : Nat} {Q : Po} (wf : WF h) (hp : rI h 42 1 = nI j) (hm : rI h 42 2 = nI (m + 1)) (hj : j < 9) (hm8 : m < 8) (hi : (j + 8) % 9 = 4) (k : Q (.ref 56) (uI (uI h 42 1 4) 42 2 (nI m))) : wpC (d + 2) true 15 [.ref 42] h Q := by
  have hj8 : nI (j + 9) - 1 = nI (j + 8) := nI_pred (j + 8)
  have hj2 : nI (j + 8) - nI (j + 8) / 9 * 9 = 4 := (pk_rem (a := j + 8) (d := 9) (by omega) (by omega) (by omega)).trans (by rw [hi]; rfl)
  refine go_in rfl ?_
  refine exf_go 3 (show Go (d + 1) true 15 5 [.ref 42] [.int (rI h 42 1), .ref 42] h Q from ?_)
  rw [show (rI h 42 1 : Int32) = nI j from hp]
  refine exf_go 2 (show Go (d + 1) true 15 8 [.ref 42] [.int ((nI j) + 9), .ref 42] h Q from ?_)
  rw [show ((nI j) + 9 : Int32) = nI (j + 9) from nI_add j 9]
  refine exf_go 2 (show Go (d + 1) true 15 10 [.ref 42] [.int ((nI (j + 9)) - 1), .ref 42] h Q from ?_)
  rw [show ((nI (j + 9)) - 1 : Int32) = nI (j + 8) from hj8]
  refine exf_go 2 (show ¬ 9 = 0 ∧ (Go (d + 1) true 15 13 [.ref 42] [.int ((nI (j + 8)) - (nI (j + 8)) / 9 * 9), .ref 42] h Q) from ⟨(by decide), ?_⟩)
  rw [show ((nI (j + 8)) - (nI (j + 8)) / 9 * 9 : Int32) = 4 from hj2]
  refine exf_go 5 (show Go (d + 1) true 15 22 [.ref 42] [.int (rI h 42 2), .int 0, .ref 42] (uI h 42 1 4) Q from ?_)
  rw [show (rI h 42 2 : Int32) = nI (m + 1) from hm]
  refine exf_go 2 (show Go (d + 1) true 15 24 [.ref 42] [.int ((nI (m + 1)) - 1), .int 0, .ref 42] (uI h 42 1 4) Q from ?_)
  rw [show ((nI (m + 1)) - 1 : Int32) = nI m from nI_pred m]
  refine exf_go 1 (show wpC (d + 1) true 302 [.int 0, .int (nI m)] (uI h 42 1 4) (fun r h' => Go (d + 1) true 15 27 [.ref 42] [r, .ref 42] h' Q) from ?_)
  refine c_max (a := 0) (b := m) (by omega) (by omega) ?_
  rw [show max 0 m = m from by omega]
  show Go (d + 1) true 15 27 [.ref 42] [.int (nI m), .ref 42] (uI h 42 1 4) Q
  refine exf_go 6 (show vp_in (4 : Int32) 9 ∧ (rN (uI (uI h 42 1 4) 42 2 (nI m)) 43 4 = true → Go (d + 1) true 15 39 [.ref 42] [.ref 56] (uI (uI h 42 1 4) 42 2 (nI m)) Q) ∧ (rN (uI (uI h 42 1 4) 42 2 (nI m)) 43 4 = false → Go (d + 1) true 15 39 [.ref 42] [.null] (uI (uI h 42 1 4) 42 2 (nI m)) Q) from ⟨vp_in_nI (n := 4) (by decide) (by decide), fun c1 => ?_, fun c1 => ?_⟩)
  · skip
    refine exf_go 1 (show Q (.ref 56) (uI (uI h 42 1 4) 42 2 (nI m)) from ?_)
    exact k
  · skip
    exact absurd (((wf.2.2 43 4 rfl)).symm.trans c1) (by decide)
theorem c_lat5 {d : Nat} {h : Hp} {j m : Nat} {Q : Po} (wf : WF h) (hp : rI h 42 1 = nI j) (hm : rI h 42 2 = nI (m + 1)) (hj : j < 9) (hm8 : m < 8) (hi : (j + 8) % 9 = 5) (k : Q (.ref 59) (uI (uI h 42 1 5) 42 2 (nI m))) : wpC (d + 2) true 15 [.ref 42] h Q := by
  have hj8 : nI (j + 9) - 1 = nI (j + 8) := nI_pred (j + 8)
  have hj2 : nI (j + 8) - nI (j + 8) / 9 * 9 = 5 := (pk_rem (a := j + 8) (d := 9) (by omega) (by omega) (by omega)).trans (by rw [hi]; rfl)
  refine go_in rfl ?_
  refine exf_go 3 (show Go (d + 1) true 15 5 [.ref 42] [.int (rI h 42 1), .ref 42] h Q from ?_)
  rw [show (rI h 42 1 : Int32) = nI j from hp]
  refine exf_go 2 (show Go (d + 1) true 15 8 [.ref 42] [.int ((nI j) + 9), .ref 42] h Q from ?_)
  rw [show ((nI j) + 9 : Int32) = nI (j + 9) from nI_add j 9]
  refine exf_go 2 (show Go (d + 1) true 15 10 [.ref 42] [.int ((nI (j + 9)) - 1), .ref 42] h Q from ?_)
  rw [show ((nI (j + 9)) - 1 : Int32) = nI (j + 8) from hj8]
  refine exf_go 2 (show ¬ 9 = 0 ∧ (Go (d + 1) true 15 13 [.ref 42] [.int ((nI (j + 8)) - (nI (j + 8)) / 9 * 9), .ref 42] h Q) from ⟨(by decide), ?_⟩)
  rw [show ((nI (j + 8)) - (nI (j + 8)) / 9 * 9 : Int32) = 5 from hj2]
  refine exf_go 5 (show Go (d + 1) true 15 22 [.ref 42] [.int (rI h 42 2), .int 0, .ref 42] (uI h 42 1 5) Q from ?_)
  rw [show (rI h 42 2 : Int32) = nI (m + 1) from hm]
  refine exf_go 2 (show Go (d + 1) true 15 24 [.ref 42] [.int ((nI (m + 1)) - 1), .int 0, .ref 42] (uI h 42 1 5) Q from ?_)
  rw [show ((nI (m + 1)) - 1 : Int32) = nI m from nI_pred m]
  refine exf_go 1 (show wpC (d + 1) true 302 [.int 0, .int (nI m)] (uI h 42 1 5) (fun r h' => Go (d + 1) true 15 27 [.ref 42] [r, .ref 42] h' Q) from ?_)
  refine c_max (a := 0) (b := m) (by omega) (by omega) ?_
  rw [show max 0 m = m from by omega]
  show Go (d + 1) true 15 27 [.ref 42] [.int (nI m), .ref 42] (uI h 42 1 5) Q
  refine exf_go 6 (show vp_in (5 : Int32) 9 ∧ (rN (uI (uI h 42 1 5) 42 2 (nI m)) 43 5 = true → Go (d + 1) true 15 39 [.ref 42] [.ref 59] (uI (uI h 42 1 5) 42 2 (nI m)) Q) ∧ (rN (uI (uI h 42 1 5) 42 2 (nI m)) 43 5 = false → Go (d + 1) true 15 39 [.ref 42] [.null] (uI (uI h 42 1 5) 42 2 (nI m)) Q) from ⟨vp_in_nI (n := 5) (by decide) (by decide), fun c1 => ?_, fun c1 => ?_⟩)
  · skip
    refine exf_go 1 (show Q (.ref 59) (uI (uI h 42 1 5) 42 2 (nI m)) from ?_)
    exact k
  · skip
    exact absurd (((wf.2.2 43 5 rfl)).symm.trans c1) (by decide)
theorem c_lat6 {d : Nat} {h : Hp} {j m : Nat} {Q : Po} (wf : WF h) (hp : rI h 42 1 = nI j) (hm : rI h 42 2 = nI (m + 1)) (hj : j < 9) (hm8 : m < 8) (hi : (j + 8) % 9 = 6) (k : Q (.ref 62) (uI (uI h 42 1 6) 42 2 (nI m))) : wpC (d + 2) true 15 [.ref 42] h Q := by
  have hj8 : nI (j + 9) - 1 = nI (j + 8) := nI_pred (j + 8)
  have hj2 : nI (j + 8) - nI (j + 8) / 9 * 9 = 6 := (pk_rem (a := j + 8) (d := 9) (by omega) (by omega) (by omega)).trans (by rw [hi]; rfl)
  refine go_in rfl ?_
  refine exf_go 3 (show Go (d + 1) true 15 5 [.ref 42] [.int (rI h 42 1), .ref 42] h Q from ?_)
  rw [show (rI h 42 1 : Int32) = nI j from hp]
  refine exf_go 2 (show Go (d + 1) true 15 8 [.ref 42] [.int ((nI j) + 9), .ref 42] h Q from ?_)
  rw [show ((nI j) + 9 : Int32) = nI (j + 9) from nI_add j 9]
  refine exf_go 2 (show Go (d + 1) true 15 10 [.ref 42] [.int ((nI (j + 9)) - 1), .ref 42] h Q from ?_)
  rw [show ((nI (j + 9)) - 1 : Int32) = nI (j + 8) from hj8]
  refine exf_go 2 (show ¬ 9 = 0 ∧ (Go (d + 1) true 15 13 [.ref 42] [.int ((nI (j + 8)) - (nI (j + 8)) / 9 * 9), .ref 42] h Q) from ⟨(by decide), ?_⟩)
  rw [show ((nI (j + 8)) - (nI (j + 8)) / 9 * 9 : Int32) = 6 from hj2]
  refine exf_go 5 (show Go (d + 1) true 15 22 [.ref 42] [.int (rI h 42 2), .int 0, .ref 42] (uI h 42 1 6) Q from ?_)
  rw [show (rI h 42 2 : Int32) = nI (m + 1) from hm]
  refine exf_go 2 (show Go (d + 1) true 15 24 [.ref 42] [.int ((nI (m + 1)) - 1), .int 0, .ref 42] (uI h 42 1 6) Q from ?_)
  rw [show ((nI (m + 1)) - 1 : Int32) = nI m from nI_pred m]
  refine exf_go 1 (show wpC (d + 1) true 302 [.int 0, .int (nI m)] (uI h 42 1 6) (fun r h' => Go (d + 1) true 15 27 [.ref 42] [r, .ref 42] h' Q) from ?_)
  refine c_max (a := 0) (b := m) (by omega) (by omega) ?_
  rw [show max 0 m = m from by omega]
  show Go (d + 1) true 15 27 [.ref 42] [.int (nI m), .ref 42] (uI h 42 1 6) Q
  refine exf_go 6 (show vp_in (6 : Int32) 9 ∧ (rN (uI (uI h 42 1 6) 42 2 (nI m)) 43 6 = true → Go (d + 1) true 15 39 [.ref 42] [.ref 62] (uI (uI h 42 1 6) 42 2 (nI m)) Q) ∧ (rN (uI (uI h 42 1 6) 42 2 (nI m)) 43 6 = false → Go (d + 1) true 15 39 [.ref 42] [.null] (uI (uI h 42 1 6) 42 2 (nI m)) Q) from ⟨vp_in_nI (n := 6) (by decide) (by decide), fun c1 => ?_, fun c1 => ?_⟩)
  · skip
    refine exf_go 1 (show Q (.ref 62) (uI (uI h 42 1 6) 42 2 (nI m)) from ?_)
    exact k
  · skip
    exact absurd (((wf.2.2 43 6 rfl)).symm.trans c1) (by decide)
theorem c_lat7 {d : Nat} {h : Hp} {j m : Nat} {Q : Po} (wf : WF h) (hp : rI h 42 1 = nI j) (hm : rI h 42 2 = nI (m + 1)) (hj : j < 9) (hm8 : m < 8) (hi : (j + 8) % 9 = 7) (k : Q (.ref 65) (uI (uI h 42 1 7) 42 2 (nI m))) : wpC (d + 2) true 15 [.ref 42] h Q := by
  have hj8 : nI (j + 9) - 1 = nI (j + 8) := nI_pred (j + 8)
  have hj2 : nI (j + 8) - nI (j + 8) / 9 * 9 = 7 := (pk_rem (a := j + 8) (d := 9) (by omega) (by omega) (by omega)).trans (by rw [hi]; rfl)
  refine go_in rfl ?_
  refine exf_go 3 (show Go (d + 1) true 15 5 [.ref 42] [.int (rI h 42 1), .ref 42] h Q from ?_)
  rw [show (rI h 42 1 : Int32) = nI j from hp]
  refine exf_go 2 (show Go (d + 1) true 15 8 [.ref 42] [.int ((nI j) + 9), .ref 42] h Q from ?_)
  rw [show ((nI j) + 9 : Int32) = nI (j + 9) from nI_add j 9]
  refine exf_go 2 (show Go (d + 1) true 15 10 [.ref 42] [.int ((nI (j + 9)) - 1), .ref 42] h Q from ?_)
  rw [show ((nI (j + 9)) - 1 : Int32) = nI (j + 8) from hj8]
  refine exf_go 2 (show ¬ 9 = 0 ∧ (Go (d + 1) true 15 13 [.ref 42] [.int ((nI (j + 8)) - (nI (j + 8)) / 9 * 9), .ref 42] h Q) from ⟨(by decide), ?_⟩)
  rw [show ((nI (j + 8)) - (nI (j + 8)) / 9 * 9 : Int32) = 7 from hj2]
  refine exf_go 5 (show Go (d + 1) true 15 22 [.ref 42] [.int (rI h 42 2), .int 0, .ref 42] (uI h 42 1 7) Q from ?_)
  rw [show (rI h 42 2 : Int32) = nI (m + 1) from hm]
  refine exf_go 2 (show Go (d + 1) true 15 24 [.ref 42] [.int ((nI (m + 1)) - 1), .int 0, .ref 42] (uI h 42 1 7) Q from ?_)
  rw [show ((nI (m + 1)) - 1 : Int32) = nI m from nI_pred m]
  refine exf_go 1 (show wpC (d + 1) true 302 [.int 0, .int (nI m)] (uI h 42 1 7) (fun r h' => Go (d + 1) true 15 27 [.ref 42] [r, .ref 42] h' Q) from ?_)
  refine c_max (a := 0) (b := m) (by omega) (by omega) ?_
  rw [show max 0 m = m from by omega]
  show Go (d + 1) true 15 27 [.ref 42] [.int (nI m), .ref 42] (uI h 42 1 7) Q
  refine exf_go 6 (show vp_in (7 : Int32) 9 ∧ (rN (uI (uI h 42 1 7) 42 2 (nI m)) 43 7 = true → Go (d + 1) true 15 39 [.ref 42] [.ref 65] (uI (uI h 42 1 7) 42 2 (nI m)) Q) ∧ (rN (uI (uI h 42 1 7) 42 2 (nI m)) 43 7 = false → Go (d + 1) true 15 39 [.ref 42] [.null] (uI (uI h 42 1 7) 42 2 (nI m)) Q) from ⟨vp_in_nI (n := 7) (by decide) (by decide), fun c1 => ?_, fun c1 => ?_⟩)
  · skip
    refine exf_go 1 (show Q (.ref 65) (uI (uI h 42 1 7) 42 2 (nI m)) from ?_)
    exact k
  · skip
    exact absurd (((wf.2.2 43 7 rfl)).symm.trans c1) (by decide)
theorem c_lat8 {d : Nat} {h : Hp} {j m : Nat} {Q : Po} (wf : WF h) (hp : rI h 42 1 = nI j) (hm : rI h 42 2 = nI (m + 1)) (hj : j < 9) (hm8 : m < 8) (hi : (j + 8) % 9 = 8) (k : Q (.ref 68) (uI (uI h 42 1 8) 42 2 (nI m))) : wpC (d + 2) true 15 [.ref 42] h Q := by
  have hj8 : nI (j + 9) - 1 = nI (j + 8) := nI_pred (j + 8)
  have hj2 : nI (j + 8) - nI (j + 8) / 9 * 9 = 8 := (pk_rem (a := j + 8) (d := 9) (by omega) (by omega) (by omega)).trans (by rw [hi]; rfl)
  refine go_in rfl ?_
  refine exf_go 3 (show Go (d + 1) true 15 5 [.ref 42] [.int (rI h 42 1), .ref 42] h Q from ?_)
  rw [show (rI h 42 1 : Int32) = nI j from hp]
  refine exf_go 2 (show Go (d + 1) true 15 8 [.ref 42] [.int ((nI j) + 9), .ref 42] h Q from ?_)
  rw [show ((nI j) + 9 : Int32) = nI (j + 9) from nI_add j 9]
  refine exf_go 2 (show Go (d + 1) true 15 10 [.ref 42] [.int ((nI (j + 9)) - 1), .ref 42] h Q from ?_)
  rw [show ((nI (j + 9)) - 1 : Int32) = nI (j + 8) from hj8]
  refine exf_go 2 (show ¬ 9 = 0 ∧ (Go (d + 1) true 15 13 [.ref 42] [.int ((nI (j + 8)) - (nI (j + 8)) / 9 * 9), .ref 42] h Q) from ⟨(by decide), ?_⟩)
  rw [show ((nI (j + 8)) - (nI (j + 8)) / 9 * 9 : Int32) = 8 from hj2]
  refine exf_go 5 (show Go (d + 1) true 15 22 [.ref 42] [.int (rI h 42 2), .int 0, .ref 42] (uI h 42 1 8) Q from ?_)
  rw [show (rI h 42 2 : Int32) = nI (m + 1) from hm]
  refine exf_go 2 (show Go (d + 1) true 15 24 [.ref 42] [.int ((nI (m + 1)) - 1), .int 0, .ref 42] (uI h 42 1 8) Q from ?_)
  rw [show ((nI (m + 1)) - 1 : Int32) = nI m from nI_pred m]
  refine exf_go 1 (show wpC (d + 1) true 302 [.int 0, .int (nI m)] (uI h 42 1 8) (fun r h' => Go (d + 1) true 15 27 [.ref 42] [r, .ref 42] h' Q) from ?_)
  refine c_max (a := 0) (b := m) (by omega) (by omega) ?_
  rw [show max 0 m = m from by omega]
  show Go (d + 1) true 15 27 [.ref 42] [.int (nI m), .ref 42] (uI h 42 1 8) Q
  refine exf_go 6 (show vp_in (8 : Int32) 9 ∧ (rN (uI (uI h 42 1 8) 42 2 (nI m)) 43 8 = true → Go (d + 1) true 15 39 [.ref 42] [.ref 68] (uI (uI h 42 1 8) 42 2 (nI m)) Q) ∧ (rN (uI (uI h 42 1 8) 42 2 (nI m)) 43 8 = false → Go (d + 1) true 15 39 [.ref 42] [.null] (uI (uI h 42 1 8) 42 2 (nI m)) Q) from ⟨vp_in_nI (n := 8) (by decide) (by decide), fun c1 => ?_, fun c1 => ?_⟩)
  · skip
    refine exf_go 1 (show Q (.ref 68) (uI (uI h 42 1 8) 42 2 (nI m)) from ?_)
    exact k
  · skip
    exact absurd (((wf.2.2 43 8 rfl)).symm.trans c1) (by decide)
theorem c_latest2 {d : Nat} {h : Hp} {j m : Nat} {Q : Po} (wf : WF h) (hp : rI h 42 1 = nI j) (hm : rI h 42 2 = nI (m + 1)) (hj : j < 9) (hm8 : m < 8) (k : Q (.ref (44 + 3 * ((j + 8) % 9))) (uI (uI h 42 1 (nI ((j + 8) % 9))) 42 2 (nI m))) : wpC (d + 2) true 15 [.ref 42] h Q := by
  generalize hi : (j + 8) % 9 = i at k
  rcases (show i = 0 ∨ i = 1 ∨ i = 2 ∨ i = 3 ∨ i = 4 ∨ i = 5 ∨ i = 6 ∨ i = 7 ∨ i = 8 by omega) with e | e | e | e | e | e | e | e | e <;> subst e
  · exact c_lat0 wf hp hm hj hm8 hi k
  · exact c_lat1 wf hp hm hj hm8 hi k
  · exact c_lat2 wf hp hm hj hm8 hi k
  · exact c_lat3 wf hp hm hj hm8 hi k
  · exact c_lat4 wf hp hm hj hm8 hi k
  · exact c_lat5 wf hp hm hj hm8 hi k
  · exact c_lat6 wf hp hm hj hm8 hi k
  · exact c_lat7 wf hp hm hj hm8 hi k
  · exact c_lat8 wf hp hm hj hm8 hi k
