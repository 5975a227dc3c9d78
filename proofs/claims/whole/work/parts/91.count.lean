/-! Counts and faults. -/
def fCount (g : ShG) (l : LkG) (m np : Nat) (x : Int32) : Int32 := if x = 0 then nI (sW g) else if x = 1 then nI (tot g) else if x = 2 then nI (sC g) else if x = 3 then nI (sM g) else if x = 4 then lX l else if x = 5 then nI m else if x = 6 then nI (lO l) else if x = 7 then nI (lA l) else if x = 8 then nI np else if x = 9 then nI (sL g) else if x = 10 then lG l else if x = 11 then nI (cntN (fun n => lT l n == 1) (tot g)) else -1
def fFault (f : Nat) (pl : Option Nat) (x : Int32) : Int32 := if x = 0 then nI f else if x = 1 then oI pl else -1
theorem c_count {d : Nat} {h : Hp} {g : ShG} {l : LkG} {m np : Nat} {x : Int32} {Q : Po} (cs : CS 31 g h) (cl : CL 39 g l h) (hm : rI h 42 2 = nI m) (hp : rI h 10 1 = nI np) (k : Q (.int (fCount g l m np x)) h) : wpC (d + 1) true 154 [.ref 10, .int x] h Q := by
  have hO1 := cl.1.2.1
  refine go_in rfl ?_
  refine exf_go 2 (show (x.toInt < 0 ∨ 11 < x.toInt → Go d true 154 165 [.ref 10, .int x] [] h Q) ∧ (x.toInt = 0 → Go d true 154 64 [.ref 10, .int x] [] h Q) ∧ (x.toInt = 1 → Go d true 154 72 [.ref 10, .int x] [] h Q) ∧ (x.toInt = 2 → Go d true 154 80 [.ref 10, .int x] [] h Q) ∧ (x.toInt = 3 → Go d true 154 88 [.ref 10, .int x] [] h Q) ∧ (x.toInt = 4 → Go d true 154 96 [.ref 10, .int x] [] h Q) ∧ (x.toInt = 5 → Go d true 154 104 [.ref 10, .int x] [] h Q) ∧ (x.toInt = 6 → Go d true 154 112 [.ref 10, .int x] [] h Q) ∧ (x.toInt = 7 → Go d true 154 128 [.ref 10, .int x] [] h Q) ∧ (x.toInt = 8 → Go d true 154 136 [.ref 10, .int x] [] h Q) ∧ (x.toInt = 9 → Go d true 154 141 [.ref 10, .int x] [] h Q) ∧ (x.toInt = 10 → Go d true 154 149 [.ref 10, .int x] [] h Q) ∧ (x.toInt = 11 → Go d true 154 157 [.ref 10, .int x] [] h Q) ∧ True from ⟨fun c1 => ?_, fun c1 => ?_, fun c1 => ?_, fun c1 => ?_, fun c1 => ?_, fun c1 => ?_, fun c1 => ?_, fun c1 => ?_, fun c1 => ?_, fun c1 => ?_, fun c1 => ?_, fun c1 => ?_, fun c1 => ?_, trivial⟩)
  · skip
    refine exf_go 2 (show Q (.int (-1)) h from ?_)
    unfold fCount at k
    rw [if_neg (fun q => by subst q; exact absurd c1 (by decide)), if_neg (fun q => by subst q; exact absurd c1 (by decide)), if_neg (fun q => by subst q; exact absurd c1 (by decide)), if_neg (fun q => by subst q; exact absurd c1 (by decide)), if_neg (fun q => by subst q; exact absurd c1 (by decide)), if_neg (fun q => by subst q; exact absurd c1 (by decide)), if_neg (fun q => by subst q; exact absurd c1 (by decide)), if_neg (fun q => by subst q; exact absurd c1 (by decide)), if_neg (fun q => by subst q; exact absurd c1 (by decide)), if_neg (fun q => by subst q; exact absurd c1 (by decide)), if_neg (fun q => by subst q; exact absurd c1 (by decide)), if_neg (fun q => by subst q; exact absurd c1 (by decide))] at k
    exact k
  · skip
    have cy : x = nI 0 := ti_eq (by omega) c1
    subst cy
    refine exf_go 3 (show Go d true 154 71 [.ref 10, .int (nI 0)] [.int (rI h 31 0)] h Q from ?_)
    rw [show (rI h 31 0 : Int32) = nI (sW g) from cs_W cs]
    refine exf_go 1 (show Q (.int (nI (sW g))) h from ?_)
    exact k
  · skip
    have cy : x = nI 1 := ti_eq (by omega) c1
    subst cy
    refine exf_go 3 (show Go d true 154 79 [.ref 10, .int (nI 1)] [.int (rI h 31 5)] h Q from ?_)
    rw [show (rI h 31 5 : Int32) = nI (tot g) from cs_N cs]
    refine exf_go 1 (show Q (.int (nI (tot g))) h from ?_)
    exact k
  · skip
    have cy : x = nI 2 := ti_eq (by omega) c1
    subst cy
    refine exf_go 3 (show Go d true 154 87 [.ref 10, .int (nI 2)] [.int (rI h 31 6)] h Q from ?_)
    rw [show (rI h 31 6 : Int32) = nI (sC g) from cs_C cs]
    refine exf_go 1 (show Q (.int (nI (sC g))) h from ?_)
    exact k
  · skip
    have cy : x = nI 3 := ti_eq (by omega) c1
    subst cy
    refine exf_go 3 (show Go d true 154 95 [.ref 10, .int (nI 3)] [.int (rI h 31 13)] h Q from ?_)
    rw [show (rI h 31 13 : Int32) = nI (sM g) from cs_M cs]
    refine exf_go 1 (show Q (.int (nI (sM g))) h from ?_)
    exact k
  · skip
    have cy : x = nI 4 := ti_eq (by omega) c1
    subst cy
    refine exf_go 3 (show Go d true 154 103 [.ref 10, .int (nI 4)] [.int (rI h 39 4)] h Q from ?_)
    rw [show (rI h 39 4 : Int32) = lX l from cl_X cl]
    refine exf_go 1 (show Q (.int (lX l)) h from ?_)
    exact k
  · skip
    have cy : x = nI 5 := ti_eq (by omega) c1
    subst cy
    refine exf_go 3 (show Go d true 154 111 [.ref 10, .int (nI 5)] [.int (rI h 42 2)] h Q from ?_)
    rw [show (rI h 42 2 : Int32) = nI m from hm]
    refine exf_go 1 (show Q (.int (nI m)) h from ?_)
    exact k
  · skip
    have cy : x = nI 6 := ti_eq (by omega) c1
    subst cy
    refine exf_go 3 (show Go d true 154 119 [.ref 10, .int (nI 6)] [.int (rI h 39 7)] h Q from ?_)
    rw [show (rI h 39 7 : Int32) = nI (lO l) from cl_O cl]
    refine exf_go 1 (show ((nI (lO l)) = 0 → Go d true 154 126 [.ref 10, .int (nI 6)] [] h Q) ∧ (¬ ((nI (lO l)) = 0) → Go d true 154 122 [.ref 10, .int (nI 6)] [] h Q) from ⟨fun c2 => ?_, fun c2 => ?_⟩)
    · skip
      have c2 : (lO l) = 0 := (nI_eq (a := (lO l)) (b := 0) (by omega) (by omega)).mp c2
      refine exf_go 2 (show Q (.int 0) h from ?_)
      have kk : Q (.int (nI (lO l))) _ := k
      rw [show lO l = 0 from by omega] at kk; exact kk
    · skip
      have c2 : ¬ (lO l) = 0 := fun q => c2 ((nI_eq (a := (lO l)) (b := 0) (by omega) (by omega)).mpr q)
      refine exf_go 3 (show Q (.int 1) h from ?_)
      have kk : Q (.int (nI (lO l))) _ := k
      rw [show lO l = 1 from by omega] at kk; exact kk
  · skip
    have cy : x = nI 7 := ti_eq (by omega) c1
    subst cy
    refine exf_go 3 (show Go d true 154 135 [.ref 10, .int (nI 7)] [.int (rI h 39 3)] h Q from ?_)
    rw [show (rI h 39 3 : Int32) = nI (lA l) from cl_A cl]
    refine exf_go 1 (show Q (.int (nI (lA l))) h from ?_)
    exact k
  · skip
    have cy : x = nI 8 := ti_eq (by omega) c1
    subst cy
    refine exf_go 2 (show Go d true 154 140 [.ref 10, .int (nI 8)] [.int (rI h 10 1)] h Q from ?_)
    rw [show (rI h 10 1 : Int32) = nI np from hp]
    refine exf_go 1 (show Q (.int (nI np)) h from ?_)
    exact k
  · skip
    have cy : x = nI 9 := ti_eq (by omega) c1
    subst cy
    refine exf_go 3 (show Go d true 154 148 [.ref 10, .int (nI 9)] [.int (rI h 31 17)] h Q from ?_)
    rw [show (rI h 31 17 : Int32) = nI (sL g) from cs_L cs]
    refine exf_go 1 (show Q (.int (nI (sL g))) h from ?_)
    exact k
  · skip
    have cy : x = nI 10 := ti_eq (by omega) c1
    subst cy
    refine exf_go 3 (show Go d true 154 156 [.ref 10, .int (nI 10)] [.int (rI h 39 5)] h Q from ?_)
    rw [show (rI h 39 5 : Int32) = lG l from cl_G cl]
    refine exf_go 1 (show Q (.int (lG l)) h from ?_)
    exact k
  · skip
    have cy : x = nI 11 := ti_eq (by omega) c1
    subst cy
    refine exf_go 3 (show Go d true 154 164 [.ref 10, .int (nI 11)] [.int (rI h 39 6)] h Q from ?_)
    rw [show (rI h 39 6 : Int32) = nI (cntN (fun n => lT l n == 1) (tot g)) from cl_T cl]
    refine exf_go 1 (show Q (.int (nI (cntN (fun n => lT l n == 1) (tot g)))) h from ?_)
    exact k
theorem m_count {d : Nat} {h : Hp} {g : ShG} {l : LkG} {m np : Nat} {x : Int32} {Q : Po} (ms : MS g l h) (hm : rI h 131 371 = nI m) (hp : rI h 130 5 = nI np) (k : ∀ h1, Fq scM h h1 → Q (.int (fCount g l m np x)) h1) : wpC (d + 3) true 299 [.ref 130, .int x] h Q := by
  have hO1 := ms.1.2.2.1
  refine go_in rfl ?_
  refine exf_go 5 (show (x.toInt < 0 ∨ 11 < x.toInt → Go (d + 2) true 299 154 [.ref 130, .int x] [] (uI h 130 0 0) Q) ∧ (x.toInt = 0 → Go (d + 2) true 299 68 [.ref 130, .int x] [] (uI h 130 0 0) Q) ∧ (x.toInt = 1 → Go (d + 2) true 299 75 [.ref 130, .int x] [] (uI h 130 0 0) Q) ∧ (x.toInt = 2 → Go (d + 2) true 299 82 [.ref 130, .int x] [] (uI h 130 0 0) Q) ∧ (x.toInt = 3 → Go (d + 2) true 299 89 [.ref 130, .int x] [] (uI h 130 0 0) Q) ∧ (x.toInt = 4 → Go (d + 2) true 299 96 [.ref 130, .int x] [] (uI h 130 0 0) Q) ∧ (x.toInt = 5 → Go (d + 2) true 299 104 [.ref 130, .int x] [] (uI h 130 0 0) Q) ∧ (x.toInt = 6 → Go (d + 2) true 299 113 [.ref 130, .int x] [] (uI h 130 0 0) Q) ∧ (x.toInt = 7 → Go (d + 2) true 299 121 [.ref 130, .int x] [] (uI h 130 0 0) Q) ∧ (x.toInt = 8 → Go (d + 2) true 299 129 [.ref 130, .int x] [] (uI h 130 0 0) Q) ∧ (x.toInt = 9 → Go (d + 2) true 299 134 [.ref 130, .int x] [] (uI h 130 0 0) Q) ∧ (x.toInt = 10 → Go (d + 2) true 299 141 [.ref 130, .int x] [] (uI h 130 0 0) Q) ∧ (x.toInt = 11 → Go (d + 2) true 299 149 [.ref 130, .int x] [] (uI h 130 0 0) Q) ∧ True from ⟨fun c1 => ?_, fun c1 => ?_, fun c1 => ?_, fun c1 => ?_, fun c1 => ?_, fun c1 => ?_, fun c1 => ?_, fun c1 => ?_, fun c1 => ?_, fun c1 => ?_, fun c1 => ?_, fun c1 => ?_, fun c1 => ?_, trivial⟩)
  · skip
    refine exf_go 2 (show Q (.int (-1)) (uI h 130 0 0) from ?_)
    unfold fCount at k
    rw [if_neg (fun q => by subst q; exact absurd c1 (by decide)), if_neg (fun q => by subst q; exact absurd c1 (by decide)), if_neg (fun q => by subst q; exact absurd c1 (by decide)), if_neg (fun q => by subst q; exact absurd c1 (by decide)), if_neg (fun q => by subst q; exact absurd c1 (by decide)), if_neg (fun q => by subst q; exact absurd c1 (by decide)), if_neg (fun q => by subst q; exact absurd c1 (by decide)), if_neg (fun q => by subst q; exact absurd c1 (by decide)), if_neg (fun q => by subst q; exact absurd c1 (by decide)), if_neg (fun q => by subst q; exact absurd c1 (by decide)), if_neg (fun q => by subst q; exact absurd c1 (by decide)), if_neg (fun q => by subst q; exact absurd c1 (by decide))] at k
    exact k _ (Fq.uI' Fq.rfl' _ _ _ rfl)
  · skip
    have cy : x = nI 0 := ti_eq (by omega) c1
    subst cy
    refine exf_go 4 (show vp_in 1 41523 ∧ (Go (d + 2) true 299 74 [.ref 130, .int (nI 0)] [.int (rI h 131 1)] (uI h 130 0 0) Q) from ⟨(vp_in_nI (n := 1) (by decide) (by decide)), ?_⟩)
    rw [show (rI h 131 1 : Int32) = nI (sW g) from ms_W ms]
    refine exf_go 1 (show Q (.int (nI (sW g))) (uI h 130 0 0) from ?_)
    exact k _ (Fq.uI' Fq.rfl' _ _ _ rfl)
  · skip
    have cy : x = nI 1 := ti_eq (by omega) c1
    subst cy
    refine exf_go 4 (show vp_in 4 41523 ∧ (Go (d + 2) true 299 81 [.ref 130, .int (nI 1)] [.int (rI h 131 4)] (uI h 130 0 0) Q) from ⟨(vp_in_nI (n := 4) (by decide) (by decide)), ?_⟩)
    rw [show (rI h 131 4 : Int32) = nI (tot g) from ms_N ms]
    refine exf_go 1 (show Q (.int (nI (tot g))) (uI h 130 0 0) from ?_)
    exact k _ (Fq.uI' Fq.rfl' _ _ _ rfl)
  · skip
    have cy : x = nI 2 := ti_eq (by omega) c1
    subst cy
    refine exf_go 4 (show vp_in 2 41523 ∧ (Go (d + 2) true 299 88 [.ref 130, .int (nI 2)] [.int (rI h 131 2)] (uI h 130 0 0) Q) from ⟨(vp_in_nI (n := 2) (by decide) (by decide)), ?_⟩)
    rw [show (rI h 131 2 : Int32) = nI (sC g) from ms_C ms]
    refine exf_go 1 (show Q (.int (nI (sC g))) (uI h 130 0 0) from ?_)
    exact k _ (Fq.uI' Fq.rfl' _ _ _ rfl)
  · skip
    have cy : x = nI 3 := ti_eq (by omega) c1
    subst cy
    refine exf_go 4 (show vp_in 3 41523 ∧ (Go (d + 2) true 299 95 [.ref 130, .int (nI 3)] [.int (rI h 131 3)] (uI h 130 0 0) Q) from ⟨(vp_in_nI (n := 3) (by decide) (by decide)), ?_⟩)
    rw [show (rI h 131 3 : Int32) = nI (sM g) from ms_M ms]
    refine exf_go 1 (show Q (.int (nI (sM g))) (uI h 130 0 0) from ?_)
    exact k _ (Fq.uI' Fq.rfl' _ _ _ rfl)
  · skip
    have cy : x = nI 4 := ti_eq (by omega) c1
    subst cy
    refine exf_go 4 (show vp_in 51 41523 ∧ (Go (d + 2) true 299 103 [.ref 130, .int (nI 4)] [.int (rI h 131 51)] (uI h 130 0 0) Q) from ⟨(vp_in_nI (n := 51) (by decide) (by decide)), ?_⟩)
    rw [show (rI h 131 51 : Int32) = lX l from ms_X ms]
    refine exf_go 1 (show Q (.int (lX l)) (uI h 130 0 0) from ?_)
    exact k _ (Fq.uI' Fq.rfl' _ _ _ rfl)
  · skip
    have cy : x = nI 5 := ti_eq (by omega) c1
    subst cy
    refine exf_go 4 (show vp_in 371 41523 ∧ (Go (d + 2) true 299 112 [.ref 130, .int (nI 5)] [.int (rI h 131 371)] (uI h 130 0 0) Q) from ⟨(vp_in_nI (n := 371) (by decide) (by decide)), ?_⟩)
    rw [show (rI h 131 371 : Int32) = nI m from hm]
    refine exf_go 1 (show Q (.int (nI m)) (uI h 130 0 0) from ?_)
    exact k _ (Fq.uI' Fq.rfl' _ _ _ rfl)
  · skip
    have cy : x = nI 6 := ti_eq (by omega) c1
    subst cy
    refine exf_go 4 (show vp_in 53 41523 ∧ (Go (d + 2) true 299 120 [.ref 130, .int (nI 6)] [.int (rI h 131 53)] (uI h 130 0 0) Q) from ⟨(vp_in_nI (n := 53) (by decide) (by decide)), ?_⟩)
    rw [show (rI h 131 53 : Int32) = nI (lO l) from ms_Op ms]
    refine exf_go 1 (show Q (.int (nI (lO l))) (uI h 130 0 0) from ?_)
    exact k _ (Fq.uI' Fq.rfl' _ _ _ rfl)
  · skip
    have cy : x = nI 7 := ti_eq (by omega) c1
    subst cy
    refine exf_go 4 (show vp_in 50 41523 ∧ (Go (d + 2) true 299 128 [.ref 130, .int (nI 7)] [.int (rI h 131 50)] (uI h 130 0 0) Q) from ⟨(vp_in_nI (n := 50) (by decide) (by decide)), ?_⟩)
    rw [show (rI h 131 50 : Int32) = nI (lA l) from ms_A ms]
    refine exf_go 1 (show Q (.int (nI (lA l))) (uI h 130 0 0) from ?_)
    exact k _ (Fq.uI' Fq.rfl' _ _ _ rfl)
  · skip
    have cy : x = nI 8 := ti_eq (by omega) c1
    subst cy
    refine exf_go 2 (show Go (d + 2) true 299 133 [.ref 130, .int (nI 8)] [.int (rI h 130 5)] (uI h 130 0 0) Q from ?_)
    rw [show (rI h 130 5 : Int32) = nI np from hp]
    refine exf_go 1 (show Q (.int (nI np)) (uI h 130 0 0) from ?_)
    exact k _ (Fq.uI' Fq.rfl' _ _ _ rfl)
  · skip
    have cy : x = nI 9 := ti_eq (by omega) c1
    subst cy
    refine exf_go 4 (show vp_in 0 41523 ∧ (Go (d + 2) true 299 140 [.ref 130, .int (nI 9)] [.int (rI h 131 0)] (uI h 130 0 0) Q) from ⟨(vp_in_nI (n := 0) (by decide) (by decide)), ?_⟩)
    rw [show (rI h 131 0 : Int32) = nI (sL g) from ms_L ms]
    refine exf_go 1 (show Q (.int (nI (sL g))) (uI h 130 0 0) from ?_)
    exact k _ (Fq.uI' Fq.rfl' _ _ _ rfl)
  · skip
    have cy : x = nI 10 := ti_eq (by omega) c1
    subst cy
    refine exf_go 4 (show vp_in 52 41523 ∧ (Go (d + 2) true 299 148 [.ref 130, .int (nI 10)] [.int (rI h 131 52)] (uI h 130 0 0) Q) from ⟨(vp_in_nI (n := 52) (by decide) (by decide)), ?_⟩)
    rw [show (rI h 131 52 : Int32) = lG l from ms_G ms]
    refine exf_go 1 (show Q (.int (lG l)) (uI h 130 0 0) from ?_)
    exact k _ (Fq.uI' Fq.rfl' _ _ _ rfl)
  · skip
    have cy : x = nI 11 := ti_eq (by omega) c1
    subst cy
    refine exf_go 2 (show wpC (d + 2) true 298 [.ref 130] (uI h 130 0 0) (fun r h' => Go (d + 2) true 299 153 [.ref 130, .int (nI 11)] [r] h' Q) from ?_)
    refine m_triedMany (ms_fq ms (Fq.uI' Fq.rfl' _ _ _ rfl)) ?_
    show Go (d + 2) true 299 153 [.ref 130, .int (nI 11)] [.int (nI (cntN (fun n => lT l n == 1) (tot g)))] (uI h 130 0 0) Q
    refine exf_go 1 (show Q (.int (nI (cntN (fun n => lT l n == 1) (tot g)))) (uI h 130 0 0) from ?_)
    exact k _ (Fq.uI' Fq.rfl' _ _ _ rfl)
theorem c_fault {d : Nat} {h : Hp} {f : Nat} {pl : Option Nat} {x : Int32} {Q : Po} (hf : rI h 16 0 = nI f) (hp : rI h 16 1 = oI pl) (k : Q (.int (fFault f pl x)) h) : wpC (d + 1) true 114 [.ref 10, .int x] h Q := by
  refine go_in rfl ?_
  refine exf_go 2 (show (¬ x = 0 → Go d true 114 12 [.ref 10, .int x] [] h Q) ∧ (¬ (¬ x = 0) → Go d true 114 4 [.ref 10, .int x] [] h Q) from ⟨fun c1 => ?_, fun c1 => ?_⟩)
  · skip
    refine exf_go 3 (show (¬ x = 1 → Go d true 114 27 [.ref 10, .int x] [] h Q) ∧ (¬ (¬ x = 1) → Go d true 114 17 [.ref 10, .int x] [] h Q) from ⟨fun c2 => ?_, fun c2 => ?_⟩)
    · skip
      refine exf_go 2 (show Q (.int (-1)) h from ?_)
      rw [fFault, if_neg c1, if_neg c2] at k; exact k
    · skip
      refine exf_go 3 (show Go d true 114 24 [.ref 10, .int x] [.int (rI h 16 1)] h Q from ?_)
      rw [show (rI h 16 1 : Int32) = oI pl from hp]
      refine exf_go 2 (show Q (.int (oI pl)) h from ?_)
      rw [fFault, if_neg c1, if_pos (Classical.not_not.mp c2)] at k; exact k
  · skip
    refine exf_go 3 (show Go d true 114 11 [.ref 10, .int x] [.int (rI h 16 0)] h Q from ?_)
    rw [show (rI h 16 0 : Int32) = nI f from hf]
    refine exf_go 1 (show Q (.int (nI f)) h from ?_)
    rw [fFault, if_pos (Classical.not_not.mp c1)] at k; exact k
theorem m_fault {d : Nat} {h : Hp} {f : Nat} {pl : Option Nat} {x : Int32} {Q : Po} (hf : rI h 130 13 = nI f) (hp : rI h 130 14 = oI pl) (k : ∀ h1, Fq scM h h1 → Q (.int (fFault f pl x)) h1) : wpC (d + 1) true 217 [.ref 130, .int x] h Q := by
  refine go_in rfl ?_
  refine exf_go 5 (show (¬ x = 0 → Go d true 217 16 [.ref 130, .int x] [] (uI h 130 0 0) Q) ∧ (¬ (¬ x = 0) → Go d true 217 9 [.ref 130, .int x] [] (uI h 130 0 0) Q) from ⟨fun c1 => ?_, fun c1 => ?_⟩)
  · skip
    refine exf_go 3 (show (¬ x = 1 → Go d true 217 28 [.ref 130, .int x] [] (uI h 130 0 0) Q) ∧ (¬ (¬ x = 1) → Go d true 217 21 [.ref 130, .int x] [] (uI h 130 0 0) Q) from ⟨fun c2 => ?_, fun c2 => ?_⟩)
    · skip
      refine exf_go 2 (show Q (.int (-1)) (uI h 130 0 0) from ?_)
      rw [fFault, if_neg c1, if_neg c2] at k; exact k _ (Fq.uI' Fq.rfl' _ _ _ rfl)
    · skip
      refine exf_go 2 (show Go d true 217 25 [.ref 130, .int x] [.int (rI h 130 14)] (uI h 130 0 0) Q from ?_)
      rw [show (rI h 130 14 : Int32) = oI pl from hp]
      refine exf_go 2 (show Q (.int (oI pl)) (uI h 130 0 0) from ?_)
      rw [fFault, if_neg c1, if_pos (Classical.not_not.mp c2)] at k; exact k _ (Fq.uI' Fq.rfl' _ _ _ rfl)
  · skip
    refine exf_go 2 (show Go d true 217 13 [.ref 130, .int x] [.int (rI h 130 13)] (uI h 130 0 0) Q from ?_)
    rw [show (rI h 130 13 : Int32) = nI f from hf]
    refine exf_go 2 (show Q (.int (nI f)) (uI h 130 0 0) from ?_)
    rw [fFault, if_pos (Classical.not_not.mp c1)] at k; exact k _ (Fq.uI' Fq.rfl' _ _ _ rfl)
