/-! The class: a code is applied, second part. -/
theorem c_apply0 {d : Nat} {h : Hp} {l : List Int32} {m : Nat} {Q : Po} {x : Nat} (hx : x < 1000) (hm : m < 64) (ck : CK l m h) (k : ∀ h1, Fq sSt h h1 → CK (nI x :: l) (m + 1) h1 → Q mk_ h1) : wpC (d + 4) true 7 [.ref 17, .int 0, .int (nI x)] h Q := by
  refine go_in rfl ?_
  refine exf_go 2 (show ((0 : Int32).toInt < 0 ∨ 6 < (0 : Int32).toInt → Go (d + 3) true 7 145 [.ref 17, .int 0, .int (nI x), mk_, mk_] [] h Q) ∧ ((0 : Int32).toInt = 0 → Go (d + 3) true 7 44 [.ref 17, .int 0, .int (nI x), mk_, mk_] [] h Q) ∧ ((0 : Int32).toInt = 1 → Go (d + 3) true 7 52 [.ref 17, .int 0, .int (nI x), mk_, mk_] [] h Q) ∧ ((0 : Int32).toInt = 2 → Go (d + 3) true 7 78 [.ref 17, .int 0, .int (nI x), mk_, mk_] [] h Q) ∧ ((0 : Int32).toInt = 3 → Go (d + 3) true 7 93 [.ref 17, .int 0, .int (nI x), mk_, mk_] [] h Q) ∧ ((0 : Int32).toInt = 4 → Go (d + 3) true 7 104 [.ref 17, .int 0, .int (nI x), mk_, mk_] [] h Q) ∧ ((0 : Int32).toInt = 5 → Go (d + 3) true 7 115 [.ref 17, .int 0, .int (nI x), mk_, mk_] [] h Q) ∧ ((0 : Int32).toInt = 6 → Go (d + 3) true 7 126 [.ref 17, .int 0, .int (nI x), mk_, mk_] [] h Q) ∧ True from ⟨fun c1 => ?_, fun c1 => ?_, fun c1 => ?_, fun c1 => ?_, fun c1 => ?_, fun c1 => ?_, fun c1 => ?_, fun c1 => ?_, trivial⟩)
  · skip
    exact absurd c1 (by decide)
  · skip
    refine exf_go 3 (show wpC (d + 3) true 10 [.ref 17, .int (nI x)] h (fun _ h' => Go (d + 3) true 7 49 [.ref 17, .int 0, .int (nI x), mk_, mk_] [] h' Q) from ?_)
    refine c_pushV ck (by omega) (fun h1 q1 ck1 => ?_)
    show Go (d + 3) true 7 49 [.ref 17, .int 0, .int (nI x), mk_, mk_] [] h1 Q
    refine exf_go 2 (show Q (mk_) h1 from ?_)
    exact k _ q1 ck1
  · skip
    exact absurd c1 (by decide)
  · skip
    exact absurd c1 (by decide)
  · skip
    exact absurd c1 (by decide)
  · skip
    exact absurd c1 (by decide)
  · skip
    exact absurd c1 (by decide)
  · skip
    exact absurd c1 (by decide)
theorem c_apply1 {d : Nat} {h : Hp} {l : List Int32} {m : Nat} {Q : Po} {f : Nat → Nat} {W nn : Nat} (ce : CE f W nn h) (hm : m < 64) {x : Nat} (hx : x < W) (ck : CK l m h) (k : ∀ h1, Fq sSt h h1 → CK (nI (f x) :: l) (m + 1) h1 → Q mk_ h1) : wpC (d + 4) true 7 [.ref 17, .int 1, .int (nI x)] h Q := by
  have hW4 := ce.1.1
  refine go_in rfl ?_
  refine exf_go 2 (show ((1 : Int32).toInt < 0 ∨ 6 < (1 : Int32).toInt → Go (d + 3) true 7 145 [.ref 17, .int 1, .int (nI x), mk_, mk_] [] h Q) ∧ ((1 : Int32).toInt = 0 → Go (d + 3) true 7 44 [.ref 17, .int 1, .int (nI x), mk_, mk_] [] h Q) ∧ ((1 : Int32).toInt = 1 → Go (d + 3) true 7 52 [.ref 17, .int 1, .int (nI x), mk_, mk_] [] h Q) ∧ ((1 : Int32).toInt = 2 → Go (d + 3) true 7 78 [.ref 17, .int 1, .int (nI x), mk_, mk_] [] h Q) ∧ ((1 : Int32).toInt = 3 → Go (d + 3) true 7 93 [.ref 17, .int 1, .int (nI x), mk_, mk_] [] h Q) ∧ ((1 : Int32).toInt = 4 → Go (d + 3) true 7 104 [.ref 17, .int 1, .int (nI x), mk_, mk_] [] h Q) ∧ ((1 : Int32).toInt = 5 → Go (d + 3) true 7 115 [.ref 17, .int 1, .int (nI x), mk_, mk_] [] h Q) ∧ ((1 : Int32).toInt = 6 → Go (d + 3) true 7 126 [.ref 17, .int 1, .int (nI x), mk_, mk_] [] h Q) ∧ True from ⟨fun c1 => ?_, fun c1 => ?_, fun c1 => ?_, fun c1 => ?_, fun c1 => ?_, fun c1 => ?_, fun c1 => ?_, fun c1 => ?_, trivial⟩)
  · skip
    exact absurd c1 (by decide)
  · skip
    exact absurd c1 (by decide)
  · skip
    refine exf_go 3 (show ((nI x) < 0 → Go (d + 3) true 7 71 [.ref 17, .int 1, .int (nI x), mk_, mk_] [.ref 17] h Q) ∧ (¬ ((nI x) < 0) → Go (d + 3) true 7 57 [.ref 17, .int 1, .int (nI x), mk_, mk_] [.ref 17] h Q) from ⟨fun c2 => ?_, fun c2 => ?_⟩)
    · skip
      have c2 : x < 0 := (nI_ltI (a := x) (b := 0) (by omega) (by omega)).mp c2
      exfalso; omega
    · skip
      have c2 : ¬ x < 0 := fun q => c2 ((nI_ltI (a := x) (b := 0) (by omega) (by omega)).mpr q)
      refine exf_go 3 (show (4 ≤ (nI x) → Go (d + 3) true 7 71 [.ref 17, .int 1, .int (nI x), mk_, mk_] [.ref 17] h Q) ∧ (¬ (4 ≤ (nI x)) → Go (d + 3) true 7 62 [.ref 17, .int 1, .int (nI x), mk_, mk_] [.ref 17] h Q) from ⟨fun c3 => ?_, fun c3 => ?_⟩)
      · skip
        have c3 : 4 ≤ x := (nI_leI (a := 4) (b := x) (by omega) (by omega)).mp c3
        exfalso; omega
      · skip
        have c3 : ¬ 4 ≤ x := fun q => c3 ((nI_leI (a := 4) (b := x) (by omega) (by omega)).mpr q)
        refine exf_go 4 (show vp_in (nI x) 4 ∧ (Go (d + 3) true 7 68 [.ref 17, .int 1, .int (nI x), mk_, mk_] [.int (rI h 22 ((nI x).toNatClampNeg)), .ref 17] h Q) from ⟨(vp_in_nI (by omega) (by omega)), ?_⟩)
        rw [show (rI h 22 ((nI x).toNatClampNeg) : Int32) = nI (f x) from by rw [nI_clamp (by omega)]; exact ce.2.2 _ (by omega)]
        refine exf_go 2 (show wpC (d + 3) true 10 [.ref 17, .int (nI (f x))] h (fun _ h' => Go (d + 3) true 7 75 [.ref 17, .int 1, .int (nI x), mk_, mk_] [] h' Q) from ?_)
        refine c_pushV ck (by omega) (fun h1 q1 ck1 => ?_)
        show Go (d + 3) true 7 75 [.ref 17, .int 1, .int (nI x), mk_, mk_] [] h1 Q
        refine exf_go 2 (show Q (mk_) h1 from ?_)
        exact k _ q1 ck1
  · skip
    exact absurd c1 (by decide)
  · skip
    exact absurd c1 (by decide)
  · skip
    exact absurd c1 (by decide)
  · skip
    exact absurd c1 (by decide)
  · skip
    exact absurd c1 (by decide)
theorem c_apply2 {d : Nat} {h : Hp} {l : List Int32} {m : Nat} {Q : Po} {f : Nat → Nat} {W nn : Nat} (ce : CE f W nn h) (hm : m < 64) {x : Nat} (hx : x < 10) (ck : CK l m h) (k : ∀ h1, Fq sSt h h1 → CK (nI (hsN f x W) :: l) (m + 1) h1 → Q mk_ h1) : wpC (d + 4) true 7 [.ref 17, .int 2, .int (nI x)] h Q := by
  have hse := se_b ce.1.2 W
  rw [← se_hs] at k
  refine go_in rfl ?_
  refine exf_go 2 (show ((2 : Int32).toInt < 0 ∨ 6 < (2 : Int32).toInt → Go (d + 3) true 7 145 [.ref 17, .int 2, .int (nI x), mk_, mk_] [] h Q) ∧ ((2 : Int32).toInt = 0 → Go (d + 3) true 7 44 [.ref 17, .int 2, .int (nI x), mk_, mk_] [] h Q) ∧ ((2 : Int32).toInt = 1 → Go (d + 3) true 7 52 [.ref 17, .int 2, .int (nI x), mk_, mk_] [] h Q) ∧ ((2 : Int32).toInt = 2 → Go (d + 3) true 7 78 [.ref 17, .int 2, .int (nI x), mk_, mk_] [] h Q) ∧ ((2 : Int32).toInt = 3 → Go (d + 3) true 7 93 [.ref 17, .int 2, .int (nI x), mk_, mk_] [] h Q) ∧ ((2 : Int32).toInt = 4 → Go (d + 3) true 7 104 [.ref 17, .int 2, .int (nI x), mk_, mk_] [] h Q) ∧ ((2 : Int32).toInt = 5 → Go (d + 3) true 7 115 [.ref 17, .int 2, .int (nI x), mk_, mk_] [] h Q) ∧ ((2 : Int32).toInt = 6 → Go (d + 3) true 7 126 [.ref 17, .int 2, .int (nI x), mk_, mk_] [] h Q) ∧ True from ⟨fun c1 => ?_, fun c1 => ?_, fun c1 => ?_, fun c1 => ?_, fun c1 => ?_, fun c1 => ?_, fun c1 => ?_, fun c1 => ?_, trivial⟩)
  · skip
    exact absurd c1 (by decide)
  · skip
    exact absurd c1 (by decide)
  · skip
    exact absurd c1 (by decide)
  · skip
    refine exf_go 3 (show Go (d + 3) true 7 83 [.ref 17, .int 2, .int (nI x), mk_, mk_] [.int (rI h 17 11), .ref 17] h Q from ?_)
    rw [show (rI h 17 11 : Int32) = nI (seN f W) from ce.2.1.2.2.2]
    refine exf_go 2 (show Go (d + 3) true 7 85 [.ref 17, .int 2, .int (nI x), mk_, mk_] [.int ((nI (seN f W)) >>> ((nI x) &&& 31)), .ref 17] h Q from ?_)
    rw [show ((nI (seN f W)) >>> ((nI x) &&& 31) : Int32) = nI (seN f W / 2 ^ x) from nI_shr (a := seN f W) (k := x) (by omega) (by omega)]
    refine exf_go 2 (show Go (d + 3) true 7 87 [.ref 17, .int 2, .int (nI x), mk_, mk_] [.int ((nI (seN f W / 2 ^ x)) &&& 1), .ref 17] h Q from ?_)
    rw [show ((nI (seN f W / 2 ^ x)) &&& 1 : Int32) = nI (btn (seN f W) x) from nI_low1 (Nat.lt_of_le_of_lt (Nat.div_le_self _ _) (by omega))]
    refine exf_go 1 (show wpC (d + 3) true 10 [.ref 17, .int (nI (btn (seN f W) x))] h (fun _ h' => Go (d + 3) true 7 90 [.ref 17, .int 2, .int (nI x), mk_, mk_] [] h' Q) from ?_)
    refine c_pushV ck (by omega) (fun h1 q1 ck1 => ?_)
    show Go (d + 3) true 7 90 [.ref 17, .int 2, .int (nI x), mk_, mk_] [] h1 Q
    refine exf_go 2 (show Q (mk_) h1 from ?_)
    exact k _ q1 ck1
  · skip
    exact absurd c1 (by decide)
  · skip
    exact absurd c1 (by decide)
  · skip
    exact absurd c1 (by decide)
  · skip
    exact absurd c1 (by decide)
theorem c_apply3 {d : Nat} {h : Hp} {l : List Int32} {m : Nat} {Q : Po} {f : Nat → Nat} {W nn : Nat} (ce : CE f W nn h) (hm : m < 64) {y : Int32} (ck : CK l m h) (k : ∀ h1, Fq sSt h h1 → CK (nI (sumN f W) :: l) (m + 1) h1 → Q mk_ h1) : wpC (d + 4) true 7 [.ref 17, .int 3, .int y] h Q := by
  refine go_in rfl ?_
  refine exf_go 2 (show ((3 : Int32).toInt < 0 ∨ 6 < (3 : Int32).toInt → Go (d + 3) true 7 145 [.ref 17, .int 3, .int y, mk_, mk_] [] h Q) ∧ ((3 : Int32).toInt = 0 → Go (d + 3) true 7 44 [.ref 17, .int 3, .int y, mk_, mk_] [] h Q) ∧ ((3 : Int32).toInt = 1 → Go (d + 3) true 7 52 [.ref 17, .int 3, .int y, mk_, mk_] [] h Q) ∧ ((3 : Int32).toInt = 2 → Go (d + 3) true 7 78 [.ref 17, .int 3, .int y, mk_, mk_] [] h Q) ∧ ((3 : Int32).toInt = 3 → Go (d + 3) true 7 93 [.ref 17, .int 3, .int y, mk_, mk_] [] h Q) ∧ ((3 : Int32).toInt = 4 → Go (d + 3) true 7 104 [.ref 17, .int 3, .int y, mk_, mk_] [] h Q) ∧ ((3 : Int32).toInt = 5 → Go (d + 3) true 7 115 [.ref 17, .int 3, .int y, mk_, mk_] [] h Q) ∧ ((3 : Int32).toInt = 6 → Go (d + 3) true 7 126 [.ref 17, .int 3, .int y, mk_, mk_] [] h Q) ∧ True from ⟨fun c1 => ?_, fun c1 => ?_, fun c1 => ?_, fun c1 => ?_, fun c1 => ?_, fun c1 => ?_, fun c1 => ?_, fun c1 => ?_, trivial⟩)
  · skip
    exact absurd c1 (by decide)
  · skip
    exact absurd c1 (by decide)
  · skip
    exact absurd c1 (by decide)
  · skip
    exact absurd c1 (by decide)
  · skip
    refine exf_go 3 (show Go (d + 3) true 7 98 [.ref 17, .int 3, .int y, mk_, mk_] [.int (rI h 17 9), .ref 17] h Q from ?_)
    rw [show (rI h 17 9 : Int32) = nI (sumN f W) from ce.2.1.2.1]
    refine exf_go 1 (show wpC (d + 3) true 10 [.ref 17, .int (nI (sumN f W))] h (fun _ h' => Go (d + 3) true 7 101 [.ref 17, .int 3, .int y, mk_, mk_] [] h' Q) from ?_)
    refine c_pushV ck (by omega) (fun h1 q1 ck1 => ?_)
    show Go (d + 3) true 7 101 [.ref 17, .int 3, .int y, mk_, mk_] [] h1 Q
    refine exf_go 2 (show Q (mk_) h1 from ?_)
    exact k _ q1 ck1
  · skip
    exact absurd c1 (by decide)
  · skip
    exact absurd c1 (by decide)
  · skip
    exact absurd c1 (by decide)
theorem c_apply4 {d : Nat} {h : Hp} {l : List Int32} {m : Nat} {Q : Po} {f : Nat → Nat} {W nn : Nat} (ce : CE f W nn h) (hm : m < 64) {y : Int32} (ck : CK l m h) (k : ∀ h1, Fq sSt h h1 → CK (nI (alk f W) :: l) (m + 1) h1 → Q mk_ h1) : wpC (d + 4) true 7 [.ref 17, .int 4, .int y] h Q := by
  refine go_in rfl ?_
  refine exf_go 2 (show ((4 : Int32).toInt < 0 ∨ 6 < (4 : Int32).toInt → Go (d + 3) true 7 145 [.ref 17, .int 4, .int y, mk_, mk_] [] h Q) ∧ ((4 : Int32).toInt = 0 → Go (d + 3) true 7 44 [.ref 17, .int 4, .int y, mk_, mk_] [] h Q) ∧ ((4 : Int32).toInt = 1 → Go (d + 3) true 7 52 [.ref 17, .int 4, .int y, mk_, mk_] [] h Q) ∧ ((4 : Int32).toInt = 2 → Go (d + 3) true 7 78 [.ref 17, .int 4, .int y, mk_, mk_] [] h Q) ∧ ((4 : Int32).toInt = 3 → Go (d + 3) true 7 93 [.ref 17, .int 4, .int y, mk_, mk_] [] h Q) ∧ ((4 : Int32).toInt = 4 → Go (d + 3) true 7 104 [.ref 17, .int 4, .int y, mk_, mk_] [] h Q) ∧ ((4 : Int32).toInt = 5 → Go (d + 3) true 7 115 [.ref 17, .int 4, .int y, mk_, mk_] [] h Q) ∧ ((4 : Int32).toInt = 6 → Go (d + 3) true 7 126 [.ref 17, .int 4, .int y, mk_, mk_] [] h Q) ∧ True from ⟨fun c1 => ?_, fun c1 => ?_, fun c1 => ?_, fun c1 => ?_, fun c1 => ?_, fun c1 => ?_, fun c1 => ?_, fun c1 => ?_, trivial⟩)
  · skip
    exact absurd c1 (by decide)
  · skip
    exact absurd c1 (by decide)
  · skip
    exact absurd c1 (by decide)
  · skip
    exact absurd c1 (by decide)
  · skip
    exact absurd c1 (by decide)
  · skip
    refine exf_go 3 (show Go (d + 3) true 7 109 [.ref 17, .int 4, .int y, mk_, mk_] [.int (rI h 17 10), .ref 17] h Q from ?_)
    rw [show (rI h 17 10 : Int32) = nI (alk f W) from ce.2.1.2.2.1]
    refine exf_go 1 (show wpC (d + 3) true 10 [.ref 17, .int (nI (alk f W))] h (fun _ h' => Go (d + 3) true 7 112 [.ref 17, .int 4, .int y, mk_, mk_] [] h' Q) from ?_)
    refine c_pushV ck (by omega) (fun h1 q1 ck1 => ?_)
    show Go (d + 3) true 7 112 [.ref 17, .int 4, .int y, mk_, mk_] [] h1 Q
    refine exf_go 2 (show Q (mk_) h1 from ?_)
    exact k _ q1 ck1
  · skip
    exact absurd c1 (by decide)
  · skip
    exact absurd c1 (by decide)
theorem c_apply5 {d : Nat} {h : Hp} {l : List Int32} {m : Nat} {Q : Po} {f : Nat → Nat} {W nn : Nat} (ce : CE f W nn h) (hm : m < 64) {y : Int32} (ck : CK l m h) (k : ∀ h1, Fq sSt h h1 → CK (nI nn :: l) (m + 1) h1 → Q mk_ h1) : wpC (d + 4) true 7 [.ref 17, .int 5, .int y] h Q := by
  refine go_in rfl ?_
  refine exf_go 2 (show ((5 : Int32).toInt < 0 ∨ 6 < (5 : Int32).toInt → Go (d + 3) true 7 145 [.ref 17, .int 5, .int y, mk_, mk_] [] h Q) ∧ ((5 : Int32).toInt = 0 → Go (d + 3) true 7 44 [.ref 17, .int 5, .int y, mk_, mk_] [] h Q) ∧ ((5 : Int32).toInt = 1 → Go (d + 3) true 7 52 [.ref 17, .int 5, .int y, mk_, mk_] [] h Q) ∧ ((5 : Int32).toInt = 2 → Go (d + 3) true 7 78 [.ref 17, .int 5, .int y, mk_, mk_] [] h Q) ∧ ((5 : Int32).toInt = 3 → Go (d + 3) true 7 93 [.ref 17, .int 5, .int y, mk_, mk_] [] h Q) ∧ ((5 : Int32).toInt = 4 → Go (d + 3) true 7 104 [.ref 17, .int 5, .int y, mk_, mk_] [] h Q) ∧ ((5 : Int32).toInt = 5 → Go (d + 3) true 7 115 [.ref 17, .int 5, .int y, mk_, mk_] [] h Q) ∧ ((5 : Int32).toInt = 6 → Go (d + 3) true 7 126 [.ref 17, .int 5, .int y, mk_, mk_] [] h Q) ∧ True from ⟨fun c1 => ?_, fun c1 => ?_, fun c1 => ?_, fun c1 => ?_, fun c1 => ?_, fun c1 => ?_, fun c1 => ?_, fun c1 => ?_, trivial⟩)
  · skip
    exact absurd c1 (by decide)
  · skip
    exact absurd c1 (by decide)
  · skip
    exact absurd c1 (by decide)
  · skip
    exact absurd c1 (by decide)
  · skip
    exact absurd c1 (by decide)
  · skip
    exact absurd c1 (by decide)
  · skip
    refine exf_go 3 (show Go (d + 3) true 7 120 [.ref 17, .int 5, .int y, mk_, mk_] [.int (rI h 17 8), .ref 17] h Q from ?_)
    rw [show (rI h 17 8 : Int32) = nI nn from ce.2.1.1]
    refine exf_go 1 (show wpC (d + 3) true 10 [.ref 17, .int (nI nn)] h (fun _ h' => Go (d + 3) true 7 123 [.ref 17, .int 5, .int y, mk_, mk_] [] h' Q) from ?_)
    refine c_pushV ck (by omega) (fun h1 q1 ck1 => ?_)
    show Go (d + 3) true 7 123 [.ref 17, .int 5, .int y, mk_, mk_] [] h1 Q
    refine exf_go 2 (show Q (mk_) h1 from ?_)
    exact k _ q1 ck1
  · skip
    exact absurd c1 (by decide)
theorem c_apply6 {d : Nat} {h : Hp} {x y : Int32} {r : List Int32} {m : Nat} {Q : Po} (hx : b01 x) (hm : m ≤ 64) (ck : CK (x :: r) m h) (k : ∀ h1, Fq sSt h h1 → CK ((1 - x) :: r) m h1 → Q mk_ h1) : wpC (d + 4) true 7 [.ref 17, .int 6, .int y] h Q := by
  have hq1 : r.length + 1 = m := ck.1.1
  refine go_in rfl ?_
  refine exf_go 2 (show ((6 : Int32).toInt < 0 ∨ 6 < (6 : Int32).toInt → Go (d + 3) true 7 145 [.ref 17, .int 6, .int y, mk_, mk_] [] h Q) ∧ ((6 : Int32).toInt = 0 → Go (d + 3) true 7 44 [.ref 17, .int 6, .int y, mk_, mk_] [] h Q) ∧ ((6 : Int32).toInt = 1 → Go (d + 3) true 7 52 [.ref 17, .int 6, .int y, mk_, mk_] [] h Q) ∧ ((6 : Int32).toInt = 2 → Go (d + 3) true 7 78 [.ref 17, .int 6, .int y, mk_, mk_] [] h Q) ∧ ((6 : Int32).toInt = 3 → Go (d + 3) true 7 93 [.ref 17, .int 6, .int y, mk_, mk_] [] h Q) ∧ ((6 : Int32).toInt = 4 → Go (d + 3) true 7 104 [.ref 17, .int 6, .int y, mk_, mk_] [] h Q) ∧ ((6 : Int32).toInt = 5 → Go (d + 3) true 7 115 [.ref 17, .int 6, .int y, mk_, mk_] [] h Q) ∧ ((6 : Int32).toInt = 6 → Go (d + 3) true 7 126 [.ref 17, .int 6, .int y, mk_, mk_] [] h Q) ∧ True from ⟨fun c1 => ?_, fun c1 => ?_, fun c1 => ?_, fun c1 => ?_, fun c1 => ?_, fun c1 => ?_, fun c1 => ?_, fun c1 => ?_, trivial⟩)
  · skip
    exact absurd c1 (by decide)
  · skip
    exact absurd c1 (by decide)
  · skip
    exact absurd c1 (by decide)
  · skip
    exact absurd c1 (by decide)
  · skip
    exact absurd c1 (by decide)
  · skip
    exact absurd c1 (by decide)
  · skip
    exact absurd c1 (by decide)
  · skip
    refine exf_go 3 (show wpC (d + 3) true 11 [.ref 17] h (fun r h' => Go (d + 3) true 7 131 [.ref 17, .int 6, .int y, mk_, mk_] [r, .ref 17] h' Q) from ?_)
    refine c_popV ck (by omega) (fun h1 q1 ck1 => ?_)
    show Go (d + 3) true 7 131 [.ref 17, .int 6, .int y, mk_, mk_] [.int x, .ref 17] h1 Q
    refine exf_go 1 (show (¬ x = 0 → Go (d + 3) true 7 138 [.ref 17, .int 6, .int y, mk_, mk_] [.ref 17] h1 Q) ∧ (¬ (¬ x = 0) → Go (d + 3) true 7 134 [.ref 17, .int 6, .int y, mk_, mk_] [.ref 17] h1 Q) from ⟨fun c2 => ?_, fun c2 => ?_⟩)
    · skip
      refine exf_go 2 (show wpC (d + 3) true 10 [.ref 17, .int 0] h1 (fun _ h' => Go (d + 3) true 7 142 [.ref 17, .int 6, .int y, mk_, mk_] [] h' Q) from ?_)
      refine c_pushV ck1 (by omega) (fun h2 q2 ck2 => ?_)
      show Go (d + 3) true 7 142 [.ref 17, .int 6, .int y, mk_, mk_] [] h2 Q
      refine exf_go 2 (show Q (mk_) h2 from ?_)
      rw [show m - 1 + 1 = m from by omega] at ck2
      have hx1 : x = 1 := hx.resolve_left (by assumption)
      subst hx1; exact k _ (Fq.tr q1 q2) ck2
    · skip
      refine exf_go 3 (show wpC (d + 3) true 10 [.ref 17, .int 1] h1 (fun _ h' => Go (d + 3) true 7 142 [.ref 17, .int 6, .int y, mk_, mk_] [] h' Q) from ?_)
      refine c_pushV ck1 (by omega) (fun h3 q3 ck3 => ?_)
      show Go (d + 3) true 7 142 [.ref 17, .int 6, .int y, mk_, mk_] [] h3 Q
      refine exf_go 2 (show Q (mk_) h3 from ?_)
      rw [show m - 1 + 1 = m from by omega] at ck3
      have hx0 : x = 0 := by first | assumption | (refine Classical.not_not.mp ?_; assumption)
      subst hx0; exact k _ (Fq.tr q1 q3) ck3
theorem c_apply7 {d : Nat} {h : Hp} {x y z : Int32} {r : List Int32} {m : Nat} {Q : Po} (hm : m ≤ 64) (ck : CK (y :: x :: r) m h) (k : ∀ h1, Fq sSt h h1 → CK (joinV 3000 x y :: r) (m - 1) h1 → Q mk_ h1) : wpC (d + 4) true 7 [.ref 17, .int 7, .int z] h Q := by
  have hq1 : r.length + 1 + 1 = m := ck.1.1
  refine go_in rfl ?_
  refine exf_go 2 (show ((7 : Int32).toInt < 0 ∨ 6 < (7 : Int32).toInt → Go (d + 3) true 7 145 [.ref 17, .int 7, .int z, mk_, mk_] [] h Q) ∧ ((7 : Int32).toInt = 0 → Go (d + 3) true 7 44 [.ref 17, .int 7, .int z, mk_, mk_] [] h Q) ∧ ((7 : Int32).toInt = 1 → Go (d + 3) true 7 52 [.ref 17, .int 7, .int z, mk_, mk_] [] h Q) ∧ ((7 : Int32).toInt = 2 → Go (d + 3) true 7 78 [.ref 17, .int 7, .int z, mk_, mk_] [] h Q) ∧ ((7 : Int32).toInt = 3 → Go (d + 3) true 7 93 [.ref 17, .int 7, .int z, mk_, mk_] [] h Q) ∧ ((7 : Int32).toInt = 4 → Go (d + 3) true 7 104 [.ref 17, .int 7, .int z, mk_, mk_] [] h Q) ∧ ((7 : Int32).toInt = 5 → Go (d + 3) true 7 115 [.ref 17, .int 7, .int z, mk_, mk_] [] h Q) ∧ ((7 : Int32).toInt = 6 → Go (d + 3) true 7 126 [.ref 17, .int 7, .int z, mk_, mk_] [] h Q) ∧ True from ⟨fun c1 => ?_, fun c1 => ?_, fun c1 => ?_, fun c1 => ?_, fun c1 => ?_, fun c1 => ?_, fun c1 => ?_, fun c1 => ?_, trivial⟩)
  · skip
    refine exf_go 2 (show wpC (d + 3) true 11 [.ref 17] h (fun r h' => Go (d + 3) true 7 149 [.ref 17, .int 7, .int z, mk_, mk_] [r] h' Q) from ?_)
    refine c_popV ck (by omega) (fun h1 q1 ck1 => ?_)
    show Go (d + 3) true 7 149 [.ref 17, .int 7, .int z, mk_, mk_] [.int y] h1 Q
    refine exf_go 3 (show wpC (d + 3) true 11 [.ref 17] h1 (fun r h' => Go (d + 3) true 7 154 [.ref 17, .int 7, .int z, .int y, mk_] [r] h' Q) from ?_)
    refine c_popV ck1 (by omega) (fun h2 q2 ck2 => ?_)
    show Go (d + 3) true 7 154 [.ref 17, .int 7, .int z, .int y, mk_] [.int x] h2 Q
    refine exf_go 6 (show wpC (d + 3) true 8 [.int 7, .int x, .int y] h2 (fun r h' => Go (d + 3) true 7 164 [.ref 17, .int 7, .int z, .int y, .int x] [r, .ref 17] h' Q) from ?_)
    refine c_join7 ?_
    show Go (d + 3) true 7 164 [.ref 17, .int 7, .int z, .int y, .int x] [.int (joinV 3000 x y), .ref 17] h2 Q
    refine exf_go 1 (show wpC (d + 3) true 10 [.ref 17, .int (joinV 3000 x y)] h2 (fun _ h' => Go (d + 3) true 7 167 [.ref 17, .int 7, .int z, .int y, .int x] [] h' Q) from ?_)
    refine c_pushV ck2 (by omega) (fun h3 q3 ck3 => ?_)
    show Go (d + 3) true 7 167 [.ref 17, .int 7, .int z, .int y, .int x] [] h3 Q
    refine exf_go 1 (show Q (mk_) h3 from ?_)
    rw [show m - 1 - 1 + 1 = m - 1 from by omega] at ck3
    exact k _ (Fq.tr (Fq.tr q1 q2) q3) ck3
  · skip
    exact absurd c1 (by decide)
  · skip
    exact absurd c1 (by decide)
  · skip
    exact absurd c1 (by decide)
  · skip
    exact absurd c1 (by decide)
  · skip
    exact absurd c1 (by decide)
  · skip
    exact absurd c1 (by decide)
  · skip
    exact absurd c1 (by decide)
theorem c_apply8 {d : Nat} {h : Hp} {x y z : Int32} {r : List Int32} {m : Nat} {Q : Po} (hm : m ≤ 64) (ck : CK (y :: x :: r) m h) (k : ∀ h1, Fq sSt h h1 → CK (joinV 3001 x y :: r) (m - 1) h1 → Q mk_ h1) : wpC (d + 4) true 7 [.ref 17, .int 8, .int z] h Q := by
  have hq1 : r.length + 1 + 1 = m := ck.1.1
  refine go_in rfl ?_
  refine exf_go 2 (show ((8 : Int32).toInt < 0 ∨ 6 < (8 : Int32).toInt → Go (d + 3) true 7 145 [.ref 17, .int 8, .int z, mk_, mk_] [] h Q) ∧ ((8 : Int32).toInt = 0 → Go (d + 3) true 7 44 [.ref 17, .int 8, .int z, mk_, mk_] [] h Q) ∧ ((8 : Int32).toInt = 1 → Go (d + 3) true 7 52 [.ref 17, .int 8, .int z, mk_, mk_] [] h Q) ∧ ((8 : Int32).toInt = 2 → Go (d + 3) true 7 78 [.ref 17, .int 8, .int z, mk_, mk_] [] h Q) ∧ ((8 : Int32).toInt = 3 → Go (d + 3) true 7 93 [.ref 17, .int 8, .int z, mk_, mk_] [] h Q) ∧ ((8 : Int32).toInt = 4 → Go (d + 3) true 7 104 [.ref 17, .int 8, .int z, mk_, mk_] [] h Q) ∧ ((8 : Int32).toInt = 5 → Go (d + 3) true 7 115 [.ref 17, .int 8, .int z, mk_, mk_] [] h Q) ∧ ((8 : Int32).toInt = 6 → Go (d + 3) true 7 126 [.ref 17, .int 8, .int z, mk_, mk_] [] h Q) ∧ True from ⟨fun c1 => ?_, fun c1 => ?_, fun c1 => ?_, fun c1 => ?_, fun c1 => ?_, fun c1 => ?_, fun c1 => ?_, fun c1 => ?_, trivial⟩)
  · skip
    refine exf_go 2 (show wpC (d + 3) true 11 [.ref 17] h (fun r h' => Go (d + 3) true 7 149 [.ref 17, .int 8, .int z, mk_, mk_] [r] h' Q) from ?_)
    refine c_popV ck (by omega) (fun h1 q1 ck1 => ?_)
    show Go (d + 3) true 7 149 [.ref 17, .int 8, .int z, mk_, mk_] [.int y] h1 Q
    refine exf_go 3 (show wpC (d + 3) true 11 [.ref 17] h1 (fun r h' => Go (d + 3) true 7 154 [.ref 17, .int 8, .int z, .int y, mk_] [r] h' Q) from ?_)
    refine c_popV ck1 (by omega) (fun h2 q2 ck2 => ?_)
    show Go (d + 3) true 7 154 [.ref 17, .int 8, .int z, .int y, mk_] [.int x] h2 Q
    refine exf_go 6 (show wpC (d + 3) true 8 [.int 8, .int x, .int y] h2 (fun r h' => Go (d + 3) true 7 164 [.ref 17, .int 8, .int z, .int y, .int x] [r, .ref 17] h' Q) from ?_)
    refine c_join8 ?_
    show Go (d + 3) true 7 164 [.ref 17, .int 8, .int z, .int y, .int x] [.int (joinV 3001 x y), .ref 17] h2 Q
    refine exf_go 1 (show wpC (d + 3) true 10 [.ref 17, .int (joinV 3001 x y)] h2 (fun _ h' => Go (d + 3) true 7 167 [.ref 17, .int 8, .int z, .int y, .int x] [] h' Q) from ?_)
    refine c_pushV ck2 (by omega) (fun h3 q3 ck3 => ?_)
    show Go (d + 3) true 7 167 [.ref 17, .int 8, .int z, .int y, .int x] [] h3 Q
    refine exf_go 1 (show Q (mk_) h3 from ?_)
    rw [show m - 1 - 1 + 1 = m - 1 from by omega] at ck3
    exact k _ (Fq.tr (Fq.tr q1 q2) q3) ck3
  · skip
    exact absurd c1 (by decide)
  · skip
    exact absurd c1 (by decide)
  · skip
    exact absurd c1 (by decide)
  · skip
    exact absurd c1 (by decide)
  · skip
    exact absurd c1 (by decide)
  · skip
    exact absurd c1 (by decide)
  · skip
    exact absurd c1 (by decide)
theorem c_apply9 {d : Nat} {h : Hp} {x y z : Int32} {r : List Int32} {m : Nat} {Q : Po} (hm : m ≤ 64) (ck : CK (y :: x :: r) m h) (k : ∀ h1, Fq sSt h h1 → CK (joinV 3002 x y :: r) (m - 1) h1 → Q mk_ h1) : wpC (d + 4) true 7 [.ref 17, .int 9, .int z] h Q := by
  have hq1 : r.length + 1 + 1 = m := ck.1.1
  refine go_in rfl ?_
  refine exf_go 2 (show ((9 : Int32).toInt < 0 ∨ 6 < (9 : Int32).toInt → Go (d + 3) true 7 145 [.ref 17, .int 9, .int z, mk_, mk_] [] h Q) ∧ ((9 : Int32).toInt = 0 → Go (d + 3) true 7 44 [.ref 17, .int 9, .int z, mk_, mk_] [] h Q) ∧ ((9 : Int32).toInt = 1 → Go (d + 3) true 7 52 [.ref 17, .int 9, .int z, mk_, mk_] [] h Q) ∧ ((9 : Int32).toInt = 2 → Go (d + 3) true 7 78 [.ref 17, .int 9, .int z, mk_, mk_] [] h Q) ∧ ((9 : Int32).toInt = 3 → Go (d + 3) true 7 93 [.ref 17, .int 9, .int z, mk_, mk_] [] h Q) ∧ ((9 : Int32).toInt = 4 → Go (d + 3) true 7 104 [.ref 17, .int 9, .int z, mk_, mk_] [] h Q) ∧ ((9 : Int32).toInt = 5 → Go (d + 3) true 7 115 [.ref 17, .int 9, .int z, mk_, mk_] [] h Q) ∧ ((9 : Int32).toInt = 6 → Go (d + 3) true 7 126 [.ref 17, .int 9, .int z, mk_, mk_] [] h Q) ∧ True from ⟨fun c1 => ?_, fun c1 => ?_, fun c1 => ?_, fun c1 => ?_, fun c1 => ?_, fun c1 => ?_, fun c1 => ?_, fun c1 => ?_, trivial⟩)
  · skip
    refine exf_go 2 (show wpC (d + 3) true 11 [.ref 17] h (fun r h' => Go (d + 3) true 7 149 [.ref 17, .int 9, .int z, mk_, mk_] [r] h' Q) from ?_)
    refine c_popV ck (by omega) (fun h1 q1 ck1 => ?_)
    show Go (d + 3) true 7 149 [.ref 17, .int 9, .int z, mk_, mk_] [.int y] h1 Q
    refine exf_go 3 (show wpC (d + 3) true 11 [.ref 17] h1 (fun r h' => Go (d + 3) true 7 154 [.ref 17, .int 9, .int z, .int y, mk_] [r] h' Q) from ?_)
    refine c_popV ck1 (by omega) (fun h2 q2 ck2 => ?_)
    show Go (d + 3) true 7 154 [.ref 17, .int 9, .int z, .int y, mk_] [.int x] h2 Q
    refine exf_go 6 (show wpC (d + 3) true 8 [.int 9, .int x, .int y] h2 (fun r h' => Go (d + 3) true 7 164 [.ref 17, .int 9, .int z, .int y, .int x] [r, .ref 17] h' Q) from ?_)
    refine c_join9 ?_
    show Go (d + 3) true 7 164 [.ref 17, .int 9, .int z, .int y, .int x] [.int (joinV 3002 x y), .ref 17] h2 Q
    refine exf_go 1 (show wpC (d + 3) true 10 [.ref 17, .int (joinV 3002 x y)] h2 (fun _ h' => Go (d + 3) true 7 167 [.ref 17, .int 9, .int z, .int y, .int x] [] h' Q) from ?_)
    refine c_pushV ck2 (by omega) (fun h3 q3 ck3 => ?_)
    show Go (d + 3) true 7 167 [.ref 17, .int 9, .int z, .int y, .int x] [] h3 Q
    refine exf_go 1 (show Q (mk_) h3 from ?_)
    rw [show m - 1 - 1 + 1 = m - 1 from by omega] at ck3
    exact k _ (Fq.tr (Fq.tr q1 q2) q3) ck3
  · skip
    exact absurd c1 (by decide)
  · skip
    exact absurd c1 (by decide)
  · skip
    exact absurd c1 (by decide)
  · skip
    exact absurd c1 (by decide)
  · skip
    exact absurd c1 (by decide)
  · skip
    exact absurd c1 (by decide)
  · skip
    exact absurd c1 (by decide)
theorem c_apply10 {d : Nat} {h : Hp} {x y z : Int32} {r : List Int32} {m : Nat} {Q : Po} (hm : m ≤ 64) (ck : CK (y :: x :: r) m h) (k : ∀ h1, Fq sSt h h1 → CK (joinV 3003 x y :: r) (m - 1) h1 → Q mk_ h1) : wpC (d + 4) true 7 [.ref 17, .int 10, .int z] h Q := by
  have hq1 : r.length + 1 + 1 = m := ck.1.1
  refine go_in rfl ?_
  refine exf_go 2 (show ((10 : Int32).toInt < 0 ∨ 6 < (10 : Int32).toInt → Go (d + 3) true 7 145 [.ref 17, .int 10, .int z, mk_, mk_] [] h Q) ∧ ((10 : Int32).toInt = 0 → Go (d + 3) true 7 44 [.ref 17, .int 10, .int z, mk_, mk_] [] h Q) ∧ ((10 : Int32).toInt = 1 → Go (d + 3) true 7 52 [.ref 17, .int 10, .int z, mk_, mk_] [] h Q) ∧ ((10 : Int32).toInt = 2 → Go (d + 3) true 7 78 [.ref 17, .int 10, .int z, mk_, mk_] [] h Q) ∧ ((10 : Int32).toInt = 3 → Go (d + 3) true 7 93 [.ref 17, .int 10, .int z, mk_, mk_] [] h Q) ∧ ((10 : Int32).toInt = 4 → Go (d + 3) true 7 104 [.ref 17, .int 10, .int z, mk_, mk_] [] h Q) ∧ ((10 : Int32).toInt = 5 → Go (d + 3) true 7 115 [.ref 17, .int 10, .int z, mk_, mk_] [] h Q) ∧ ((10 : Int32).toInt = 6 → Go (d + 3) true 7 126 [.ref 17, .int 10, .int z, mk_, mk_] [] h Q) ∧ True from ⟨fun c1 => ?_, fun c1 => ?_, fun c1 => ?_, fun c1 => ?_, fun c1 => ?_, fun c1 => ?_, fun c1 => ?_, fun c1 => ?_, trivial⟩)
  · skip
    refine exf_go 2 (show wpC (d + 3) true 11 [.ref 17] h (fun r h' => Go (d + 3) true 7 149 [.ref 17, .int 10, .int z, mk_, mk_] [r] h' Q) from ?_)
    refine c_popV ck (by omega) (fun h1 q1 ck1 => ?_)
    show Go (d + 3) true 7 149 [.ref 17, .int 10, .int z, mk_, mk_] [.int y] h1 Q
    refine exf_go 3 (show wpC (d + 3) true 11 [.ref 17] h1 (fun r h' => Go (d + 3) true 7 154 [.ref 17, .int 10, .int z, .int y, mk_] [r] h' Q) from ?_)
    refine c_popV ck1 (by omega) (fun h2 q2 ck2 => ?_)
    show Go (d + 3) true 7 154 [.ref 17, .int 10, .int z, .int y, mk_] [.int x] h2 Q
    refine exf_go 6 (show wpC (d + 3) true 8 [.int 10, .int x, .int y] h2 (fun r h' => Go (d + 3) true 7 164 [.ref 17, .int 10, .int z, .int y, .int x] [r, .ref 17] h' Q) from ?_)
    refine c_join10 ?_
    show Go (d + 3) true 7 164 [.ref 17, .int 10, .int z, .int y, .int x] [.int (joinV 3003 x y), .ref 17] h2 Q
    refine exf_go 1 (show wpC (d + 3) true 10 [.ref 17, .int (joinV 3003 x y)] h2 (fun _ h' => Go (d + 3) true 7 167 [.ref 17, .int 10, .int z, .int y, .int x] [] h' Q) from ?_)
    refine c_pushV ck2 (by omega) (fun h3 q3 ck3 => ?_)
    show Go (d + 3) true 7 167 [.ref 17, .int 10, .int z, .int y, .int x] [] h3 Q
    refine exf_go 1 (show Q (mk_) h3 from ?_)
    rw [show m - 1 - 1 + 1 = m - 1 from by omega] at ck3
    exact k _ (Fq.tr (Fq.tr q1 q2) q3) ck3
  · skip
    exact absurd c1 (by decide)
  · skip
    exact absurd c1 (by decide)
  · skip
    exact absurd c1 (by decide)
  · skip
    exact absurd c1 (by decide)
  · skip
    exact absurd c1 (by decide)
  · skip
    exact absurd c1 (by decide)
  · skip
    exact absurd c1 (by decide)
theorem c_apply11 {d : Nat} {h : Hp} {x y z : Int32} {r : List Int32} {m : Nat} {Q : Po} (hm : m ≤ 64) (ck : CK (y :: x :: r) m h) (k : ∀ h1, Fq sSt h h1 → CK (joinV 3004 x y :: r) (m - 1) h1 → Q mk_ h1) : wpC (d + 4) true 7 [.ref 17, .int 11, .int z] h Q := by
  have hq1 : r.length + 1 + 1 = m := ck.1.1
  refine go_in rfl ?_
  refine exf_go 2 (show ((11 : Int32).toInt < 0 ∨ 6 < (11 : Int32).toInt → Go (d + 3) true 7 145 [.ref 17, .int 11, .int z, mk_, mk_] [] h Q) ∧ ((11 : Int32).toInt = 0 → Go (d + 3) true 7 44 [.ref 17, .int 11, .int z, mk_, mk_] [] h Q) ∧ ((11 : Int32).toInt = 1 → Go (d + 3) true 7 52 [.ref 17, .int 11, .int z, mk_, mk_] [] h Q) ∧ ((11 : Int32).toInt = 2 → Go (d + 3) true 7 78 [.ref 17, .int 11, .int z, mk_, mk_] [] h Q) ∧ ((11 : Int32).toInt = 3 → Go (d + 3) true 7 93 [.ref 17, .int 11, .int z, mk_, mk_] [] h Q) ∧ ((11 : Int32).toInt = 4 → Go (d + 3) true 7 104 [.ref 17, .int 11, .int z, mk_, mk_] [] h Q) ∧ ((11 : Int32).toInt = 5 → Go (d + 3) true 7 115 [.ref 17, .int 11, .int z, mk_, mk_] [] h Q) ∧ ((11 : Int32).toInt = 6 → Go (d + 3) true 7 126 [.ref 17, .int 11, .int z, mk_, mk_] [] h Q) ∧ True from ⟨fun c1 => ?_, fun c1 => ?_, fun c1 => ?_, fun c1 => ?_, fun c1 => ?_, fun c1 => ?_, fun c1 => ?_, fun c1 => ?_, trivial⟩)
  · skip
    refine exf_go 2 (show wpC (d + 3) true 11 [.ref 17] h (fun r h' => Go (d + 3) true 7 149 [.ref 17, .int 11, .int z, mk_, mk_] [r] h' Q) from ?_)
    refine c_popV ck (by omega) (fun h1 q1 ck1 => ?_)
    show Go (d + 3) true 7 149 [.ref 17, .int 11, .int z, mk_, mk_] [.int y] h1 Q
    refine exf_go 3 (show wpC (d + 3) true 11 [.ref 17] h1 (fun r h' => Go (d + 3) true 7 154 [.ref 17, .int 11, .int z, .int y, mk_] [r] h' Q) from ?_)
    refine c_popV ck1 (by omega) (fun h2 q2 ck2 => ?_)
    show Go (d + 3) true 7 154 [.ref 17, .int 11, .int z, .int y, mk_] [.int x] h2 Q
    refine exf_go 6 (show wpC (d + 3) true 8 [.int 11, .int x, .int y] h2 (fun r h' => Go (d + 3) true 7 164 [.ref 17, .int 11, .int z, .int y, .int x] [r, .ref 17] h' Q) from ?_)
    refine c_join11 ?_
    show Go (d + 3) true 7 164 [.ref 17, .int 11, .int z, .int y, .int x] [.int (joinV 3004 x y), .ref 17] h2 Q
    refine exf_go 1 (show wpC (d + 3) true 10 [.ref 17, .int (joinV 3004 x y)] h2 (fun _ h' => Go (d + 3) true 7 167 [.ref 17, .int 11, .int z, .int y, .int x] [] h' Q) from ?_)
    refine c_pushV ck2 (by omega) (fun h3 q3 ck3 => ?_)
    show Go (d + 3) true 7 167 [.ref 17, .int 11, .int z, .int y, .int x] [] h3 Q
    refine exf_go 1 (show Q (mk_) h3 from ?_)
    rw [show m - 1 - 1 + 1 = m - 1 from by omega] at ck3
    exact k _ (Fq.tr (Fq.tr q1 q2) q3) ck3
  · skip
    exact absurd c1 (by decide)
  · skip
    exact absurd c1 (by decide)
  · skip
    exact absurd c1 (by decide)
  · skip
    exact absurd c1 (by decide)
  · skip
    exact absurd c1 (by decide)
  · skip
    exact absurd c1 (by decide)
  · skip
    exact absurd c1 (by decide)
theorem c_apply12 {d : Nat} {h : Hp} {x y z : Int32} {r : List Int32} {m : Nat} {Q : Po} (hm : m ≤ 64) (ck : CK (y :: x :: r) m h) (k : ∀ h1, Fq sSt h h1 → CK (joinV 3005 x y :: r) (m - 1) h1 → Q mk_ h1) : wpC (d + 4) true 7 [.ref 17, .int 12, .int z] h Q := by
  have hq1 : r.length + 1 + 1 = m := ck.1.1
  refine go_in rfl ?_
  refine exf_go 2 (show ((12 : Int32).toInt < 0 ∨ 6 < (12 : Int32).toInt → Go (d + 3) true 7 145 [.ref 17, .int 12, .int z, mk_, mk_] [] h Q) ∧ ((12 : Int32).toInt = 0 → Go (d + 3) true 7 44 [.ref 17, .int 12, .int z, mk_, mk_] [] h Q) ∧ ((12 : Int32).toInt = 1 → Go (d + 3) true 7 52 [.ref 17, .int 12, .int z, mk_, mk_] [] h Q) ∧ ((12 : Int32).toInt = 2 → Go (d + 3) true 7 78 [.ref 17, .int 12, .int z, mk_, mk_] [] h Q) ∧ ((12 : Int32).toInt = 3 → Go (d + 3) true 7 93 [.ref 17, .int 12, .int z, mk_, mk_] [] h Q) ∧ ((12 : Int32).toInt = 4 → Go (d + 3) true 7 104 [.ref 17, .int 12, .int z, mk_, mk_] [] h Q) ∧ ((12 : Int32).toInt = 5 → Go (d + 3) true 7 115 [.ref 17, .int 12, .int z, mk_, mk_] [] h Q) ∧ ((12 : Int32).toInt = 6 → Go (d + 3) true 7 126 [.ref 17, .int 12, .int z, mk_, mk_] [] h Q) ∧ True from ⟨fun c1 => ?_, fun c1 => ?_, fun c1 => ?_, fun c1 => ?_, fun c1 => ?_, fun c1 => ?_, fun c1 => ?_, fun c1 => ?_, trivial⟩)
  · skip
    refine exf_go 2 (show wpC (d + 3) true 11 [.ref 17] h (fun r h' => Go (d + 3) true 7 149 [.ref 17, .int 12, .int z, mk_, mk_] [r] h' Q) from ?_)
    refine c_popV ck (by omega) (fun h1 q1 ck1 => ?_)
    show Go (d + 3) true 7 149 [.ref 17, .int 12, .int z, mk_, mk_] [.int y] h1 Q
    refine exf_go 3 (show wpC (d + 3) true 11 [.ref 17] h1 (fun r h' => Go (d + 3) true 7 154 [.ref 17, .int 12, .int z, .int y, mk_] [r] h' Q) from ?_)
    refine c_popV ck1 (by omega) (fun h2 q2 ck2 => ?_)
    show Go (d + 3) true 7 154 [.ref 17, .int 12, .int z, .int y, mk_] [.int x] h2 Q
    refine exf_go 6 (show wpC (d + 3) true 8 [.int 12, .int x, .int y] h2 (fun r h' => Go (d + 3) true 7 164 [.ref 17, .int 12, .int z, .int y, .int x] [r, .ref 17] h' Q) from ?_)
    refine c_join12 ?_
    show Go (d + 3) true 7 164 [.ref 17, .int 12, .int z, .int y, .int x] [.int (joinV 3005 x y), .ref 17] h2 Q
    refine exf_go 1 (show wpC (d + 3) true 10 [.ref 17, .int (joinV 3005 x y)] h2 (fun _ h' => Go (d + 3) true 7 167 [.ref 17, .int 12, .int z, .int y, .int x] [] h' Q) from ?_)
    refine c_pushV ck2 (by omega) (fun h3 q3 ck3 => ?_)
    show Go (d + 3) true 7 167 [.ref 17, .int 12, .int z, .int y, .int x] [] h3 Q
    refine exf_go 1 (show Q (mk_) h3 from ?_)
    rw [show m - 1 - 1 + 1 = m - 1 from by omega] at ck3
    exact k _ (Fq.tr (Fq.tr q1 q2) q3) ck3
  · skip
    exact absurd c1 (by decide)
  · skip
    exact absurd c1 (by decide)
  · skip
    exact absurd c1 (by decide)
  · skip
    exact absurd c1 (by decide)
  · skip
    exact absurd c1 (by decide)
  · skip
    exact absurd c1 (by decide)
  · skip
    exact absurd c1 (by decide)
theorem c_apply13 {d : Nat} {h : Hp} {x y z : Int32} {r : List Int32} {m : Nat} {Q : Po} (hm : m ≤ 64) (ck : CK (y :: x :: r) m h) (k : ∀ h1, Fq sSt h h1 → CK (joinV 3006 x y :: r) (m - 1) h1 → Q mk_ h1) : wpC (d + 4) true 7 [.ref 17, .int 13, .int z] h Q := by
  have hq1 : r.length + 1 + 1 = m := ck.1.1
  refine go_in rfl ?_
  refine exf_go 2 (show ((13 : Int32).toInt < 0 ∨ 6 < (13 : Int32).toInt → Go (d + 3) true 7 145 [.ref 17, .int 13, .int z, mk_, mk_] [] h Q) ∧ ((13 : Int32).toInt = 0 → Go (d + 3) true 7 44 [.ref 17, .int 13, .int z, mk_, mk_] [] h Q) ∧ ((13 : Int32).toInt = 1 → Go (d + 3) true 7 52 [.ref 17, .int 13, .int z, mk_, mk_] [] h Q) ∧ ((13 : Int32).toInt = 2 → Go (d + 3) true 7 78 [.ref 17, .int 13, .int z, mk_, mk_] [] h Q) ∧ ((13 : Int32).toInt = 3 → Go (d + 3) true 7 93 [.ref 17, .int 13, .int z, mk_, mk_] [] h Q) ∧ ((13 : Int32).toInt = 4 → Go (d + 3) true 7 104 [.ref 17, .int 13, .int z, mk_, mk_] [] h Q) ∧ ((13 : Int32).toInt = 5 → Go (d + 3) true 7 115 [.ref 17, .int 13, .int z, mk_, mk_] [] h Q) ∧ ((13 : Int32).toInt = 6 → Go (d + 3) true 7 126 [.ref 17, .int 13, .int z, mk_, mk_] [] h Q) ∧ True from ⟨fun c1 => ?_, fun c1 => ?_, fun c1 => ?_, fun c1 => ?_, fun c1 => ?_, fun c1 => ?_, fun c1 => ?_, fun c1 => ?_, trivial⟩)
  · skip
    refine exf_go 2 (show wpC (d + 3) true 11 [.ref 17] h (fun r h' => Go (d + 3) true 7 149 [.ref 17, .int 13, .int z, mk_, mk_] [r] h' Q) from ?_)
    refine c_popV ck (by omega) (fun h1 q1 ck1 => ?_)
    show Go (d + 3) true 7 149 [.ref 17, .int 13, .int z, mk_, mk_] [.int y] h1 Q
    refine exf_go 3 (show wpC (d + 3) true 11 [.ref 17] h1 (fun r h' => Go (d + 3) true 7 154 [.ref 17, .int 13, .int z, .int y, mk_] [r] h' Q) from ?_)
    refine c_popV ck1 (by omega) (fun h2 q2 ck2 => ?_)
    show Go (d + 3) true 7 154 [.ref 17, .int 13, .int z, .int y, mk_] [.int x] h2 Q
    refine exf_go 6 (show wpC (d + 3) true 8 [.int 13, .int x, .int y] h2 (fun r h' => Go (d + 3) true 7 164 [.ref 17, .int 13, .int z, .int y, .int x] [r, .ref 17] h' Q) from ?_)
    refine c_join13 ?_
    show Go (d + 3) true 7 164 [.ref 17, .int 13, .int z, .int y, .int x] [.int (joinV 3006 x y), .ref 17] h2 Q
    refine exf_go 1 (show wpC (d + 3) true 10 [.ref 17, .int (joinV 3006 x y)] h2 (fun _ h' => Go (d + 3) true 7 167 [.ref 17, .int 13, .int z, .int y, .int x] [] h' Q) from ?_)
    refine c_pushV ck2 (by omega) (fun h3 q3 ck3 => ?_)
    show Go (d + 3) true 7 167 [.ref 17, .int 13, .int z, .int y, .int x] [] h3 Q
    refine exf_go 1 (show Q (mk_) h3 from ?_)
    rw [show m - 1 - 1 + 1 = m - 1 from by omega] at ck3
    exact k _ (Fq.tr (Fq.tr q1 q2) q3) ck3
  · skip
    exact absurd c1 (by decide)
  · skip
    exact absurd c1 (by decide)
  · skip
    exact absurd c1 (by decide)
  · skip
    exact absurd c1 (by decide)
  · skip
    exact absurd c1 (by decide)
  · skip
    exact absurd c1 (by decide)
  · skip
    exact absurd c1 (by decide)
theorem c_apply14 {d : Nat} {h : Hp} {x y z : Int32} {r : List Int32} {m : Nat} {Q : Po} (hm : m ≤ 64) (ck : CK (y :: x :: r) m h) (k : ∀ h1, Fq sSt h h1 → CK (joinV 3007 x y :: r) (m - 1) h1 → Q mk_ h1) : wpC (d + 4) true 7 [.ref 17, .int 14, .int z] h Q := by
  have hq1 : r.length + 1 + 1 = m := ck.1.1
  refine go_in rfl ?_
  refine exf_go 2 (show ((14 : Int32).toInt < 0 ∨ 6 < (14 : Int32).toInt → Go (d + 3) true 7 145 [.ref 17, .int 14, .int z, mk_, mk_] [] h Q) ∧ ((14 : Int32).toInt = 0 → Go (d + 3) true 7 44 [.ref 17, .int 14, .int z, mk_, mk_] [] h Q) ∧ ((14 : Int32).toInt = 1 → Go (d + 3) true 7 52 [.ref 17, .int 14, .int z, mk_, mk_] [] h Q) ∧ ((14 : Int32).toInt = 2 → Go (d + 3) true 7 78 [.ref 17, .int 14, .int z, mk_, mk_] [] h Q) ∧ ((14 : Int32).toInt = 3 → Go (d + 3) true 7 93 [.ref 17, .int 14, .int z, mk_, mk_] [] h Q) ∧ ((14 : Int32).toInt = 4 → Go (d + 3) true 7 104 [.ref 17, .int 14, .int z, mk_, mk_] [] h Q) ∧ ((14 : Int32).toInt = 5 → Go (d + 3) true 7 115 [.ref 17, .int 14, .int z, mk_, mk_] [] h Q) ∧ ((14 : Int32).toInt = 6 → Go (d + 3) true 7 126 [.ref 17, .int 14, .int z, mk_, mk_] [] h Q) ∧ True from ⟨fun c1 => ?_, fun c1 => ?_, fun c1 => ?_, fun c1 => ?_, fun c1 => ?_, fun c1 => ?_, fun c1 => ?_, fun c1 => ?_, trivial⟩)
  · skip
    refine exf_go 2 (show wpC (d + 3) true 11 [.ref 17] h (fun r h' => Go (d + 3) true 7 149 [.ref 17, .int 14, .int z, mk_, mk_] [r] h' Q) from ?_)
    refine c_popV ck (by omega) (fun h1 q1 ck1 => ?_)
    show Go (d + 3) true 7 149 [.ref 17, .int 14, .int z, mk_, mk_] [.int y] h1 Q
    refine exf_go 3 (show wpC (d + 3) true 11 [.ref 17] h1 (fun r h' => Go (d + 3) true 7 154 [.ref 17, .int 14, .int z, .int y, mk_] [r] h' Q) from ?_)
    refine c_popV ck1 (by omega) (fun h2 q2 ck2 => ?_)
    show Go (d + 3) true 7 154 [.ref 17, .int 14, .int z, .int y, mk_] [.int x] h2 Q
    refine exf_go 6 (show wpC (d + 3) true 8 [.int 14, .int x, .int y] h2 (fun r h' => Go (d + 3) true 7 164 [.ref 17, .int 14, .int z, .int y, .int x] [r, .ref 17] h' Q) from ?_)
    refine c_join14 ?_
    show Go (d + 3) true 7 164 [.ref 17, .int 14, .int z, .int y, .int x] [.int (joinV 3007 x y), .ref 17] h2 Q
    refine exf_go 1 (show wpC (d + 3) true 10 [.ref 17, .int (joinV 3007 x y)] h2 (fun _ h' => Go (d + 3) true 7 167 [.ref 17, .int 14, .int z, .int y, .int x] [] h' Q) from ?_)
    refine c_pushV ck2 (by omega) (fun h3 q3 ck3 => ?_)
    show Go (d + 3) true 7 167 [.ref 17, .int 14, .int z, .int y, .int x] [] h3 Q
    refine exf_go 1 (show Q (mk_) h3 from ?_)
    rw [show m - 1 - 1 + 1 = m - 1 from by omega] at ck3
    exact k _ (Fq.tr (Fq.tr q1 q2) q3) ck3
  · skip
    exact absurd c1 (by decide)
  · skip
    exact absurd c1 (by decide)
  · skip
    exact absurd c1 (by decide)
  · skip
    exact absurd c1 (by decide)
  · skip
    exact absurd c1 (by decide)
  · skip
    exact absurd c1 (by decide)
  · skip
    exact absurd c1 (by decide)
theorem do_eq : ∀ i, i < 8 → dop (3000 + i) = 7 + i ∧ dod (3000 + i) = 0 := by decide
/-- a word -/
theorem c_applyA {d : Nat} {h : Hp} {l : List Int32} {m c : Nat} {Q : Po} {f : Nat → Nat} {W nn : Nat} (ce : CE f W nn h) (hm : m < 64) (hc : wok W c) (ck : CK l m h) (k : ∀ h1, Fq sSt h h1 → CK (wvI W f nn c :: l) (m + 1) h1 → Q mk_ h1) : wpC (d + 4) true 7 [.ref 17, .int (nI (dop c)), .int (nI (dod c))] h Q := by
  have hW := ce.1.1
  unfold wvI wvN at k
  rcases hc with hc | hc | hc | hc
  · rw [show dop c = 0 from if_pos hc, show dod c = c from if_pos hc]
    rw [if_pos hc] at k
    exact c_apply0 hc hm ck k
  · have e1 : dop c = 1 := by unfold dop; rw [if_neg (by omega), if_pos (by omega)]
    have e2 : dod c = c - 1000 := by unfold dod; rw [if_neg (by omega), if_pos (by omega)]
    rw [e1, e2]
    rw [if_neg (by omega), if_pos (by omega)] at k
    exact c_apply1 ce hm (by omega) ck k
  · have e1 : c = 1010 ∨ c = 1011 ∨ c = 1012 := by omega
    rw [if_neg (by omega), if_neg (by omega)] at k
    rcases e1 with e1 | e1 | e1 <;> subst e1
    · rw [if_pos rfl] at k; exact c_apply3 ce hm ck k
    · rw [if_neg (by decide), if_pos rfl] at k; exact c_apply4 ce hm ck k
    · rw [if_neg (by decide), if_neg (by decide), if_pos rfl] at k; exact c_apply5 ce hm ck k
  · have e1 : dop c = 2 := by unfold dop; rw [if_neg (by omega), if_neg (by omega), if_neg (by omega), if_pos (by omega)]
    have e2 : dod c = c - 2000 := by unfold dod; rw [if_neg (by omega), if_neg (by omega), if_neg (by omega), if_pos (by omega)]
    rw [e1, e2]
    rw [if_neg (by omega), if_neg (by omega), if_neg (by omega), if_neg (by omega), if_neg (by omega)] at k
    exact c_apply2 ce hm (by omega) ck k
/-- two values are joined -/
theorem c_applyC {d : Nat} {h : Hp} {x y : Int32} {r : List Int32} {m c : Nat} {Q : Po} (h1 : 3000 ≤ c) (h2 : c ≤ 3007) (hm : m ≤ 64) (ck : CK (y :: x :: r) m h) (k : ∀ h1, Fq sSt h h1 → CK (joinV c x y :: r) (m - 1) h1 → Q mk_ h1) : wpC (d + 4) true 7 [.ref 17, .int (nI (dop c)), .int (nI (dod c))] h Q := by
  have e : c = 3000 ∨ c = 3001 ∨ c = 3002 ∨ c = 3003 ∨ c = 3004 ∨ c = 3005 ∨ c = 3006 ∨ c = 3007 := by omega
  rcases e with e | e | e | e | e | e | e | e <;> subst e
  · exact c_apply7 hm ck k
  · exact c_apply8 hm ck k
  · exact c_apply9 hm ck k
  · exact c_apply10 hm ck k
  · exact c_apply11 hm ck k
  · exact c_apply12 hm ck k
  · exact c_apply13 hm ck k
  · exact c_apply14 hm ck k
