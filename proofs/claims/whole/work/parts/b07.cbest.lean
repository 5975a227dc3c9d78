/-! The class: best and shortest. -/
def wh (y : Int32) : Option Nat := if y = 0 then some 0 else match ixN (y - 10) 8 with
  | none => none
  | some j => some (j + 1)
theorem wh_0 : wh 0 = some 0 := rfl
theorem y10 (y : Int32) (h : ¬ y < 10) : (y - 10).toInt = y.toInt - 10 := by
  have h1 : 10 ≤ y.toInt := by
    have := Int32.not_lt.mp h
    have := Int32.le_iff_toInt_le.mp this
    simpa using this
  have h2 := Int32.toInt_lt y
  rw [Int32.toInt_sub]
  exact Int.bmod_eq_of_le (by simp; omega) (by simp; omega)
theorem wh_in {y : Int32} (h0 : ¬ y = 0) (h1 : ¬ y < 10) (h2 : ¬ 18 ≤ y) : ∃ j, wh y = some (j + 1) ∧ y - 10 = nI j ∧ j < 8 := by
  have e := y10 y h1
  have a1 : 10 ≤ y.toInt := by have := Int32.le_iff_toInt_le.mp (Int32.not_lt.mp h1); simpa using this
  have a2 : y.toInt < 18 := by have := Int32.lt_iff_toInt_lt.mp (Int32.not_le.mp h2); simpa using this
  obtain ⟨j, e1, e2, e3⟩ := ix_in (x := y - 10) (n := 8) (by decide) (fun q => by have := Int32.lt_iff_toInt_lt.mp q; rw [e] at this; simp at this; omega) (fun q => by have := Int32.le_iff_toInt_le.mp q; rw [e] at this; rw [nI_toInt (by decide)] at this; simp at this; omega)
  refine ⟨j, ?_, e2, e3⟩
  unfold wh
  rw [if_neg h0, e1]
theorem wh_lo {y : Int32} (h0 : ¬ y = 0) (h1 : y < 10) : wh y = none := by
  have a1 : y.toInt < 10 := by have := Int32.lt_iff_toInt_lt.mp h1; simpa using this
  have a3 := Int32.le_toInt y
  unfold wh
  rw [if_neg h0]
  by_cases c : (y - 10).toInt = y.toInt - 10
  · rw [ix_neg (Int32.lt_iff_toInt_lt.mpr (by rw [c]; simp; omega))]
  · have e : (y - 10).toInt = y.toInt - 10 + 4294967296 := by
      rw [Int32.toInt_sub] at c ⊢
      simp only [Int32.reduceToInt] at c ⊢
      unfold Int.bmod at c ⊢
      simp only [] at c ⊢
      split <;> omega
    rw [ix_ge (Int32.le_iff_toInt_le.mpr (by rw [e, nI_toInt (by decide)]; simp; omega))]
theorem wh_hi {y : Int32} (h0 : ¬ y = 0) (h1 : 18 ≤ y) : wh y = none := by
  have a1 : 18 ≤ y.toInt := by have := Int32.le_iff_toInt_le.mp h1; simpa using this
  have e := y10 y (fun q => by have := Int32.lt_iff_toInt_lt.mp q; simp at this; omega)
  unfold wh
  rw [if_neg h0, ix_ge (Int32.le_iff_toInt_le.mpr (by rw [e, nI_toInt (by decide)]; simp; omega))]
/-- why a tray has no row; 0 -/
def tkR (g : ShG) (tr : Nat → TrG) (x y : Int32) : Int32 := match ixN x 4 with
  | none => -2
  | some t => match wh y with
    | none => -2
    | some _ => match tr t with
      | none => -6
      | some (_, n, vs) => if n < 1 ∨ 8 < n then -4 else if awB vs (tot g) n = true ∧ unl vs n = n then 0 else -3
/-- what a row of so many numbers is asked for -/
def rowA (g : ShG) (l : LkG) (pl : Nat) (v F : Nat → Nat) (n w : Nat) : Option Nat := match w with
  | 0 => some (lgV g pl v F n 0 (lA l)).2
  | j + 1 => if j < n then some (lgP g pl v F n n 0 (lA l) j) else none
def oL : Option Nat → Int64
  | none => -1
  | some n => lN n
def rowO (g : ShG) (l : LkG) (tr : Nat → TrG) (x y : Int32) (b : Bool) : Option Nat := match ixN x 4 with
  | none => none
  | some t => match tr t with
    | none => none
    | some (_, n, vs) => match wh y with
      | none => none
      | some w => bif b then rowA g l (sP g) (vN g vs) (fWs g (vN g vs) n) n w else rowA g l 0 (vN g vs) (fun _ => 1) n w
def fBest (g : ShG) (l : LkG) (tr : Nat → TrG) (x y : Int32) : Int64 := if tkR g tr x y = 0 then oL (rowO g l tr x y true) else (tkR g tr x y).toInt64
def fShort (g : ShG) (l : LkG) (tr : Nat → TrG) (x y : Int32) : Int32 := if tkR g tr x y = 0 then oI (rowO g l tr x y false) else tkR g tr x y
theorem c_takeRow {d : Nat} {h : Hp} {g : ShG} {l : LkG} {tr : Nat → TrG} {x y : Int32} {Q : Po} (wf : WF h) (cs : CS 31 g h) (cl : CL 39 g l h) (ca : CTA tr h) (kE : ∀ z, ¬ z = 0 → tkR g tr x y = z → Q (.int z) h) (k0 : ∀ t so n vs w h1, ixN x 4 = some t → tr t = some (so, n, vs) → wh y = some w → 1 ≤ n → n ≤ 8 → awB vs (tot g) n = true → tkR g tr x y = 0 → Fq scC h h1 → LGN (vN g vs) n h1 → Q (.int 0) h1) : wpC (d + 3) true 179 [.ref 10, .int x, .int y] h Q := by
  have hN := tot_b cs.1
  have he := evr_b cs.1
  have h8 := cs.1.2.2.2.1
  have h4 := cs.1.2.2.2.2.2.1
  refine go_in rfl ?_
  have X21 : ∀ (kn : Nat), (kn ≤ 1) → (¬ kn = 0 → ∃ w, wh y = some w) → (kn = 0 → wh y = none) → Go (d + 2) true 179 21 [.ref 10, .int x, .int y, mk_, mk_] [.int (nI kn)] h Q := by
    intro kn hw9 hw1 hw0
    refine exf_go 3 (show wpC (d + 2) true 159 [.int x] h (fun r h' => Go (d + 2) true 179 26 [.ref 10, .int x, .int y, .int (nI kn), mk_] [r] h' Q) from ?_)
    refine c_isTray (x := x) (fun et etq => ?_) (fun et etq => ?_) (fun et etq => ?_) (fun et etq => ?_) (fun et => ?_)
    · skip
      subst etq
      show Go (d + 2) true 179 26 [.ref 10, .int 0, .int y, .int (nI kn), mk_] [.int 1] h Q
      refine exf_go 1 (show ((1 : Int32) = 0 → Go (d + 2) true 179 33 [.ref 10, .int 0, .int y, .int (nI kn), mk_] [] h Q) ∧ (¬ ((1 : Int32) = 0) → Go (d + 2) true 179 29 [.ref 10, .int 0, .int y, .int (nI kn), mk_] [] h Q) from ⟨fun c1 => ?_, fun c1 => ?_⟩)
      · skip
        exact absurd c1 (by decide)
      · skip
        refine exf_go 2 (show (¬ (nI kn) = 0 → Go (d + 2) true 179 36 [.ref 10, .int 0, .int y, .int (nI kn), mk_] [] h Q) ∧ (¬ (¬ (nI kn) = 0) → Go (d + 2) true 179 33 [.ref 10, .int 0, .int y, .int (nI kn), mk_] [] h Q) from ⟨fun c2 => ?_, fun c2 => ?_⟩)
        · skip
          have c2 : ¬ kn = 0 := fun q => c2 ((nI_eq (a := kn) (b := 0) (by omega) (by omega)).mpr q)
          refine exf_go 4 (show vp_in (0 : Int32) 4 ∧ (rN h 87 0 = true → Go (d + 2) true 179 42 [.ref 10, .int 0, .int y, .int (nI kn), mk_] [.ref 88] h Q) ∧ (rN h 87 0 = false → Go (d + 2) true 179 42 [.ref 10, .int 0, .int y, .int (nI kn), mk_] [.null] h Q) from ⟨vp_in_nI (n := 0) (by decide) (by decide), fun c3 => ?_, fun c3 => ?_⟩)
          · skip
            refine exf_go 3 (show wpC (d + 2) true 102 [.ref 88] h (fun r h' => Go (d + 2) true 179 49 [.ref 10, .int 0, .int y, .int (nI kn), .ref 88] [r] h' Q) from ?_)
            rcases hq : tr 0 with _ | ⟨so, n, vs⟩
            · skip
              have ct : CT 0 none h := by have := ca 0 (by decide); rw [hq] at this; exact this
              refine c_miss10 ct ?_
              show Go (d + 2) true 179 49 [.ref 10, .int 0, .int y, .int (nI kn), .ref 88] [.int 1] h Q
              refine exf_go 1 (show ((1 : Int32) = 0 → Go (d + 2) true 179 55 [.ref 10, .int 0, .int y, .int (nI kn), .ref 88] [] h Q) ∧ (¬ ((1 : Int32) = 0) → Go (d + 2) true 179 52 [.ref 10, .int 0, .int y, .int (nI kn), .ref 88] [] h Q) from ⟨fun c4 => ?_, fun c4 => ?_⟩)
              · skip
                exact absurd c4 (by decide)
              · skip
                refine exf_go 2 (show Q (.int (-6)) h from ?_)
                obtain ⟨wy, hwy⟩ := hw1 (by omega)
                exact kE _ (by decide) (by unfold tkR; rw [et]; simp only [hwy, hq])
            · skip
              have ct : CT 0 (some (so, n, vs)) h := by have := ca 0 (by decide); rw [hq] at this; exact this
              have hn4 := ct.2.1; have hs3 := ct.1
              refine c_miss00 ct ?_
              show Go (d + 2) true 179 49 [.ref 10, .int 0, .int y, .int (nI kn), .ref 88] [.int 0] h Q
              refine exf_go 1 (show ((0 : Int32) = 0 → Go (d + 2) true 179 55 [.ref 10, .int 0, .int y, .int (nI kn), .ref 88] [] h Q) ∧ (¬ ((0 : Int32) = 0) → Go (d + 2) true 179 52 [.ref 10, .int 0, .int y, .int (nI kn), .ref 88] [] h Q) from ⟨fun c5 => ?_, fun c5 => ?_⟩)
              · skip
                refine exf_go 2 (show Go (d + 2) true 179 60 [.ref 10, .int 0, .int y, .int (nI kn), .ref 88] [.int (rI h 88 2)] h Q from ?_)
                rw [show (rI h 88 2 : Int32) = nI n from ct.2.2.2.1]
                refine exf_go 2 (show ((nI n) < 1 → Go (d + 2) true 179 74 [.ref 10, .int 0, .int y, .int (nI kn), .ref 88] [] h Q) ∧ (¬ ((nI n) < 1) → Go (d + 2) true 179 64 [.ref 10, .int 0, .int y, .int (nI kn), .ref 88] [] h Q) from ⟨fun c6 => ?_, fun c6 => ?_⟩)
                · skip
                  have c6 : n < 1 := (nI_ltI (a := n) (b := 1) (by omega) (by omega)).mp c6
                  refine exf_go 2 (show Q (.int (-4)) h from ?_)
                  obtain ⟨wy, hwy⟩ := hw1 (by omega)
                  exact kE _ (by decide) (by unfold tkR; rw [et]; simp only [hwy, hq]; rw [if_pos (by omega)])
                · skip
                  have c6 : ¬ n < 1 := fun q => c6 ((nI_ltI (a := n) (b := 1) (by omega) (by omega)).mpr q)
                  refine exf_go 2 (show Go (d + 2) true 179 69 [.ref 10, .int 0, .int y, .int (nI kn), .ref 88] [.int (rI h 88 2)] h Q from ?_)
                  rw [show (rI h 88 2 : Int32) = nI n from ct.2.2.2.1]
                  refine exf_go 2 (show ((nI n) ≤ 8 → Go (d + 2) true 179 77 [.ref 10, .int 0, .int y, .int (nI kn), .ref 88] [] h Q) ∧ (¬ ((nI n) ≤ 8) → Go (d + 2) true 179 74 [.ref 10, .int 0, .int y, .int (nI kn), .ref 88] [] h Q) from ⟨fun c7 => ?_, fun c7 => ?_⟩)
                  · skip
                    have c7 : n ≤ 8 := (nI_leI (a := n) (b := 8) (by omega) (by omega)).mp c7
                    refine exf_go 4 (show Go (d + 2) true 179 86 [.ref 10, .int 0, .int y, .int (nI kn), .ref 88] [.int (rI h 31 5), .ref 88] h Q from ?_)
                    rw [show (rI h 31 5 : Int32) = nI (tot g) from cs_N cs]
                    refine exf_go 2 (show Go (d + 2) true 179 88 [.ref 10, .int 0, .int y, .int (nI kn), .ref 88] [.int ((nI (tot g)) - 1), .ref 88] h Q from ?_)
                    rw [show ((nI (tot g)) - 1 : Int32) = nI ((tot g) - 1) from pk_sub (a := (tot g)) (b := 1) (by omega)]
                    refine exf_go 1 (show wpC (d + 2) true 106 [.ref 88, .int (nI ((tot g) - 1))] h (fun r h' => Go (d + 2) true 179 91 [.ref 10, .int 0, .int y, .int (nI kn), .ref 88] [r] h' Q) from ?_)
                    refine c_aw0 ct (N := tot g - 1) (by omega) (fun haw => ?_) (fun haw => ?_)
                    · skip
                      rw [show tot g - 1 + 1 = tot g from by omega] at haw
                      show Go (d + 2) true 179 91 [.ref 10, .int 0, .int y, .int (nI kn), .ref 88] [.int 1] h Q
                      refine exf_go 1 (show ((1 : Int32) = 0 → Go (d + 2) true 179 107 [.ref 10, .int 0, .int y, .int (nI kn), .ref 88] [] h Q) ∧ (¬ ((1 : Int32) = 0) → Go (d + 2) true 179 94 [.ref 10, .int 0, .int y, .int (nI kn), .ref 88] [] h Q) from ⟨fun c8 => ?_, fun c8 => ?_⟩)
                      · skip
                        exact absurd c8 (by decide)
                      · skip
                        refine exf_go 2 (show wpC (d + 2) true 108 [.ref 88] h (fun r h' => Go (d + 2) true 179 99 [.ref 10, .int 0, .int y, .int (nI kn), .ref 88] [r] h' Q) from ?_)
                        refine c_unl0 ct ?_
                        have hul : unl vs n ≤ n := cntN_le _ n
                        show Go (d + 2) true 179 99 [.ref 10, .int 0, .int y, .int (nI kn), .ref 88] [.int (nI (unl vs n))] h Q
                        refine exf_go 2 (show Go (d + 2) true 179 104 [.ref 10, .int 0, .int y, .int (nI kn), .ref 88] [.int (rI h 88 2), .int (nI (unl vs n))] h Q from ?_)
                        rw [show (rI h 88 2 : Int32) = nI n from ct.2.2.2.1]
                        refine exf_go 1 (show ((nI n) ≤ (nI (unl vs n)) → Go (d + 2) true 179 110 [.ref 10, .int 0, .int y, .int (nI kn), .ref 88] [] h Q) ∧ (¬ ((nI n) ≤ (nI (unl vs n))) → Go (d + 2) true 179 107 [.ref 10, .int 0, .int y, .int (nI kn), .ref 88] [] h Q) from ⟨fun c9 => ?_, fun c9 => ?_⟩)
                        · skip
                          have c9 : n ≤ (unl vs n) := (nI_leI (a := n) (b := (unl vs n)) (by omega) (by omega)).mp c9
                          refine exf_go 4 (show wpC (d + 2) true 18 [.ref 78, .ref 88] h (fun _ h' => Go (d + 2) true 179 119 [.ref 10, .int 0, .int y, .int (nI kn), .ref 88] [] h' Q) from ?_)
                          refine c_lglay0 (v := vN g vs) ct (by omega) (fun i hi => (vN_at cs.1 haw hi).1) (fun h1 q1 ln1 => ?_)
                          show Go (d + 2) true 179 119 [.ref 10, .int 0, .int y, .int (nI kn), .ref 88] [] h1 Q
                          refine exf_go 2 (show Q (.int 0) h1 from ?_)
                          obtain ⟨wy, hwy⟩ := hw1 (by omega)
                          exact k0 _ so n vs wy h1 et hq hwy (by omega) (by omega) haw (by unfold tkR; rw [et]; simp only [hwy, hq]; rw [if_neg (by omega), if_pos ⟨haw, by omega⟩]) q1 ln1
                        · skip
                          have c9 : ¬ n ≤ (unl vs n) := fun q => c9 ((nI_leI (a := n) (b := (unl vs n)) (by omega) (by omega)).mpr q)
                          refine exf_go 2 (show Q (.int (-3)) h from ?_)
                          obtain ⟨wy, hwy⟩ := hw1 (by omega)
                          exact kE _ (by decide) (by unfold tkR; rw [et]; simp only [hwy, hq]; rw [if_neg (by omega), if_neg (fun q => by first | (rw [haw] at q; exact Bool.noConfusion q.1) | omega)])
                    · skip
                      rw [show tot g - 1 + 1 = tot g from by omega] at haw
                      show Go (d + 2) true 179 91 [.ref 10, .int 0, .int y, .int (nI kn), .ref 88] [.int 0] h Q
                      refine exf_go 1 (show ((0 : Int32) = 0 → Go (d + 2) true 179 107 [.ref 10, .int 0, .int y, .int (nI kn), .ref 88] [] h Q) ∧ (¬ ((0 : Int32) = 0) → Go (d + 2) true 179 94 [.ref 10, .int 0, .int y, .int (nI kn), .ref 88] [] h Q) from ⟨fun c10 => ?_, fun c10 => ?_⟩)
                      · skip
                        refine exf_go 2 (show Q (.int (-3)) h from ?_)
                        obtain ⟨wy, hwy⟩ := hw1 (by omega)
                        exact kE _ (by decide) (by unfold tkR; rw [et]; simp only [hwy, hq]; rw [if_neg (by omega), if_neg (fun q => by first | (rw [haw] at q; exact Bool.noConfusion q.1) | omega)])
                      · skip
                        exact absurd (by decide) c10
                  · skip
                    have c7 : ¬ n ≤ 8 := fun q => c7 ((nI_leI (a := n) (b := 8) (by omega) (by omega)).mpr q)
                    refine exf_go 2 (show Q (.int (-4)) h from ?_)
                    obtain ⟨wy, hwy⟩ := hw1 (by omega)
                    exact kE _ (by decide) (by unfold tkR; rw [et]; simp only [hwy, hq]; rw [if_pos (by omega)])
              · skip
                exact absurd (by decide) c5
          · skip
            exact absurd (((wf.2.2 87 0 rfl)).symm.trans c3) (by decide)
        · skip
          have c2 : kn = 0 := (nI_eq (a := kn) (b := 0) (by omega) (by omega)).mp (Classical.not_not.mp c2)
          refine exf_go 2 (show Q (.int (-2)) h from ?_)
          exact kE _ (by decide) (by unfold tkR; first | (rw [et]; done) | rw [et, hw0 (by assumption)])
    · skip
      subst etq
      show Go (d + 2) true 179 26 [.ref 10, .int 1, .int y, .int (nI kn), mk_] [.int 1] h Q
      refine exf_go 1 (show ((1 : Int32) = 0 → Go (d + 2) true 179 33 [.ref 10, .int 1, .int y, .int (nI kn), mk_] [] h Q) ∧ (¬ ((1 : Int32) = 0) → Go (d + 2) true 179 29 [.ref 10, .int 1, .int y, .int (nI kn), mk_] [] h Q) from ⟨fun c11 => ?_, fun c11 => ?_⟩)
      · skip
        exact absurd c11 (by decide)
      · skip
        refine exf_go 2 (show (¬ (nI kn) = 0 → Go (d + 2) true 179 36 [.ref 10, .int 1, .int y, .int (nI kn), mk_] [] h Q) ∧ (¬ (¬ (nI kn) = 0) → Go (d + 2) true 179 33 [.ref 10, .int 1, .int y, .int (nI kn), mk_] [] h Q) from ⟨fun c12 => ?_, fun c12 => ?_⟩)
        · skip
          have c12 : ¬ kn = 0 := fun q => c12 ((nI_eq (a := kn) (b := 0) (by omega) (by omega)).mpr q)
          refine exf_go 4 (show vp_in (1 : Int32) 4 ∧ (rN h 87 1 = true → Go (d + 2) true 179 42 [.ref 10, .int 1, .int y, .int (nI kn), mk_] [.ref 90] h Q) ∧ (rN h 87 1 = false → Go (d + 2) true 179 42 [.ref 10, .int 1, .int y, .int (nI kn), mk_] [.null] h Q) from ⟨vp_in_nI (n := 1) (by decide) (by decide), fun c13 => ?_, fun c13 => ?_⟩)
          · skip
            refine exf_go 3 (show wpC (d + 2) true 102 [.ref 90] h (fun r h' => Go (d + 2) true 179 49 [.ref 10, .int 1, .int y, .int (nI kn), .ref 90] [r] h' Q) from ?_)
            rcases hq : tr 1 with _ | ⟨so, n, vs⟩
            · skip
              have ct : CT 1 none h := by have := ca 1 (by decide); rw [hq] at this; exact this
              refine c_miss11 ct ?_
              show Go (d + 2) true 179 49 [.ref 10, .int 1, .int y, .int (nI kn), .ref 90] [.int 1] h Q
              refine exf_go 1 (show ((1 : Int32) = 0 → Go (d + 2) true 179 55 [.ref 10, .int 1, .int y, .int (nI kn), .ref 90] [] h Q) ∧ (¬ ((1 : Int32) = 0) → Go (d + 2) true 179 52 [.ref 10, .int 1, .int y, .int (nI kn), .ref 90] [] h Q) from ⟨fun c14 => ?_, fun c14 => ?_⟩)
              · skip
                exact absurd c14 (by decide)
              · skip
                refine exf_go 2 (show Q (.int (-6)) h from ?_)
                obtain ⟨wy, hwy⟩ := hw1 (by omega)
                exact kE _ (by decide) (by unfold tkR; rw [et]; simp only [hwy, hq])
            · skip
              have ct : CT 1 (some (so, n, vs)) h := by have := ca 1 (by decide); rw [hq] at this; exact this
              have hn4 := ct.2.1; have hs3 := ct.1
              refine c_miss01 ct ?_
              show Go (d + 2) true 179 49 [.ref 10, .int 1, .int y, .int (nI kn), .ref 90] [.int 0] h Q
              refine exf_go 1 (show ((0 : Int32) = 0 → Go (d + 2) true 179 55 [.ref 10, .int 1, .int y, .int (nI kn), .ref 90] [] h Q) ∧ (¬ ((0 : Int32) = 0) → Go (d + 2) true 179 52 [.ref 10, .int 1, .int y, .int (nI kn), .ref 90] [] h Q) from ⟨fun c15 => ?_, fun c15 => ?_⟩)
              · skip
                refine exf_go 2 (show Go (d + 2) true 179 60 [.ref 10, .int 1, .int y, .int (nI kn), .ref 90] [.int (rI h 90 2)] h Q from ?_)
                rw [show (rI h 90 2 : Int32) = nI n from ct.2.2.2.1]
                refine exf_go 2 (show ((nI n) < 1 → Go (d + 2) true 179 74 [.ref 10, .int 1, .int y, .int (nI kn), .ref 90] [] h Q) ∧ (¬ ((nI n) < 1) → Go (d + 2) true 179 64 [.ref 10, .int 1, .int y, .int (nI kn), .ref 90] [] h Q) from ⟨fun c16 => ?_, fun c16 => ?_⟩)
                · skip
                  have c16 : n < 1 := (nI_ltI (a := n) (b := 1) (by omega) (by omega)).mp c16
                  refine exf_go 2 (show Q (.int (-4)) h from ?_)
                  obtain ⟨wy, hwy⟩ := hw1 (by omega)
                  exact kE _ (by decide) (by unfold tkR; rw [et]; simp only [hwy, hq]; rw [if_pos (by omega)])
                · skip
                  have c16 : ¬ n < 1 := fun q => c16 ((nI_ltI (a := n) (b := 1) (by omega) (by omega)).mpr q)
                  refine exf_go 2 (show Go (d + 2) true 179 69 [.ref 10, .int 1, .int y, .int (nI kn), .ref 90] [.int (rI h 90 2)] h Q from ?_)
                  rw [show (rI h 90 2 : Int32) = nI n from ct.2.2.2.1]
                  refine exf_go 2 (show ((nI n) ≤ 8 → Go (d + 2) true 179 77 [.ref 10, .int 1, .int y, .int (nI kn), .ref 90] [] h Q) ∧ (¬ ((nI n) ≤ 8) → Go (d + 2) true 179 74 [.ref 10, .int 1, .int y, .int (nI kn), .ref 90] [] h Q) from ⟨fun c17 => ?_, fun c17 => ?_⟩)
                  · skip
                    have c17 : n ≤ 8 := (nI_leI (a := n) (b := 8) (by omega) (by omega)).mp c17
                    refine exf_go 4 (show Go (d + 2) true 179 86 [.ref 10, .int 1, .int y, .int (nI kn), .ref 90] [.int (rI h 31 5), .ref 90] h Q from ?_)
                    rw [show (rI h 31 5 : Int32) = nI (tot g) from cs_N cs]
                    refine exf_go 2 (show Go (d + 2) true 179 88 [.ref 10, .int 1, .int y, .int (nI kn), .ref 90] [.int ((nI (tot g)) - 1), .ref 90] h Q from ?_)
                    rw [show ((nI (tot g)) - 1 : Int32) = nI ((tot g) - 1) from pk_sub (a := (tot g)) (b := 1) (by omega)]
                    refine exf_go 1 (show wpC (d + 2) true 106 [.ref 90, .int (nI ((tot g) - 1))] h (fun r h' => Go (d + 2) true 179 91 [.ref 10, .int 1, .int y, .int (nI kn), .ref 90] [r] h' Q) from ?_)
                    refine c_aw1 ct (N := tot g - 1) (by omega) (fun haw => ?_) (fun haw => ?_)
                    · skip
                      rw [show tot g - 1 + 1 = tot g from by omega] at haw
                      show Go (d + 2) true 179 91 [.ref 10, .int 1, .int y, .int (nI kn), .ref 90] [.int 1] h Q
                      refine exf_go 1 (show ((1 : Int32) = 0 → Go (d + 2) true 179 107 [.ref 10, .int 1, .int y, .int (nI kn), .ref 90] [] h Q) ∧ (¬ ((1 : Int32) = 0) → Go (d + 2) true 179 94 [.ref 10, .int 1, .int y, .int (nI kn), .ref 90] [] h Q) from ⟨fun c18 => ?_, fun c18 => ?_⟩)
                      · skip
                        exact absurd c18 (by decide)
                      · skip
                        refine exf_go 2 (show wpC (d + 2) true 108 [.ref 90] h (fun r h' => Go (d + 2) true 179 99 [.ref 10, .int 1, .int y, .int (nI kn), .ref 90] [r] h' Q) from ?_)
                        refine c_unl1 ct ?_
                        have hul : unl vs n ≤ n := cntN_le _ n
                        show Go (d + 2) true 179 99 [.ref 10, .int 1, .int y, .int (nI kn), .ref 90] [.int (nI (unl vs n))] h Q
                        refine exf_go 2 (show Go (d + 2) true 179 104 [.ref 10, .int 1, .int y, .int (nI kn), .ref 90] [.int (rI h 90 2), .int (nI (unl vs n))] h Q from ?_)
                        rw [show (rI h 90 2 : Int32) = nI n from ct.2.2.2.1]
                        refine exf_go 1 (show ((nI n) ≤ (nI (unl vs n)) → Go (d + 2) true 179 110 [.ref 10, .int 1, .int y, .int (nI kn), .ref 90] [] h Q) ∧ (¬ ((nI n) ≤ (nI (unl vs n))) → Go (d + 2) true 179 107 [.ref 10, .int 1, .int y, .int (nI kn), .ref 90] [] h Q) from ⟨fun c19 => ?_, fun c19 => ?_⟩)
                        · skip
                          have c19 : n ≤ (unl vs n) := (nI_leI (a := n) (b := (unl vs n)) (by omega) (by omega)).mp c19
                          refine exf_go 4 (show wpC (d + 2) true 18 [.ref 78, .ref 90] h (fun _ h' => Go (d + 2) true 179 119 [.ref 10, .int 1, .int y, .int (nI kn), .ref 90] [] h' Q) from ?_)
                          refine c_lglay1 (v := vN g vs) ct (by omega) (fun i hi => (vN_at cs.1 haw hi).1) (fun h1 q1 ln1 => ?_)
                          show Go (d + 2) true 179 119 [.ref 10, .int 1, .int y, .int (nI kn), .ref 90] [] h1 Q
                          refine exf_go 2 (show Q (.int 0) h1 from ?_)
                          obtain ⟨wy, hwy⟩ := hw1 (by omega)
                          exact k0 _ so n vs wy h1 et hq hwy (by omega) (by omega) haw (by unfold tkR; rw [et]; simp only [hwy, hq]; rw [if_neg (by omega), if_pos ⟨haw, by omega⟩]) q1 ln1
                        · skip
                          have c19 : ¬ n ≤ (unl vs n) := fun q => c19 ((nI_leI (a := n) (b := (unl vs n)) (by omega) (by omega)).mpr q)
                          refine exf_go 2 (show Q (.int (-3)) h from ?_)
                          obtain ⟨wy, hwy⟩ := hw1 (by omega)
                          exact kE _ (by decide) (by unfold tkR; rw [et]; simp only [hwy, hq]; rw [if_neg (by omega), if_neg (fun q => by first | (rw [haw] at q; exact Bool.noConfusion q.1) | omega)])
                    · skip
                      rw [show tot g - 1 + 1 = tot g from by omega] at haw
                      show Go (d + 2) true 179 91 [.ref 10, .int 1, .int y, .int (nI kn), .ref 90] [.int 0] h Q
                      refine exf_go 1 (show ((0 : Int32) = 0 → Go (d + 2) true 179 107 [.ref 10, .int 1, .int y, .int (nI kn), .ref 90] [] h Q) ∧ (¬ ((0 : Int32) = 0) → Go (d + 2) true 179 94 [.ref 10, .int 1, .int y, .int (nI kn), .ref 90] [] h Q) from ⟨fun c20 => ?_, fun c20 => ?_⟩)
                      · skip
                        refine exf_go 2 (show Q (.int (-3)) h from ?_)
                        obtain ⟨wy, hwy⟩ := hw1 (by omega)
                        exact kE _ (by decide) (by unfold tkR; rw [et]; simp only [hwy, hq]; rw [if_neg (by omega), if_neg (fun q => by first | (rw [haw] at q; exact Bool.noConfusion q.1) | omega)])
                      · skip
                        exact absurd (by decide) c20
                  · skip
                    have c17 : ¬ n ≤ 8 := fun q => c17 ((nI_leI (a := n) (b := 8) (by omega) (by omega)).mpr q)
                    refine exf_go 2 (show Q (.int (-4)) h from ?_)
                    obtain ⟨wy, hwy⟩ := hw1 (by omega)
                    exact kE _ (by decide) (by unfold tkR; rw [et]; simp only [hwy, hq]; rw [if_pos (by omega)])
              · skip
                exact absurd (by decide) c15
          · skip
            exact absurd (((wf.2.2 87 1 rfl)).symm.trans c13) (by decide)
        · skip
          have c12 : kn = 0 := (nI_eq (a := kn) (b := 0) (by omega) (by omega)).mp (Classical.not_not.mp c12)
          refine exf_go 2 (show Q (.int (-2)) h from ?_)
          exact kE _ (by decide) (by unfold tkR; first | (rw [et]; done) | rw [et, hw0 (by assumption)])
    · skip
      subst etq
      show Go (d + 2) true 179 26 [.ref 10, .int 2, .int y, .int (nI kn), mk_] [.int 1] h Q
      refine exf_go 1 (show ((1 : Int32) = 0 → Go (d + 2) true 179 33 [.ref 10, .int 2, .int y, .int (nI kn), mk_] [] h Q) ∧ (¬ ((1 : Int32) = 0) → Go (d + 2) true 179 29 [.ref 10, .int 2, .int y, .int (nI kn), mk_] [] h Q) from ⟨fun c21 => ?_, fun c21 => ?_⟩)
      · skip
        exact absurd c21 (by decide)
      · skip
        refine exf_go 2 (show (¬ (nI kn) = 0 → Go (d + 2) true 179 36 [.ref 10, .int 2, .int y, .int (nI kn), mk_] [] h Q) ∧ (¬ (¬ (nI kn) = 0) → Go (d + 2) true 179 33 [.ref 10, .int 2, .int y, .int (nI kn), mk_] [] h Q) from ⟨fun c22 => ?_, fun c22 => ?_⟩)
        · skip
          have c22 : ¬ kn = 0 := fun q => c22 ((nI_eq (a := kn) (b := 0) (by omega) (by omega)).mpr q)
          refine exf_go 4 (show vp_in (2 : Int32) 4 ∧ (rN h 87 2 = true → Go (d + 2) true 179 42 [.ref 10, .int 2, .int y, .int (nI kn), mk_] [.ref 92] h Q) ∧ (rN h 87 2 = false → Go (d + 2) true 179 42 [.ref 10, .int 2, .int y, .int (nI kn), mk_] [.null] h Q) from ⟨vp_in_nI (n := 2) (by decide) (by decide), fun c23 => ?_, fun c23 => ?_⟩)
          · skip
            refine exf_go 3 (show wpC (d + 2) true 102 [.ref 92] h (fun r h' => Go (d + 2) true 179 49 [.ref 10, .int 2, .int y, .int (nI kn), .ref 92] [r] h' Q) from ?_)
            rcases hq : tr 2 with _ | ⟨so, n, vs⟩
            · skip
              have ct : CT 2 none h := by have := ca 2 (by decide); rw [hq] at this; exact this
              refine c_miss12 ct ?_
              show Go (d + 2) true 179 49 [.ref 10, .int 2, .int y, .int (nI kn), .ref 92] [.int 1] h Q
              refine exf_go 1 (show ((1 : Int32) = 0 → Go (d + 2) true 179 55 [.ref 10, .int 2, .int y, .int (nI kn), .ref 92] [] h Q) ∧ (¬ ((1 : Int32) = 0) → Go (d + 2) true 179 52 [.ref 10, .int 2, .int y, .int (nI kn), .ref 92] [] h Q) from ⟨fun c24 => ?_, fun c24 => ?_⟩)
              · skip
                exact absurd c24 (by decide)
              · skip
                refine exf_go 2 (show Q (.int (-6)) h from ?_)
                obtain ⟨wy, hwy⟩ := hw1 (by omega)
                exact kE _ (by decide) (by unfold tkR; rw [et]; simp only [hwy, hq])
            · skip
              have ct : CT 2 (some (so, n, vs)) h := by have := ca 2 (by decide); rw [hq] at this; exact this
              have hn4 := ct.2.1; have hs3 := ct.1
              refine c_miss02 ct ?_
              show Go (d + 2) true 179 49 [.ref 10, .int 2, .int y, .int (nI kn), .ref 92] [.int 0] h Q
              refine exf_go 1 (show ((0 : Int32) = 0 → Go (d + 2) true 179 55 [.ref 10, .int 2, .int y, .int (nI kn), .ref 92] [] h Q) ∧ (¬ ((0 : Int32) = 0) → Go (d + 2) true 179 52 [.ref 10, .int 2, .int y, .int (nI kn), .ref 92] [] h Q) from ⟨fun c25 => ?_, fun c25 => ?_⟩)
              · skip
                refine exf_go 2 (show Go (d + 2) true 179 60 [.ref 10, .int 2, .int y, .int (nI kn), .ref 92] [.int (rI h 92 2)] h Q from ?_)
                rw [show (rI h 92 2 : Int32) = nI n from ct.2.2.2.1]
                refine exf_go 2 (show ((nI n) < 1 → Go (d + 2) true 179 74 [.ref 10, .int 2, .int y, .int (nI kn), .ref 92] [] h Q) ∧ (¬ ((nI n) < 1) → Go (d + 2) true 179 64 [.ref 10, .int 2, .int y, .int (nI kn), .ref 92] [] h Q) from ⟨fun c26 => ?_, fun c26 => ?_⟩)
                · skip
                  have c26 : n < 1 := (nI_ltI (a := n) (b := 1) (by omega) (by omega)).mp c26
                  refine exf_go 2 (show Q (.int (-4)) h from ?_)
                  obtain ⟨wy, hwy⟩ := hw1 (by omega)
                  exact kE _ (by decide) (by unfold tkR; rw [et]; simp only [hwy, hq]; rw [if_pos (by omega)])
                · skip
                  have c26 : ¬ n < 1 := fun q => c26 ((nI_ltI (a := n) (b := 1) (by omega) (by omega)).mpr q)
                  refine exf_go 2 (show Go (d + 2) true 179 69 [.ref 10, .int 2, .int y, .int (nI kn), .ref 92] [.int (rI h 92 2)] h Q from ?_)
                  rw [show (rI h 92 2 : Int32) = nI n from ct.2.2.2.1]
                  refine exf_go 2 (show ((nI n) ≤ 8 → Go (d + 2) true 179 77 [.ref 10, .int 2, .int y, .int (nI kn), .ref 92] [] h Q) ∧ (¬ ((nI n) ≤ 8) → Go (d + 2) true 179 74 [.ref 10, .int 2, .int y, .int (nI kn), .ref 92] [] h Q) from ⟨fun c27 => ?_, fun c27 => ?_⟩)
                  · skip
                    have c27 : n ≤ 8 := (nI_leI (a := n) (b := 8) (by omega) (by omega)).mp c27
                    refine exf_go 4 (show Go (d + 2) true 179 86 [.ref 10, .int 2, .int y, .int (nI kn), .ref 92] [.int (rI h 31 5), .ref 92] h Q from ?_)
                    rw [show (rI h 31 5 : Int32) = nI (tot g) from cs_N cs]
                    refine exf_go 2 (show Go (d + 2) true 179 88 [.ref 10, .int 2, .int y, .int (nI kn), .ref 92] [.int ((nI (tot g)) - 1), .ref 92] h Q from ?_)
                    rw [show ((nI (tot g)) - 1 : Int32) = nI ((tot g) - 1) from pk_sub (a := (tot g)) (b := 1) (by omega)]
                    refine exf_go 1 (show wpC (d + 2) true 106 [.ref 92, .int (nI ((tot g) - 1))] h (fun r h' => Go (d + 2) true 179 91 [.ref 10, .int 2, .int y, .int (nI kn), .ref 92] [r] h' Q) from ?_)
                    refine c_aw2 ct (N := tot g - 1) (by omega) (fun haw => ?_) (fun haw => ?_)
                    · skip
                      rw [show tot g - 1 + 1 = tot g from by omega] at haw
                      show Go (d + 2) true 179 91 [.ref 10, .int 2, .int y, .int (nI kn), .ref 92] [.int 1] h Q
                      refine exf_go 1 (show ((1 : Int32) = 0 → Go (d + 2) true 179 107 [.ref 10, .int 2, .int y, .int (nI kn), .ref 92] [] h Q) ∧ (¬ ((1 : Int32) = 0) → Go (d + 2) true 179 94 [.ref 10, .int 2, .int y, .int (nI kn), .ref 92] [] h Q) from ⟨fun c28 => ?_, fun c28 => ?_⟩)
                      · skip
                        exact absurd c28 (by decide)
                      · skip
                        refine exf_go 2 (show wpC (d + 2) true 108 [.ref 92] h (fun r h' => Go (d + 2) true 179 99 [.ref 10, .int 2, .int y, .int (nI kn), .ref 92] [r] h' Q) from ?_)
                        refine c_unl2 ct ?_
                        have hul : unl vs n ≤ n := cntN_le _ n
                        show Go (d + 2) true 179 99 [.ref 10, .int 2, .int y, .int (nI kn), .ref 92] [.int (nI (unl vs n))] h Q
                        refine exf_go 2 (show Go (d + 2) true 179 104 [.ref 10, .int 2, .int y, .int (nI kn), .ref 92] [.int (rI h 92 2), .int (nI (unl vs n))] h Q from ?_)
                        rw [show (rI h 92 2 : Int32) = nI n from ct.2.2.2.1]
                        refine exf_go 1 (show ((nI n) ≤ (nI (unl vs n)) → Go (d + 2) true 179 110 [.ref 10, .int 2, .int y, .int (nI kn), .ref 92] [] h Q) ∧ (¬ ((nI n) ≤ (nI (unl vs n))) → Go (d + 2) true 179 107 [.ref 10, .int 2, .int y, .int (nI kn), .ref 92] [] h Q) from ⟨fun c29 => ?_, fun c29 => ?_⟩)
                        · skip
                          have c29 : n ≤ (unl vs n) := (nI_leI (a := n) (b := (unl vs n)) (by omega) (by omega)).mp c29
                          refine exf_go 4 (show wpC (d + 2) true 18 [.ref 78, .ref 92] h (fun _ h' => Go (d + 2) true 179 119 [.ref 10, .int 2, .int y, .int (nI kn), .ref 92] [] h' Q) from ?_)
                          refine c_lglay2 (v := vN g vs) ct (by omega) (fun i hi => (vN_at cs.1 haw hi).1) (fun h1 q1 ln1 => ?_)
                          show Go (d + 2) true 179 119 [.ref 10, .int 2, .int y, .int (nI kn), .ref 92] [] h1 Q
                          refine exf_go 2 (show Q (.int 0) h1 from ?_)
                          obtain ⟨wy, hwy⟩ := hw1 (by omega)
                          exact k0 _ so n vs wy h1 et hq hwy (by omega) (by omega) haw (by unfold tkR; rw [et]; simp only [hwy, hq]; rw [if_neg (by omega), if_pos ⟨haw, by omega⟩]) q1 ln1
                        · skip
                          have c29 : ¬ n ≤ (unl vs n) := fun q => c29 ((nI_leI (a := n) (b := (unl vs n)) (by omega) (by omega)).mpr q)
                          refine exf_go 2 (show Q (.int (-3)) h from ?_)
                          obtain ⟨wy, hwy⟩ := hw1 (by omega)
                          exact kE _ (by decide) (by unfold tkR; rw [et]; simp only [hwy, hq]; rw [if_neg (by omega), if_neg (fun q => by first | (rw [haw] at q; exact Bool.noConfusion q.1) | omega)])
                    · skip
                      rw [show tot g - 1 + 1 = tot g from by omega] at haw
                      show Go (d + 2) true 179 91 [.ref 10, .int 2, .int y, .int (nI kn), .ref 92] [.int 0] h Q
                      refine exf_go 1 (show ((0 : Int32) = 0 → Go (d + 2) true 179 107 [.ref 10, .int 2, .int y, .int (nI kn), .ref 92] [] h Q) ∧ (¬ ((0 : Int32) = 0) → Go (d + 2) true 179 94 [.ref 10, .int 2, .int y, .int (nI kn), .ref 92] [] h Q) from ⟨fun c30 => ?_, fun c30 => ?_⟩)
                      · skip
                        refine exf_go 2 (show Q (.int (-3)) h from ?_)
                        obtain ⟨wy, hwy⟩ := hw1 (by omega)
                        exact kE _ (by decide) (by unfold tkR; rw [et]; simp only [hwy, hq]; rw [if_neg (by omega), if_neg (fun q => by first | (rw [haw] at q; exact Bool.noConfusion q.1) | omega)])
                      · skip
                        exact absurd (by decide) c30
                  · skip
                    have c27 : ¬ n ≤ 8 := fun q => c27 ((nI_leI (a := n) (b := 8) (by omega) (by omega)).mpr q)
                    refine exf_go 2 (show Q (.int (-4)) h from ?_)
                    obtain ⟨wy, hwy⟩ := hw1 (by omega)
                    exact kE _ (by decide) (by unfold tkR; rw [et]; simp only [hwy, hq]; rw [if_pos (by omega)])
              · skip
                exact absurd (by decide) c25
          · skip
            exact absurd (((wf.2.2 87 2 rfl)).symm.trans c23) (by decide)
        · skip
          have c22 : kn = 0 := (nI_eq (a := kn) (b := 0) (by omega) (by omega)).mp (Classical.not_not.mp c22)
          refine exf_go 2 (show Q (.int (-2)) h from ?_)
          exact kE _ (by decide) (by unfold tkR; first | (rw [et]; done) | rw [et, hw0 (by assumption)])
    · skip
      subst etq
      show Go (d + 2) true 179 26 [.ref 10, .int 3, .int y, .int (nI kn), mk_] [.int 1] h Q
      refine exf_go 1 (show ((1 : Int32) = 0 → Go (d + 2) true 179 33 [.ref 10, .int 3, .int y, .int (nI kn), mk_] [] h Q) ∧ (¬ ((1 : Int32) = 0) → Go (d + 2) true 179 29 [.ref 10, .int 3, .int y, .int (nI kn), mk_] [] h Q) from ⟨fun c31 => ?_, fun c31 => ?_⟩)
      · skip
        exact absurd c31 (by decide)
      · skip
        refine exf_go 2 (show (¬ (nI kn) = 0 → Go (d + 2) true 179 36 [.ref 10, .int 3, .int y, .int (nI kn), mk_] [] h Q) ∧ (¬ (¬ (nI kn) = 0) → Go (d + 2) true 179 33 [.ref 10, .int 3, .int y, .int (nI kn), mk_] [] h Q) from ⟨fun c32 => ?_, fun c32 => ?_⟩)
        · skip
          have c32 : ¬ kn = 0 := fun q => c32 ((nI_eq (a := kn) (b := 0) (by omega) (by omega)).mpr q)
          refine exf_go 4 (show vp_in (3 : Int32) 4 ∧ (rN h 87 3 = true → Go (d + 2) true 179 42 [.ref 10, .int 3, .int y, .int (nI kn), mk_] [.ref 94] h Q) ∧ (rN h 87 3 = false → Go (d + 2) true 179 42 [.ref 10, .int 3, .int y, .int (nI kn), mk_] [.null] h Q) from ⟨vp_in_nI (n := 3) (by decide) (by decide), fun c33 => ?_, fun c33 => ?_⟩)
          · skip
            refine exf_go 3 (show wpC (d + 2) true 102 [.ref 94] h (fun r h' => Go (d + 2) true 179 49 [.ref 10, .int 3, .int y, .int (nI kn), .ref 94] [r] h' Q) from ?_)
            rcases hq : tr 3 with _ | ⟨so, n, vs⟩
            · skip
              have ct : CT 3 none h := by have := ca 3 (by decide); rw [hq] at this; exact this
              refine c_miss13 ct ?_
              show Go (d + 2) true 179 49 [.ref 10, .int 3, .int y, .int (nI kn), .ref 94] [.int 1] h Q
              refine exf_go 1 (show ((1 : Int32) = 0 → Go (d + 2) true 179 55 [.ref 10, .int 3, .int y, .int (nI kn), .ref 94] [] h Q) ∧ (¬ ((1 : Int32) = 0) → Go (d + 2) true 179 52 [.ref 10, .int 3, .int y, .int (nI kn), .ref 94] [] h Q) from ⟨fun c34 => ?_, fun c34 => ?_⟩)
              · skip
                exact absurd c34 (by decide)
              · skip
                refine exf_go 2 (show Q (.int (-6)) h from ?_)
                obtain ⟨wy, hwy⟩ := hw1 (by omega)
                exact kE _ (by decide) (by unfold tkR; rw [et]; simp only [hwy, hq])
            · skip
              have ct : CT 3 (some (so, n, vs)) h := by have := ca 3 (by decide); rw [hq] at this; exact this
              have hn4 := ct.2.1; have hs3 := ct.1
              refine c_miss03 ct ?_
              show Go (d + 2) true 179 49 [.ref 10, .int 3, .int y, .int (nI kn), .ref 94] [.int 0] h Q
              refine exf_go 1 (show ((0 : Int32) = 0 → Go (d + 2) true 179 55 [.ref 10, .int 3, .int y, .int (nI kn), .ref 94] [] h Q) ∧ (¬ ((0 : Int32) = 0) → Go (d + 2) true 179 52 [.ref 10, .int 3, .int y, .int (nI kn), .ref 94] [] h Q) from ⟨fun c35 => ?_, fun c35 => ?_⟩)
              · skip
                refine exf_go 2 (show Go (d + 2) true 179 60 [.ref 10, .int 3, .int y, .int (nI kn), .ref 94] [.int (rI h 94 2)] h Q from ?_)
                rw [show (rI h 94 2 : Int32) = nI n from ct.2.2.2.1]
                refine exf_go 2 (show ((nI n) < 1 → Go (d + 2) true 179 74 [.ref 10, .int 3, .int y, .int (nI kn), .ref 94] [] h Q) ∧ (¬ ((nI n) < 1) → Go (d + 2) true 179 64 [.ref 10, .int 3, .int y, .int (nI kn), .ref 94] [] h Q) from ⟨fun c36 => ?_, fun c36 => ?_⟩)
                · skip
                  have c36 : n < 1 := (nI_ltI (a := n) (b := 1) (by omega) (by omega)).mp c36
                  refine exf_go 2 (show Q (.int (-4)) h from ?_)
                  obtain ⟨wy, hwy⟩ := hw1 (by omega)
                  exact kE _ (by decide) (by unfold tkR; rw [et]; simp only [hwy, hq]; rw [if_pos (by omega)])
                · skip
                  have c36 : ¬ n < 1 := fun q => c36 ((nI_ltI (a := n) (b := 1) (by omega) (by omega)).mpr q)
                  refine exf_go 2 (show Go (d + 2) true 179 69 [.ref 10, .int 3, .int y, .int (nI kn), .ref 94] [.int (rI h 94 2)] h Q from ?_)
                  rw [show (rI h 94 2 : Int32) = nI n from ct.2.2.2.1]
                  refine exf_go 2 (show ((nI n) ≤ 8 → Go (d + 2) true 179 77 [.ref 10, .int 3, .int y, .int (nI kn), .ref 94] [] h Q) ∧ (¬ ((nI n) ≤ 8) → Go (d + 2) true 179 74 [.ref 10, .int 3, .int y, .int (nI kn), .ref 94] [] h Q) from ⟨fun c37 => ?_, fun c37 => ?_⟩)
                  · skip
                    have c37 : n ≤ 8 := (nI_leI (a := n) (b := 8) (by omega) (by omega)).mp c37
                    refine exf_go 4 (show Go (d + 2) true 179 86 [.ref 10, .int 3, .int y, .int (nI kn), .ref 94] [.int (rI h 31 5), .ref 94] h Q from ?_)
                    rw [show (rI h 31 5 : Int32) = nI (tot g) from cs_N cs]
                    refine exf_go 2 (show Go (d + 2) true 179 88 [.ref 10, .int 3, .int y, .int (nI kn), .ref 94] [.int ((nI (tot g)) - 1), .ref 94] h Q from ?_)
                    rw [show ((nI (tot g)) - 1 : Int32) = nI ((tot g) - 1) from pk_sub (a := (tot g)) (b := 1) (by omega)]
                    refine exf_go 1 (show wpC (d + 2) true 106 [.ref 94, .int (nI ((tot g) - 1))] h (fun r h' => Go (d + 2) true 179 91 [.ref 10, .int 3, .int y, .int (nI kn), .ref 94] [r] h' Q) from ?_)
                    refine c_aw3 ct (N := tot g - 1) (by omega) (fun haw => ?_) (fun haw => ?_)
                    · skip
                      rw [show tot g - 1 + 1 = tot g from by omega] at haw
                      show Go (d + 2) true 179 91 [.ref 10, .int 3, .int y, .int (nI kn), .ref 94] [.int 1] h Q
                      refine exf_go 1 (show ((1 : Int32) = 0 → Go (d + 2) true 179 107 [.ref 10, .int 3, .int y, .int (nI kn), .ref 94] [] h Q) ∧ (¬ ((1 : Int32) = 0) → Go (d + 2) true 179 94 [.ref 10, .int 3, .int y, .int (nI kn), .ref 94] [] h Q) from ⟨fun c38 => ?_, fun c38 => ?_⟩)
                      · skip
                        exact absurd c38 (by decide)
                      · skip
                        refine exf_go 2 (show wpC (d + 2) true 108 [.ref 94] h (fun r h' => Go (d + 2) true 179 99 [.ref 10, .int 3, .int y, .int (nI kn), .ref 94] [r] h' Q) from ?_)
                        refine c_unl3 ct ?_
                        have hul : unl vs n ≤ n := cntN_le _ n
                        show Go (d + 2) true 179 99 [.ref 10, .int 3, .int y, .int (nI kn), .ref 94] [.int (nI (unl vs n))] h Q
                        refine exf_go 2 (show Go (d + 2) true 179 104 [.ref 10, .int 3, .int y, .int (nI kn), .ref 94] [.int (rI h 94 2), .int (nI (unl vs n))] h Q from ?_)
                        rw [show (rI h 94 2 : Int32) = nI n from ct.2.2.2.1]
                        refine exf_go 1 (show ((nI n) ≤ (nI (unl vs n)) → Go (d + 2) true 179 110 [.ref 10, .int 3, .int y, .int (nI kn), .ref 94] [] h Q) ∧ (¬ ((nI n) ≤ (nI (unl vs n))) → Go (d + 2) true 179 107 [.ref 10, .int 3, .int y, .int (nI kn), .ref 94] [] h Q) from ⟨fun c39 => ?_, fun c39 => ?_⟩)
                        · skip
                          have c39 : n ≤ (unl vs n) := (nI_leI (a := n) (b := (unl vs n)) (by omega) (by omega)).mp c39
                          refine exf_go 4 (show wpC (d + 2) true 18 [.ref 78, .ref 94] h (fun _ h' => Go (d + 2) true 179 119 [.ref 10, .int 3, .int y, .int (nI kn), .ref 94] [] h' Q) from ?_)
                          refine c_lglay3 (v := vN g vs) ct (by omega) (fun i hi => (vN_at cs.1 haw hi).1) (fun h1 q1 ln1 => ?_)
                          show Go (d + 2) true 179 119 [.ref 10, .int 3, .int y, .int (nI kn), .ref 94] [] h1 Q
                          refine exf_go 2 (show Q (.int 0) h1 from ?_)
                          obtain ⟨wy, hwy⟩ := hw1 (by omega)
                          exact k0 _ so n vs wy h1 et hq hwy (by omega) (by omega) haw (by unfold tkR; rw [et]; simp only [hwy, hq]; rw [if_neg (by omega), if_pos ⟨haw, by omega⟩]) q1 ln1
                        · skip
                          have c39 : ¬ n ≤ (unl vs n) := fun q => c39 ((nI_leI (a := n) (b := (unl vs n)) (by omega) (by omega)).mpr q)
                          refine exf_go 2 (show Q (.int (-3)) h from ?_)
                          obtain ⟨wy, hwy⟩ := hw1 (by omega)
                          exact kE _ (by decide) (by unfold tkR; rw [et]; simp only [hwy, hq]; rw [if_neg (by omega), if_neg (fun q => by first | (rw [haw] at q; exact Bool.noConfusion q.1) | omega)])
                    · skip
                      rw [show tot g - 1 + 1 = tot g from by omega] at haw
                      show Go (d + 2) true 179 91 [.ref 10, .int 3, .int y, .int (nI kn), .ref 94] [.int 0] h Q
                      refine exf_go 1 (show ((0 : Int32) = 0 → Go (d + 2) true 179 107 [.ref 10, .int 3, .int y, .int (nI kn), .ref 94] [] h Q) ∧ (¬ ((0 : Int32) = 0) → Go (d + 2) true 179 94 [.ref 10, .int 3, .int y, .int (nI kn), .ref 94] [] h Q) from ⟨fun c40 => ?_, fun c40 => ?_⟩)
                      · skip
                        refine exf_go 2 (show Q (.int (-3)) h from ?_)
                        obtain ⟨wy, hwy⟩ := hw1 (by omega)
                        exact kE _ (by decide) (by unfold tkR; rw [et]; simp only [hwy, hq]; rw [if_neg (by omega), if_neg (fun q => by first | (rw [haw] at q; exact Bool.noConfusion q.1) | omega)])
                      · skip
                        exact absurd (by decide) c40
                  · skip
                    have c37 : ¬ n ≤ 8 := fun q => c37 ((nI_leI (a := n) (b := 8) (by omega) (by omega)).mpr q)
                    refine exf_go 2 (show Q (.int (-4)) h from ?_)
                    obtain ⟨wy, hwy⟩ := hw1 (by omega)
                    exact kE _ (by decide) (by unfold tkR; rw [et]; simp only [hwy, hq]; rw [if_pos (by omega)])
              · skip
                exact absurd (by decide) c35
          · skip
            exact absurd (((wf.2.2 87 3 rfl)).symm.trans c33) (by decide)
        · skip
          have c32 : kn = 0 := (nI_eq (a := kn) (b := 0) (by omega) (by omega)).mp (Classical.not_not.mp c32)
          refine exf_go 2 (show Q (.int (-2)) h from ?_)
          exact kE _ (by decide) (by unfold tkR; first | (rw [et]; done) | rw [et, hw0 (by assumption)])
    · skip
      show Go (d + 2) true 179 26 [.ref 10, .int x, .int y, .int (nI kn), mk_] [.int 0] h Q
      refine exf_go 1 (show ((0 : Int32) = 0 → Go (d + 2) true 179 33 [.ref 10, .int x, .int y, .int (nI kn), mk_] [] h Q) ∧ (¬ ((0 : Int32) = 0) → Go (d + 2) true 179 29 [.ref 10, .int x, .int y, .int (nI kn), mk_] [] h Q) from ⟨fun c41 => ?_, fun c41 => ?_⟩)
      · skip
        refine exf_go 2 (show Q (.int (-2)) h from ?_)
        exact kE _ (by decide) (by unfold tkR; first | (rw [et]; done) | rw [et, hw0 (by assumption)])
      · skip
        exact absurd (by decide) c41
  refine exf_go 2 (show (y = 0 → Go (d + 2) true 179 16 [.ref 10, .int x, .int y, mk_, mk_] [] h Q) ∧ (¬ (y = 0) → Go (d + 2) true 179 4 [.ref 10, .int x, .int y, mk_, mk_] [] h Q) from ⟨fun c42 => ?_, fun c42 => ?_⟩)
  · skip
    refine exf_go 2 (show Go (d + 2) true 179 21 [.ref 10, .int x, .int y, mk_, mk_] [.int 1] h Q from ?_)
    exact X21 1 (by omega) (fun _ => ⟨0, by rw [show y = 0 from by assumption]; rfl⟩) (fun q => absurd q (by decide))
  · skip
    refine exf_go 3 (show (y < 10 → Go (d + 2) true 179 20 [.ref 10, .int x, .int y, mk_, mk_] [] h Q) ∧ (¬ (y < 10) → Go (d + 2) true 179 10 [.ref 10, .int x, .int y, mk_, mk_] [] h Q) from ⟨fun c43 => ?_, fun c43 => ?_⟩)
    · skip
      refine exf_go 1 (show Go (d + 2) true 179 21 [.ref 10, .int x, .int y, mk_, mk_] [.int 0] h Q from ?_)
      exact X21 0 (by omega) (fun q => absurd rfl q) (fun _ => wh_lo (by assumption) (by assumption))
    · skip
      refine exf_go 3 (show (18 ≤ y → Go (d + 2) true 179 20 [.ref 10, .int x, .int y, mk_, mk_] [] h Q) ∧ (¬ (18 ≤ y) → Go (d + 2) true 179 16 [.ref 10, .int x, .int y, mk_, mk_] [] h Q) from ⟨fun c44 => ?_, fun c44 => ?_⟩)
      · skip
        refine exf_go 1 (show Go (d + 2) true 179 21 [.ref 10, .int x, .int y, mk_, mk_] [.int 0] h Q from ?_)
        exact X21 0 (by omega) (fun q => absurd rfl q) (fun _ => wh_hi (by assumption) (by assumption))
      · skip
        refine exf_go 2 (show Go (d + 2) true 179 21 [.ref 10, .int x, .int y, mk_, mk_] [.int 1] h Q from ?_)
        exact X21 1 (by omega) (fun _ => (wh_in (y := y) (by assumption) (by assumption) (by assumption)).elim (fun j q => ⟨_, q.1⟩)) (fun q => absurd q (by decide))
