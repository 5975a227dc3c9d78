/-! Trying, feeling, taking back: the class's calls. -/
def scH (a _x : Nat) : Bool := Nat.ble 39 a && Nat.ble a 70
theorem scH_f {a x : Nat} (h : scH a x = false) : a < 39 ∨ 70 < a := by
  unfold scH at h
  rw [Bool.eq_false_iff] at h
  refine Classical.byContradiction fun q => h ?_
  rw [Bool.and_eq_true]
  exact ⟨Nat.ble_eq.mpr (by omega), Nat.ble_eq.mpr (by omega)⟩
theorem scH_n {a x : Nat} (h : a < 39 ∨ 70 < a) : scH a x = false := by
  unfold scH
  rw [Bool.eq_false_iff]
  intro z
  rw [Bool.and_eq_true] at z
  have h1 := Nat.ble_eq.mp z.1
  have h2 := Nat.ble_eq.mp z.2
  omega
theorem sMk_f {i a x : Nat} (h : a < 44 + 3 * i ∨ 46 + 3 * i < a) : sMk i a x = false := by
  unfold sMk
  rw [Bool.eq_false_iff]
  intro z
  rw [Bool.and_eq_true] at z
  have h1 := Nat.ble_eq.mp z.1
  have h2 := Nat.ble_eq.mp z.2
  omega
theorem sLm_f {i a x : Nat} (h0 : a < 39 ∨ 41 < a) (h : a < 44 + 3 * i ∨ 46 + 3 * i < a) : sLm i a x = false := by
  unfold sLm
  rw [Bool.or_eq_false_iff]
  refine ⟨?_, sMk_f (x := x) h⟩
  rw [Bool.eq_false_iff]
  intro z
  rw [Bool.and_eq_true] at z
  have h1 := Nat.ble_eq.mp z.1
  have h2 := Nat.ble_eq.mp z.2
  omega
theorem sL3_f {a x : Nat} (h : a < 39 ∨ 41 < a) : sL3 a x = false := by
  unfold sL3
  rw [Bool.eq_false_iff]
  intro z
  rw [Bool.and_eq_true] at z
  have h1 := Nat.ble_eq.mp z.1
  have h2 := Nat.ble_eq.mp z.2
  omega
theorem mk_H {i : Nat} (hi : i < 9) {h h1 : Hp} (q : Fq (sMk i) h h1) : Fq scH h h1 := q.mono (fun a x e => sMk_f (by have := scH_f e; omega))
theorem lm_H {i : Nat} (hi : i < 9) {h h1 : Hp} (q : Fq (sLm i) h h1) : Fq scH h h1 := q.mono (fun a x e => sLm_f (by have := scH_f e; omega) (by have := scH_f e; omega))
theorem l3_H {h h1 : Hp} (q : Fq sL3 h h1) : Fq scH h h1 := q.mono (fun a x e => sL3_f (by have := scH_f e; omega))
theorem cs_H {g : ShG} {h h1 : Hp} (cs : CS 31 g h) (q : Fq scH h h1) : CS 31 g h1 := cs_same cs (fun a u v => q.I (fun x => scH_n (by omega)))
theorem cl_same {g : ShG} {l : LkG} {h h1 : Hp} (cl : CL 39 g l h) (e9 : rI h1 39 = rI h 39) (e0 : rI h1 40 = rI h 40) (e1 : rI h1 41 = rI h 41) (ea : al h1 40 = al h 40) : CL 39 g l h1 := by
  unfold CL at *
  simp only [Nat.reduceAdd] at *
  rw [e9, e0, e1, ea]
  exact cl
theorem cl_mk {g : ShG} {l : LkG} {i : Nat} {h h1 : Hp} (cl : CL 39 g l h) (q : Fq (sMk i) h h1) : CL 39 g l h1 := cl_same cl (q.I (fun _ => sMk_f (by omega))) (q.I (fun _ => sMk_f (by omega))) (q.I (fun _ => sMk_f (by omega))) (q.L 40)
/-- what was done, how many calls can be taken back, where each led from -/
abbrev DeG : Type := LkG × Nat × (Nat → LkG)
def CD (g : ShG) (e : DeG) (h : Hp) : Prop := CL 39 g e.1 h ∧ ∃ i, CH g e.1 e.2.1 e.2.2 i h
def keepD (e : DeG) (l : LkG) : DeG := (l, min 8 (e.2.1 + 1), psh e.1 e.2.2)
def dTries (g : ShG) (e : DeG) (x : Int32) : DeG × Int32 := match ixN x (tot g) with
  | none => (e, -3)
  | some n => if lO e.1 = 1 then (e, -5) else (keepD e (tryL g e.1 n), nI (lO (tryL g e.1 n)))
def dFeel (g : ShG) (e : DeG) (x y : Int32) : DeG × Int32 := match ixN x (sW g) with
  | none => (e, -2)
  | some w => match ixN y (sF g w) with
    | none => (e, -3)
    | some f => match sO g with
      | none => (e, -5)
      | some o => (keepD e (felL g e.1 o w f), if fgo g o w = f then 1 else 0)
def undD (e : DeG) : Nat → DeG
  | 0 => e
  | n + 1 => ((undD e n).2.2 0, (undD e n).2.1 - 1, fun k => (undD e n).2.2 (k + 1))
theorem und_at (e : DeG) : ∀ n, (undD e n).2.1 = e.2.1 - n ∧ (∀ k, (undD e n).2.2 k = e.2.2 (n + k)) ∧ (undD e n).1 = curL e.1 e.2.2 n
  | 0 => ⟨rfl, fun k => by rw [Nat.zero_add]; rfl, rfl⟩
  | n + 1 => by
    have ih := und_at e n
    refine ⟨?_, fun k => ?_, ?_⟩
    · show (undD e n).2.1 - 1 = _; rw [ih.1]; omega
    · show (undD e n).2.2 (k + 1) = _; rw [ih.2.1]; exact congrArg e.2.2 (by omega)
    · show (undD e n).2.2 0 = _; rw [ih.2.1]; rfl
def dUndo (e : DeG) (x : Int32) : DeG × Int32 := match ixN (x - 1) 8 with
  | none => (e, -3)
  | some j => if j < e.2.1 then (undD e (j + 1), nI (e.2.1 - (j + 1))) else (e, -3)
theorem cd_keep {g : ShG} {e : DeG} {l : LkG} {h h1 : Hp} {i c : Nat} (ch : CH g e.1 e.2.1 e.2.2 i h) (qs : ∀ a, 42 ≤ a → a ≤ 70 → (a < 44 + 3 * i ∨ 46 + 3 * i < a) → rI h1 a = rI h a) (cl : CL 39 g l h1) (mk : CMK g i e.1 l c h1) : CD g (keepD e l) (uI (uI h1 42 1 (nI ((i + 1) % 9))) 42 2 (nI (min 8 (e.2.1 + 1)))) := ⟨cl_same cl rfl rfl rfl rfl, (i + 1) % 9, ch_keep ch qs mk⟩
theorem ch_p {g : ShG} {l : LkG} {m i : Nat} {hl : Nat → LkG} {h h1 : Hp} (ch : CH g l m hl i h) (qs : ∀ a, 42 ≤ a → a ≤ 70 → (a < 44 + 3 * i ∨ 46 + 3 * i < a) → rI h1 a = rI h a) : rI h1 42 1 = nI i ∧ rI h1 42 2 = nI m := by
  rw [qs 42 (by omega) (by omega) (by omega)]
  exact ⟨ch.2.2.1, ch.2.2.2.1⟩
theorem c_tries {d : Nat} {h : Hp} {g : ShG} {e : DeG} {x : Int32} {Q : Po} (wf : WF h) (cs : CS 31 g h) (cd : CD g e h) (k : ∀ h1, Fq scH h h1 → CD g (dTries g e x).1 h1 → Q (.int (dTries g e x).2) h1) : wpC (d + 5) true 127 [.ref 10, .int x] h Q := by
  have hN := tot_b cs.1
  have h4 := cs.1.1
  have cd0 := cd
  obtain ⟨cl, i, ch⟩ := cd
  have hi9 := ch.1; have hm8 := ch.2.1; have hO1 := cl.1.2.1
  refine go_in rfl ?_
  refine exf_go 3 (show wpC (d + 4) true 157 [.ref 10, .int x] h (fun r h' => Go (d + 4) true 127 5 [.ref 10, .int x, mk_] [r] h' Q) from ?_)
  refine c_isNumber cs (fun j1 e1 q1 r1 => ?_) (fun e1 => ?_)
  · skip
    subst q1
    show Go (d + 4) true 127 5 [.ref 10, .int (nI j1), mk_] [.int 1] h Q
    refine exf_go 1 (show (¬ (1 : Int32) = 0 → Go (d + 4) true 127 11 [.ref 10, .int (nI j1), mk_] [] h Q) ∧ (¬ (¬ (1 : Int32) = 0) → Go (d + 4) true 127 8 [.ref 10, .int (nI j1), mk_] [] h Q) from ⟨fun c2 => ?_, fun c2 => ?_⟩)
    · skip
      refine exf_go 3 (show Go (d + 4) true 127 18 [.ref 10, .int (nI j1), mk_] [.int (rI h 39 7)] h Q from ?_)
      rw [show (rI h 39 7 : Int32) = nI (lO e.1) from cl_O cl]
      refine exf_go 1 (show ((nI (lO e.1)) = 0 → Go (d + 4) true 127 24 [.ref 10, .int (nI j1), mk_] [] h Q) ∧ (¬ ((nI (lO e.1)) = 0) → Go (d + 4) true 127 21 [.ref 10, .int (nI j1), mk_] [] h Q) from ⟨fun c3 => ?_, fun c3 => ?_⟩)
      · skip
        have c3 : (lO e.1) = 0 := (nI_eq (a := (lO e.1)) (b := 0) (by omega) (by omega)).mp c3
        refine exf_go 5 (show wpC (d + 4) true 13 [.ref 42, .ref 39] h (fun r h' => Go (d + 4) true 127 35 [.ref 10, .int (nI j1), mk_] [r] h' Q) from ?_)
        refine c_mark i hi9 wf cs.1 cl ch.2.2.1 (fun h1 q1 mk1 => ?_)
        have cs1 := cs_H cs (mk_H hi9 q1); have cl1 := cl_mk cl q1
        have qs1 : ∀ a, 42 ≤ a → a ≤ 70 → (a < 44 + 3 * i ∨ 46 + 3 * i < a) → rI h1 a = rI h a := fun a u v z => q1.I (fun x => sMk_f z)
        show Go (d + 4) true 127 35 [.ref 10, .int (nI j1), mk_] [.ref (44 + 3 * i)] h1 Q
        refine exf_go 8 (show wpC (d + 4) true 34 [.ref 39, .ref 31, .int (nI j1), .ref (44 + 3 * i)] h1 (fun _ h' => Go (d + 4) true 127 49 [.ref 10, .int (nI j1), .ref (44 + 3 * i)] [] h' Q) from ?_)
        refine c_attempt i hi9 cs1 cl1 mk1 (n := j1) (by omega) (by omega) (fun h2 c2 hc2 q2 cl2 mk2 => ?_)
        have qs2 : ∀ a, 42 ≤ a → a ≤ 70 → (a < 44 + 3 * i ∨ 46 + 3 * i < a) → rI h2 a = rI h a := fun a u v z => (q2.I (fun x => sLm_f (by omega) z)).trans (qs1 a u v z)
        have hp2 := ch_p ch qs2; have hO2 := cl2.1.2.1; have qh2 : Fq scH h h2 := (mk_H hi9 q1).tr (lm_H hi9 q2)
        show Go (d + 4) true 127 49 [.ref 10, .int (nI j1), .ref (44 + 3 * i)] [] h2 Q
        refine exf_go 3 (show wpC (d + 4) true 14 [.ref 42] h2 (fun _ h' => Go (d + 4) true 127 56 [.ref 10, .int (nI j1), .ref (44 + 3 * i)] [] h' Q) from ?_)
        refine c_keep hp2.1 hp2.2 hi9 hm8 ?_
        have cd2 := cd_keep ch qs2 cl2 mk2
        have qk2 : Fq scH h _ := (qh2.uI' 42 1 (nI ((i + 1) % 9)) rfl).uI' 42 2 (nI (min 8 (e.2.1 + 1))) rfl
        show Go (d + 4) true 127 56 [.ref 10, .int (nI j1), .ref (44 + 3 * i)] [] (uI (uI h2 42 1 (nI ((i + 1) % 9))) 42 2 (nI (min 8 (e.2.1 + 1)))) Q
        refine exf_go 3 (show Go (d + 4) true 127 63 [.ref 10, .int (nI j1), .ref (44 + 3 * i)] [.int (rI h2 39 7)] (uI (uI h2 42 1 (nI ((i + 1) % 9))) 42 2 (nI (min 8 (e.2.1 + 1)))) Q from ?_)
        rw [show (rI h2 39 7 : Int32) = nI (lO (tryL g e.1 j1)) from cl_O cl2]
        refine exf_go 1 (show ((nI (lO (tryL g e.1 j1))) = 0 → Go (d + 4) true 127 70 [.ref 10, .int (nI j1), .ref (44 + 3 * i)] [] (uI (uI h2 42 1 (nI ((i + 1) % 9))) 42 2 (nI (min 8 (e.2.1 + 1)))) Q) ∧ (¬ ((nI (lO (tryL g e.1 j1))) = 0) → Go (d + 4) true 127 66 [.ref 10, .int (nI j1), .ref (44 + 3 * i)] [] (uI (uI h2 42 1 (nI ((i + 1) % 9))) 42 2 (nI (min 8 (e.2.1 + 1)))) Q) from ⟨fun c4 => ?_, fun c4 => ?_⟩)
        · skip
          have c4 : (lO (tryL g e.1 j1)) = 0 := (nI_eq (a := (lO (tryL g e.1 j1))) (b := 0) (by omega) (by omega)).mp c4
          refine exf_go 2 (show Q (.int 0) (uI (uI h2 42 1 (nI ((i + 1) % 9))) 42 2 (nI (min 8 (e.2.1 + 1)))) from ?_)
          simp only [dTries, e1] at k; rw [if_neg (by omega)] at k
          rw [show lO (tryL g e.1 j1) = 0 from by omega] at k
          exact k _ qk2 cd2
        · skip
          have c4 : ¬ (lO (tryL g e.1 j1)) = 0 := fun q => c4 ((nI_eq (a := (lO (tryL g e.1 j1))) (b := 0) (by omega) (by omega)).mpr q)
          refine exf_go 3 (show Q (.int 1) (uI (uI h2 42 1 (nI ((i + 1) % 9))) 42 2 (nI (min 8 (e.2.1 + 1)))) from ?_)
          simp only [dTries, e1] at k; rw [if_neg (by omega)] at k
          rw [show lO (tryL g e.1 j1) = 1 from by omega] at k
          exact k _ qk2 cd2
      · skip
        have c3 : ¬ (lO e.1) = 0 := fun q => c3 ((nI_eq (a := (lO e.1)) (b := 0) (by omega) (by omega)).mpr q)
        refine exf_go 2 (show Q (.int (-5)) h from ?_)
        simp only [dTries, e1] at k; rw [if_pos (by omega)] at k
        exact k _ Fq.rfl' cd0
    · skip
      exact absurd (by decide) c2
  · skip
    show Go (d + 4) true 127 5 [.ref 10, .int x, mk_] [.int 0] h Q
    refine exf_go 1 (show (¬ (0 : Int32) = 0 → Go (d + 4) true 127 11 [.ref 10, .int x, mk_] [] h Q) ∧ (¬ (¬ (0 : Int32) = 0) → Go (d + 4) true 127 8 [.ref 10, .int x, mk_] [] h Q) from ⟨fun c5 => ?_, fun c5 => ?_⟩)
    · skip
      exact absurd c5 (by decide)
    · skip
      refine exf_go 2 (show Q (.int (-3)) h from ?_)
      simp only [dTries, e1] at k
      exact k _ Fq.rfl' cd0
theorem c_feel {d : Nat} {h : Hp} {g : ShG} {e : DeG} {x y : Int32} {Q : Po} (wf : WF h) (cs : CS 31 g h) (cd : CD g e h) (k : ∀ h1, Fq scH h h1 → CD g (dFeel g e x y).1 h1 → Q (.int (dFeel g e x y).2) h1) : wpC (d + 4) true 128 [.ref 10, .int x, .int y] h Q := by
  have hN := tot_b cs.1
  have h4 := cs.1.1
  have cd0 := cd
  obtain ⟨cl, i, ch⟩ := cd
  have hi9 := ch.1; have hm8 := ch.2.1; have hO1 := cl.1.2.1
  have hob := cs.1.2.2.2.2.2.2.2.2.2.2.2.1
  refine go_in rfl ?_
  refine exf_go 3 (show wpC (d + 3) true 155 [.ref 10, .int x] h (fun r h' => Go (d + 3) true 128 5 [.ref 10, .int x, .int y, mk_] [r] h' Q) from ?_)
  refine c_isWheel cs (fun j1 e1 q1 r1 => ?_) (fun e1 => ?_)
  · skip
    subst q1
    show Go (d + 3) true 128 5 [.ref 10, .int (nI j1), .int y, mk_] [.int 1] h Q
    refine exf_go 1 (show (¬ (1 : Int32) = 0 → Go (d + 3) true 128 11 [.ref 10, .int (nI j1), .int y, mk_] [] h Q) ∧ (¬ (¬ (1 : Int32) = 0) → Go (d + 3) true 128 8 [.ref 10, .int (nI j1), .int y, mk_] [] h Q) from ⟨fun c2 => ?_, fun c2 => ?_⟩)
    · skip
      refine exf_go 4 (show wpC (d + 3) true 156 [.ref 10, .int (nI j1), .int y] h (fun r h' => Go (d + 3) true 128 17 [.ref 10, .int (nI j1), .int y, mk_] [r] h' Q) from ?_)
      refine c_isFigure cs (by omega) (fun j3 e3 q3 r3 => ?_) (fun e3 => ?_)
      · skip
        subst q3
        show Go (d + 3) true 128 17 [.ref 10, .int (nI j1), .int (nI j3), mk_] [.int 1] h Q
        refine exf_go 1 (show (¬ (1 : Int32) = 0 → Go (d + 3) true 128 23 [.ref 10, .int (nI j1), .int (nI j3), mk_] [] h Q) ∧ (¬ (¬ (1 : Int32) = 0) → Go (d + 3) true 128 20 [.ref 10, .int (nI j1), .int (nI j3), mk_] [] h Q) from ⟨fun c4 => ?_, fun c4 => ?_⟩)
        · skip
          refine exf_go 3 (show Go (d + 3) true 128 30 [.ref 10, .int (nI j1), .int (nI j3), mk_] [.int (rI h 31 15)] h Q from ?_)
          rw [show (rI h 31 15 : Int32) = oI (sO g) from cs_O cs]
          refine exf_go 2 (show (¬ (oI (sO g)) = (-1) → Go (d + 3) true 128 37 [.ref 10, .int (nI j1), .int (nI j3), mk_] [] h Q) ∧ (¬ (¬ (oI (sO g)) = (-1)) → Go (d + 3) true 128 34 [.ref 10, .int (nI j1), .int (nI j3), mk_] [] h Q) from ⟨fun c5 => ?_, fun c5 => ?_⟩)
          · skip
            obtain ⟨o, hso⟩ : ∃ o, sO g = some o := by cases hq : sO g with | none => exact absurd (by rw [hq]; rfl) c5 | some o => exact ⟨o, rfl⟩
            refine exf_go 5 (show wpC (d + 3) true 13 [.ref 42, .ref 39] h (fun r h' => Go (d + 3) true 128 48 [.ref 10, .int (nI j1), .int (nI j3), mk_] [r] h' Q) from ?_)
            refine c_mark i hi9 wf cs.1 cl ch.2.2.1 (fun h1 q1 mk1 => ?_)
            have cs1 := cs_H cs (mk_H hi9 q1); have cl1 := cl_mk cl q1
            have qs1 : ∀ a, 42 ≤ a → a ≤ 70 → (a < 44 + 3 * i ∨ 46 + 3 * i < a) → rI h1 a = rI h a := fun a u v z => q1.I (fun x => sMk_f z)
            show Go (d + 3) true 128 48 [.ref 10, .int (nI j1), .int (nI j3), mk_] [.ref (44 + 3 * i)] h1 Q
            refine exf_go 8 (show wpC (d + 3) true 35 [.ref 39, .ref 31, .int (nI j1), .int (nI j3)] h1 (fun r h' => Go (d + 3) true 128 62 [.ref 10, .int (nI j1), .int (nI j3), mk_] [r] h' Q) from ?_)
            refine c_touch cs1 cl1 (o := o) hso (w := j1) (f := j3) (by omega) (by omega) (fun b6 h2 q2 cl2 => ?_) (fun b6 h2 q2 cl2 => ?_)
            · skip
              have qs2 : ∀ a, 42 ≤ a → a ≤ 70 → (a < 44 + 3 * i ∨ 46 + 3 * i < a) → rI h2 a = rI h a := fun a u v z => (q2.I (fun x => sL3_f (by omega))).trans (qs1 a u v z)
              have hp2 := ch_p ch qs2; have qh2 : Fq scH h h2 := (mk_H hi9 q1).tr (l3_H q2)
              have mk2 : CMK g i e.1 (felL g e.1 o j1 j3) 0 h2 := mk_T (mk_fq mk1 (q2.I (fun x => sL3_f (by omega))) (q2.I (fun x => sL3_f (by omega))) (q2.I (fun x => sL3_f (by omega)))) (fun n hn => rfl)
              show Go (d + 3) true 128 62 [.ref 10, .int (nI j1), .int (nI j3), mk_] [.int 1] h2 Q
              refine exf_go 4 (show wpC (d + 3) true 14 [.ref 42] h2 (fun _ h' => Go (d + 3) true 128 70 [.ref 10, .int (nI j1), .int (nI j3), .int 1] [] h' Q) from ?_)
              refine c_keep hp2.1 hp2.2 hi9 hm8 ?_
              have cd2 := cd_keep ch qs2 cl2 mk2
              have qk2 : Fq scH h _ := (qh2.uI' 42 1 (nI ((i + 1) % 9)) rfl).uI' 42 2 (nI (min 8 (e.2.1 + 1))) rfl
              show Go (d + 3) true 128 70 [.ref 10, .int (nI j1), .int (nI j3), .int 1] [] (uI (uI h2 42 1 (nI ((i + 1) % 9))) 42 2 (nI (min 8 (e.2.1 + 1)))) Q
              refine exf_go 2 (show ((1 : Int32) = 0 → Go (d + 3) true 128 78 [.ref 10, .int (nI j1), .int (nI j3), .int 1] [] (uI (uI h2 42 1 (nI ((i + 1) % 9))) 42 2 (nI (min 8 (e.2.1 + 1)))) Q) ∧ (¬ ((1 : Int32) = 0) → Go (d + 3) true 128 74 [.ref 10, .int (nI j1), .int (nI j3), .int 1] [] (uI (uI h2 42 1 (nI ((i + 1) % 9))) 42 2 (nI (min 8 (e.2.1 + 1)))) Q) from ⟨fun c7 => ?_, fun c7 => ?_⟩)
              · skip
                exact absurd c7 (by decide)
              · skip
                refine exf_go 3 (show Q (.int 1) (uI (uI h2 42 1 (nI ((i + 1) % 9))) 42 2 (nI (min 8 (e.2.1 + 1)))) from ?_)
                simp only [dFeel, e1, e3, hso] at k; rw [if_pos (by assumption)] at k
                exact k _ qk2 cd2
            · skip
              have qs2 : ∀ a, 42 ≤ a → a ≤ 70 → (a < 44 + 3 * i ∨ 46 + 3 * i < a) → rI h2 a = rI h a := fun a u v z => (q2.I (fun x => sL3_f (by omega))).trans (qs1 a u v z)
              have hp2 := ch_p ch qs2; have qh2 : Fq scH h h2 := (mk_H hi9 q1).tr (l3_H q2)
              have mk2 : CMK g i e.1 (felL g e.1 o j1 j3) 0 h2 := mk_T (mk_fq mk1 (q2.I (fun x => sL3_f (by omega))) (q2.I (fun x => sL3_f (by omega))) (q2.I (fun x => sL3_f (by omega)))) (fun n hn => rfl)
              show Go (d + 3) true 128 62 [.ref 10, .int (nI j1), .int (nI j3), mk_] [.int 0] h2 Q
              refine exf_go 4 (show wpC (d + 3) true 14 [.ref 42] h2 (fun _ h' => Go (d + 3) true 128 70 [.ref 10, .int (nI j1), .int (nI j3), .int 0] [] h' Q) from ?_)
              refine c_keep hp2.1 hp2.2 hi9 hm8 ?_
              have cd2 := cd_keep ch qs2 cl2 mk2
              have qk2 : Fq scH h _ := (qh2.uI' 42 1 (nI ((i + 1) % 9)) rfl).uI' 42 2 (nI (min 8 (e.2.1 + 1))) rfl
              show Go (d + 3) true 128 70 [.ref 10, .int (nI j1), .int (nI j3), .int 0] [] (uI (uI h2 42 1 (nI ((i + 1) % 9))) 42 2 (nI (min 8 (e.2.1 + 1)))) Q
              refine exf_go 2 (show ((0 : Int32) = 0 → Go (d + 3) true 128 78 [.ref 10, .int (nI j1), .int (nI j3), .int 0] [] (uI (uI h2 42 1 (nI ((i + 1) % 9))) 42 2 (nI (min 8 (e.2.1 + 1)))) Q) ∧ (¬ ((0 : Int32) = 0) → Go (d + 3) true 128 74 [.ref 10, .int (nI j1), .int (nI j3), .int 0] [] (uI (uI h2 42 1 (nI ((i + 1) % 9))) 42 2 (nI (min 8 (e.2.1 + 1)))) Q) from ⟨fun c8 => ?_, fun c8 => ?_⟩)
              · skip
                refine exf_go 2 (show Q (.int 0) (uI (uI h2 42 1 (nI ((i + 1) % 9))) 42 2 (nI (min 8 (e.2.1 + 1)))) from ?_)
                simp only [dFeel, e1, e3, hso] at k; rw [if_neg (by assumption)] at k
                exact k _ qk2 cd2
              · skip
                exact absurd (by decide) c8
          · skip
            have hso : sO g = none := by cases hq : sO g with | none => rfl | some o => exact absurd (show nI o = -1 from by have z := Classical.not_not.mp c5; rw [hq] at z; exact z) (ng_eq (by have := hob o hq; omega) (by decide))
            refine exf_go 2 (show Q (.int (-5)) h from ?_)
            simp only [dFeel, e1, e3, hso] at k
            exact k _ Fq.rfl' cd0
        · skip
          exact absurd (by decide) c4
      · skip
        show Go (d + 3) true 128 17 [.ref 10, .int (nI j1), .int y, mk_] [.int 0] h Q
        refine exf_go 1 (show (¬ (0 : Int32) = 0 → Go (d + 3) true 128 23 [.ref 10, .int (nI j1), .int y, mk_] [] h Q) ∧ (¬ (¬ (0 : Int32) = 0) → Go (d + 3) true 128 20 [.ref 10, .int (nI j1), .int y, mk_] [] h Q) from ⟨fun c9 => ?_, fun c9 => ?_⟩)
        · skip
          exact absurd c9 (by decide)
        · skip
          refine exf_go 2 (show Q (.int (-3)) h from ?_)
          simp only [dFeel, e1, e3] at k
          exact k _ Fq.rfl' cd0
    · skip
      exact absurd (by decide) c2
  · skip
    show Go (d + 3) true 128 5 [.ref 10, .int x, .int y, mk_] [.int 0] h Q
    refine exf_go 1 (show (¬ (0 : Int32) = 0 → Go (d + 3) true 128 11 [.ref 10, .int x, .int y, mk_] [] h Q) ∧ (¬ (¬ (0 : Int32) = 0) → Go (d + 3) true 128 8 [.ref 10, .int x, .int y, mk_] [] h Q) from ⟨fun c10 => ?_, fun c10 => ?_⟩)
    · skip
      exact absurd c10 (by decide)
    · skip
      refine exf_go 2 (show Q (.int (-2)) h from ?_)
      simp only [dFeel, e1] at k
      exact k _ Fq.rfl' cd0
theorem cd_und {g : ShG} {e : DeG} {h h1 : Hp} {i m : Nat} (ch : CH g e.1 e.2.1 e.2.2 i h) (hm : e.2.1 = m + 1) (q : Fq sL3 (uI (uI h 42 1 (nI ((i + 8) % 9))) 42 2 (nI m)) h1) (cl1 : CL 39 g (e.2.2 0) h1) : CD g (undD e 1) h1 := by
  obtain ⟨a1, a2, a3, a4, a5⟩ := ch
  have e42 : rI h1 42 = rI (uI (uI h 42 1 (nI ((i + 8) % 9))) 42 2 (nI m)) 42 := q.I (fun x => sL3_f (by omega))
  refine ⟨cl1, (i + 8) % 9, by omega, ?_, ?_, ?_, fun k hk => ?_⟩
  · show e.2.1 - 1 ≤ 8; omega
  · rw [e42]; rfl
  · rw [e42]; show nI m = nI (e.2.1 - 1); rw [hm]; rfl
  · have hk2 : k + 1 < e.2.1 := by have : k < e.2.1 - 1 := hk; omega
    obtain ⟨c, mk⟩ := a5 (k + 1) hk2
    refine ⟨c, ?_⟩
    rw [show ((i + 8) % 9 + 8 - k) % 9 = (i + 8 - (k + 1)) % 9 from by omega]
    have e2 : curL (undD e 1).1 (undD e 1).2.2 k = curL e.1 e.2.2 (k + 1) := by cases k <;> rfl
    rw [e2]
    exact mk_fq mk ((q.I (fun x => sL3_f (by omega))).trans ((rI_uI_ne (by omega)).trans (rI_uI_ne (by omega)))) ((q.I (fun x => sL3_f (by omega))).trans ((rI_uI_ne (by omega)).trans (rI_uI_ne (by omega)))) ((q.I (fun x => sL3_f (by omega))).trans ((rI_uI_ne (by omega)).trans (rI_uI_ne (by omega))))
theorem und_s (e : DeG) (n : Nat) : undD (undD e n) 1 = undD e (n + 1) := rfl
theorem un_in {x : Int32} (h1 : ¬ x < 1) (h2 : ¬ 8 < x) : ∃ j, ixN (x - 1) 8 = some j ∧ x = nI (j + 1) ∧ j < 8 := len_in (n := 8) (by decide) h1 (Int32.not_lt.mp h2)
theorem un_no {x : Int32} (h : x < 1 ∨ 8 < x) : ixN (x - 1) 8 = none := by
  by_cases h1 : x < 1
  · exact len_no1 (by decide) h1
  · exact len_no2 (n := 8) (by decide) h1 (Int32.not_le.mpr (h.resolve_left h1))

theorem c_undo {d : Nat} {h : Hp} {g : ShG} {e : DeG} {x : Int32} {Q : Po} (wf : WF h) (cs : CS 31 g h) (cd : CD g e h) (k : ∀ h1, Fq scH h h1 → CD g (dUndo e x).1 h1 → Q (.int (dUndo e x).2) h1) : wpC (d + 4) true 129 [.ref 10, .int x] h Q := by
  have hN := tot_b cs.1
  have h4 := cs.1.1
  have cd0 := cd
  obtain ⟨cl, i, ch⟩ := cd
  have hi9 := ch.1; have hm8 := ch.2.1; have hO1 := cl.1.2.1
  refine go_in rfl ?_
  refine exf_go 3 (show (x < 1 → Go (d + 3) true 129 22 [.ref 10, .int x, mk_] [] h Q) ∧ (¬ (x < 1) → Go (d + 3) true 129 5 [.ref 10, .int x, mk_] [] h Q) from ⟨fun c1 => ?_, fun c1 => ?_⟩)
  · skip
    have e1 := un_no (Or.inl c1)
    refine exf_go 2 (show Q (.int (-3)) h from ?_)
    simp only [dUndo, e1] at k
    exact k _ Fq.rfl' cd0
  · skip
    refine exf_go 3 (show (8 < x → Go (d + 3) true 129 22 [.ref 10, .int x, mk_] [] h Q) ∧ (¬ (8 < x) → Go (d + 3) true 129 11 [.ref 10, .int x, mk_] [] h Q) from ⟨fun c2 => ?_, fun c2 => ?_⟩)
    · skip
      have e1 := un_no (Or.inr c2)
      refine exf_go 2 (show Q (.int (-3)) h from ?_)
      simp only [dUndo, e1] at k
      exact k _ Fq.rfl' cd0
    · skip
      obtain ⟨j, e1, e2, e3⟩ := un_in c1 c2
      subst e2
      refine exf_go 4 (show Go (d + 3) true 129 19 [.ref 10, .int (nI (j + 1)), mk_] [.int (rI h 42 2), .int (nI (j + 1))] h Q from ?_)
      rw [show (rI h 42 2 : Int32) = nI e.2.1 from ch.2.2.2.1]
      refine exf_go 1 (show ((nI (j + 1)) ≤ (nI e.2.1) → Go (d + 3) true 129 25 [.ref 10, .int (nI (j + 1)), mk_] [] h Q) ∧ (¬ ((nI (j + 1)) ≤ (nI e.2.1)) → Go (d + 3) true 129 22 [.ref 10, .int (nI (j + 1)), mk_] [] h Q) from ⟨fun c3 => ?_, fun c3 => ?_⟩)
      · skip
        have c3 : (j + 1) ≤ e.2.1 := (nI_leI (a := (j + 1)) (b := e.2.1) (by omega) (by omega)).mp c3
        refine exf_go 2 (show Go (d + 3) true 129 27 [.ref 10, .int (nI (j + 1)), .int 0] [] h Q from ?_)
        have L27 : ∀ (k27 : Nat) (n : Nat) (h1 : Hp), (j + 1 - n) < k27 → (n ≤ j + 1) → (Fq scH h h1) → (CD g (undD e n) h1) → Go (d + 3) true 129 27 [.ref 10, .int (nI (j + 1)), .int (nI n)] [] h1 Q := by
          intro k27
          induction k27 with
          | zero => intro n h1 hk; exact absurd hk (Nat.not_lt_zero _)
          | succ k27 ih27 =>
            intro n h1 hk hn q1 cd1
            have cs1 := cs_H cs q1; have wf1 := q1.gq.2.2.2.1 wf
            have hun := und_at e n
            have cd1x := cd1
            obtain ⟨cl1, i1, ch1⟩ := cd1x
            have hm1 : (undD e n).2.1 = e.2.1 - n := hun.1
            refine exf_go 3 (show ((nI (j + 1)) ≤ (nI n) → Go (d + 3) true 129 56 [.ref 10, .int (nI (j + 1)), .int (nI n)] [] h1 Q) ∧ (¬ ((nI (j + 1)) ≤ (nI n)) → Go (d + 3) true 129 32 [.ref 10, .int (nI (j + 1)), .int (nI n)] [] h1 Q) from ⟨fun c4 => ?_, fun c4 => ?_⟩)
            · skip
              have c4 : (j + 1) ≤ n := (nI_leI (a := (j + 1)) (b := n) (by omega) (by omega)).mp c4
              refine exf_go 3 (show Go (d + 3) true 129 63 [.ref 10, .int (nI (j + 1)), .int (nI n)] [.int (rI h1 42 2)] h1 Q from ?_)
              rw [show (rI h1 42 2 : Int32) = nI (e.2.1 - n) from by rw [← hm1]; exact ch1.2.2.2.1]
              refine exf_go 1 (show Q (.int (nI (e.2.1 - n))) h1 from ?_)
              simp only [dUndo, e1] at k
              rw [if_pos (by omega), ← show n = j + 1 from by omega] at k
              exact k _ q1 cd1
            · skip
              have c4 : ¬ (j + 1) ≤ n := fun q => c4 ((nI_leI (a := (j + 1)) (b := n) (by omega) (by omega)).mpr q)
              refine exf_go 7 (show wpC (d + 3) true 15 [.ref 42] h1 (fun r h' => Go (d + 3) true 129 47 [.ref 10, .int (nI (j + 1)), .int (nI n)] [r, .ref 31, .ref 39] h' Q) from ?_)
              have hm2 : (undD e n).2.1 = (e.2.1 - n - 1) + 1 := by omega
              have hsz : rI h1 42 2 = nI (e.2.1 - n - 1 + 1) := by rw [← hm2]; exact ch1.2.2.2.1
              refine c_latest2 wf1 ch1.2.2.1 hsz ch1.1 (by omega) ?_
              show Go (d + 3) true 129 47 [.ref 10, .int (nI (j + 1)), .int (nI n)] [.ref (44 + 3 * ((i1 + 8) % 9)), .ref 31, .ref 39] (uI (uI h1 42 1 (nI ((i1 + 8) % 9))) 42 2 (nI (e.2.1 - n - 1))) Q
              refine exf_go 1 (show wpC (d + 3) true 36 [.ref 39, .ref 31, .ref (44 + 3 * ((i1 + 8) % 9))] (uI (uI h1 42 1 (nI ((i1 + 8) % 9))) 42 2 (nI (e.2.1 - n - 1))) (fun _ h' => Go (d + 3) true 129 50 [.ref 10, .int (nI (j + 1)), .int (nI n)] [] h' Q) from ?_)
              obtain ⟨c3, mk3⟩ := ch1.2.2.2.2 0 (by omega)
              rw [show (i1 + 8 - 0) % 9 = (i1 + 8) % 9 from rfl] at mk3
              refine c_takeBack ((i1 + 8) % 9) (by omega) (cs_same cs1 (fun a u v => (rI_uI_ne (by omega)).trans (rI_uI_ne (by omega)))) (cl_same cl1 rfl rfl rfl rfl) (mk_fq mk3 ((rI_uI_ne (by omega)).trans (rI_uI_ne (by omega))) ((rI_uI_ne (by omega)).trans (rI_uI_ne (by omega))) ((rI_uI_ne (by omega)).trans (rI_uI_ne (by omega)))) (fun h2 q3 cl3 => ?_)
              have q2 : Fq scH h h2 := ((q1.uI' _ _ _ rfl).uI' _ _ _ rfl).tr (l3_H q3)
              show Go (d + 3) true 129 50 [.ref 10, .int (nI (j + 1)), .int (nI n)] [] h2 Q
              refine exf_go 1 (show Go (d + 3) true 129 53 [.ref 10, .int (nI (j + 1)), .int ((nI n) + 1)] [] h2 Q from ?_)
              rw [show ((nI n) + 1 : Int32) = nI (n + 1) from nI_add n 1]
              refine exf_go 1 (show Go (d + 3) true 129 27 [.ref 10, .int (nI (j + 1)), .int (nI (n + 1))] [] h2 Q from ?_)
              exact ih27 (n + 1) h2 (by omega) (by omega) q2 (by rw [← und_s]; exact cd_und ch1 hm2 q3 cl3)
        exact L27 (j + 1 + 1) 0 h (by omega) (by omega) Fq.rfl' cd0
      · skip
        have c3 : ¬ (j + 1) ≤ e.2.1 := fun q => c3 ((nI_leI (a := (j + 1)) (b := e.2.1) (by omega) (by omega)).mpr q)
        refine exf_go 2 (show Q (.int (-3)) h from ?_)
        simp only [dUndo, e1] at k
        rw [if_neg (by omega)] at k
        exact k _ Fq.rfl' cd0
