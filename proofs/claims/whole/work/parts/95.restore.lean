/-! Going back to an image. -/
abbrev ImG : Type := Option (ShG × LkG)
def CIM (i : Nat) (m : ImG) (h : Hp) : Prop := match m with
  | none => rN h 96 i = false ∧ rN h 97 i = false ∧ (∀ a, 100 + 8 * i ≤ a → a ≤ 107 + 8 * i → rD h a = false) ∧ (∀ a, 116 + 3 * i ≤ a → a ≤ 118 + 3 * i → rD h a = false) ∧ rL h (117 + 3 * i) = 0
  | some (g, l) => rN h 96 i = true ∧ rN h 97 i = true ∧ IMs (100 + 8 * i) h ∧ IMl (116 + 3 * i) h ∧ CS (100 + 8 * i) g h ∧ CL (116 + 3 * i) g l h
def MIM (i : Nat) (m : ImG) (h : Hp) : Prop := match m with
  | none => rI h 132 i = 0
  | some (g, l) => rI h 132 i = 1 ∧ MA (fun k => rI h 131 (13841 * (i + 1) + k)) g l
theorem ma_cg {F F2 : Nat → Int32} {g : ShG} {l : LkG} (ma : MA F g l) (h : ∀ k, k < 13841 → k ≠ 371 → F2 k = F k) : MA F2 g l := by
  obtain ⟨⟨m1, m2⟩, ⟨a0, a1, a2, a3, a4, a5, a6, a7, a8, a9, a10, a11, a12, a13⟩, ⟨b1, b2, b3, b4, b5, b6, b7⟩, t⟩ := ma
  have h4 := m1.1
  have hC := m1.2.2.2.1
  have hM := m1.2.2.2.2.2.1
  have hN := tot_b m1
  refine ⟨⟨m1, m2⟩, ⟨?_, ?_, ?_, ?_, ?_, ?_, ?_, ?_, ?_, ?_, ?_, ?_, ?_, ?_⟩, ⟨fun w hw => ?_, fun w hw => ?_, fun w hw => ?_, fun w hw => ?_, fun w hw => ?_, fun w hw => ?_, fun n hn => ?_⟩, fun n hn => ?_⟩
  all_goals (rw [h _ (by omega) (by omega)]; first | assumption | exact b1 w hw | exact b2 w hw | exact b3 w hw | exact b4 w hw | exact b5 w hw | exact b6 w hw | exact b7 n hn | exact t n hn)
/-- the state that goes with an image -/
def rstD (e : DeG) (l : LkG) : DeG := (l, 0, e.2.2)
def dRest (m : Nat → ImG) (x : Int32) (g : ShG) (e : DeG) : (ShG × DeG) × Int32 := match ixN x 2 with
  | none => ((g, e), -2)
  | some i => match m i with
    | none => ((g, e), -5)
    | some (g2, l2) => ((g2, rstD e l2), 0)
def sRs (a _x : Nat) : Bool := (Nat.ble 31 a && Nat.ble a 42) || Nat.beq a 99
theorem c_isImage {d : Nat} {h : Hp} {x : Int32} {Q : Po} (k0 : ixN x 2 = some 0 → x = nI 0 → Q (.int 1) h) (k1 : ixN x 2 = some 1 → x = nI 1 → Q (.int 1) h) (kn : ixN x 2 = none → Q (.int 0) h) : wpC (d + 1) true 160 [.int x] h Q := by
  refine go_in rfl ?_
  refine exf_go 2 (show (x < 0 → Go d true 160 13 [.int x] [] h Q) ∧ (¬ (x < 0) → Go d true 160 4 [.int x] [] h Q) from ⟨fun c1 => ?_, fun c1 => ?_⟩)
  · skip
    refine exf_go 2 (show ((0 : Int32) = 0 ∨ (0 : Int32) = 1) ∧ Q (.int 0) h from ⟨(by first | exact Or.inl rfl | exact Or.inr rfl | assumption), ?_⟩)
    first | exact kn (ix_neg (by assumption)) | exact kn (ix_ge (by assumption))
  · skip
    refine exf_go 3 (show (2 ≤ x → Go d true 160 13 [.int x] [] h Q) ∧ (¬ (2 ≤ x) → Go d true 160 9 [.int x] [] h Q) from ⟨fun c2 => ?_, fun c2 => ?_⟩)
    · skip
      refine exf_go 2 (show ((0 : Int32) = 0 ∨ (0 : Int32) = 1) ∧ Q (.int 0) h from ⟨(by first | exact Or.inl rfl | exact Or.inr rfl | assumption), ?_⟩)
      first | exact kn (ix_neg (by assumption)) | exact kn (ix_ge (by assumption))
    · skip
      refine exf_go 3 (show ((1 : Int32) = 0 ∨ (1 : Int32) = 1) ∧ Q (.int 1) h from ⟨(by first | exact Or.inl rfl | exact Or.inr rfl | assumption), ?_⟩)
      obtain ⟨j, e1, e2, e3⟩ := ix_in (n := 2) (by decide) c1 c2
      rcases (show j = 0 ∨ j = 1 by omega) with q | q <;> subst q
      · exact k0 e1 e2
      · exact k1 e1 e2
theorem c_restX {d : Nat} {h : Hp} {x : Int32} {Q : Po} (hx : ixN x 2 = none) (k : Q (.int (-2)) h) : wpC (d + 4) true 153 [.ref 10, .int x] h Q := by
  refine go_in rfl ?_
  refine exf_go 2 (show wpC (d + 3) true 160 [.int x] h (fun r h' => Go (d + 3) true 153 4 [.ref 10, .int x] [r] h' Q) from ?_)
  refine c_isImage (x := x) (fun et _ => absurd (hx.symm.trans et) (by simp)) (fun et _ => absurd (hx.symm.trans et) (by simp)) (fun et => ?_)
  show Go (d + 3) true 153 4 [.ref 10, .int x] [.int 0] h Q
  refine exf_go 1 (show (¬ (0 : Int32) = 0 → Go (d + 3) true 153 10 [.ref 10, .int x] [] h Q) ∧ (¬ (¬ (0 : Int32) = 0) → Go (d + 3) true 153 7 [.ref 10, .int x] [] h Q) from ⟨fun c1 => ?_, fun c1 => ?_⟩)
  · skip
    exact absurd c1 (by decide)
  · skip
    refine exf_go 2 (show Q (.int (-2)) h from ?_)
    exact k
theorem c_restN0 {d : Nat} {h : Hp} {Q : Po} (ci : CIM 0 none h) (k : Q (.int (-5)) h) : wpC (d + 4) true 153 [.ref 10, .int 0] h Q := by
  refine go_in rfl ?_
  refine exf_go 2 (show wpC (d + 3) true 160 [.int 0] h (fun r h' => Go (d + 3) true 153 4 [.ref 10, .int 0] [r] h' Q) from ?_)
  refine c_isImage (x := nI 0) (fun _ _ => ?_) (fun et _ => absurd ((show ixN (nI 0) 2 = some 0 from by decide).symm.trans et) (by decide)) (fun et => absurd ((show ixN (nI 0) 2 = some 0 from by decide).symm.trans et) (by simp))
  show Go (d + 3) true 153 4 [.ref 10, .int 0] [.int 1] h Q
  refine exf_go 1 (show (¬ (1 : Int32) = 0 → Go (d + 3) true 153 10 [.ref 10, .int 0] [] h Q) ∧ (¬ (¬ (1 : Int32) = 0) → Go (d + 3) true 153 7 [.ref 10, .int 0] [] h Q) from ⟨fun c1 => ?_, fun c1 => ?_⟩)
  · skip
    refine exf_go 4 (show vp_in (0 : Int32) 2 ∧ (rN h 96 0 = true → Go (d + 3) true 153 16 [.ref 10, .int 0] [.ref 100] h Q) ∧ (rN h 96 0 = false → Go (d + 3) true 153 16 [.ref 10, .int 0] [.null] h Q) from ⟨vp_in_nI (n := 0) (by decide) (by decide), fun c2 => ?_, fun c2 => ?_⟩)
    · skip
      exact absurd (c2.symm.trans (ci.1)) (by decide)
    · skip
      refine exf_go 3 (show Q (.int (-5)) h from ?_)
      exact k
  · skip
    exact absurd (by decide) c1
theorem sh_rs {a x : Nat} (e : sRs a x = false) : sSh 31 a x = false := by
  unfold sRs at e
  unfold sSh
  rw [Bool.or_eq_false_iff, Bool.eq_false_iff] at e
  rw [Bool.eq_false_iff]
  intro z
  rw [Bool.and_eq_true] at z
  refine e.1 ?_
  rw [Bool.and_eq_true]
  have h1 := Nat.ble_eq.mp z.1
  have h2 := Nat.ble_eq.mp z.2
  exact ⟨Nat.ble_eq.mpr (by omega), Nat.ble_eq.mpr (by omega)⟩
theorem lo_rs {a x : Nat} (e : sRs a x = false) : sLo 39 a x = false := by
  unfold sRs at e
  unfold sLo
  rw [Bool.or_eq_false_iff, Bool.eq_false_iff] at e
  rw [Bool.or_eq_false_iff, Bool.eq_false_iff]
  refine ⟨fun z => e.1 ?_, e.2⟩
  rw [Bool.and_eq_true] at z ⊢
  have h1 := Nat.ble_eq.mp z.1
  have h2 := Nat.ble_eq.mp z.2
  exact ⟨Nat.ble_eq.mpr (by omega), Nat.ble_eq.mpr (by omega)⟩
theorem c_restS0 {d : Nat} {h : Hp} {g : ShG} {l : LkG} {hl : Nat → LkG} {pI0 : Nat} {Q : Po} (wf : WF h) (ci : CIM 0 (some (g, l)) h) (hp9 : pI0 < 9) (hp1 : rI h 42 1 = nI pI0) (k : ∀ h1, Gq sRs h h1 → CS 31 g h1 → CD g (l, 0, hl) h1 → Q (.int 0) h1) : wpC (d + 4) true 153 [.ref 10, .int 0] h Q := by
  refine go_in rfl ?_
  refine exf_go 2 (show wpC (d + 3) true 160 [.int 0] h (fun r h' => Go (d + 3) true 153 4 [.ref 10, .int 0] [r] h' Q) from ?_)
  refine c_isImage (x := nI 0) (fun _ _ => ?_) (fun et _ => absurd ((show ixN (nI 0) 2 = some 0 from by decide).symm.trans et) (by decide)) (fun et => absurd ((show ixN (nI 0) 2 = some 0 from by decide).symm.trans et) (by simp))
  show Go (d + 3) true 153 4 [.ref 10, .int 0] [.int 1] h Q
  refine exf_go 1 (show (¬ (1 : Int32) = 0 → Go (d + 3) true 153 10 [.ref 10, .int 0] [] h Q) ∧ (¬ (¬ (1 : Int32) = 0) → Go (d + 3) true 153 7 [.ref 10, .int 0] [] h Q) from ⟨fun c1 => ?_, fun c1 => ?_⟩)
  · skip
    refine exf_go 4 (show vp_in (0 : Int32) 2 ∧ (rN h 96 0 = true → Go (d + 3) true 153 16 [.ref 10, .int 0] [.ref 100] h Q) ∧ (rN h 96 0 = false → Go (d + 3) true 153 16 [.ref 10, .int 0] [.null] h Q) from ⟨vp_in_nI (n := 0) (by decide) (by decide), fun c2 => ?_, fun c2 => ?_⟩)
    · skip
      refine exf_go 5 (show vp_in (0 : Int32) 2 ∧ (rN h 97 0 = true → Go (d + 3) true 153 25 [.ref 10, .int 0] [.ref 116] h Q) ∧ (rN h 97 0 = false → Go (d + 3) true 153 25 [.ref 10, .int 0] [.null] h Q) from ⟨vp_in_nI (n := 0) (by decide) (by decide), fun c3 => ?_, fun c3 => ?_⟩)
      · skip
        refine exf_go 7 (show vp_in (0 : Int32) 2 ∧ (rN h 96 0 = true → Go (d + 3) true 153 41 [.ref 10, .int 0] [.ref 100, .ref 31] h Q) ∧ (rN h 96 0 = false → Go (d + 3) true 153 41 [.ref 10, .int 0] [.null, .ref 31] h Q) from ⟨vp_in_nI (n := 0) (by decide) (by decide), fun c4 => ?_, fun c4 => ?_⟩)
        · skip
          refine exf_go 1 (show wpC (d + 3) true 79 [.ref 31, .ref 100] h (fun _ h' => Go (d + 3) true 153 44 [.ref 10, .int 0] [] h' Q) from ?_)
          refine c_takeS31_100 ci.2.2.1 ci.2.2.2.2.1 (fun h1 q1 cs1 _ => ?_)
          have wf1 := q1.gq.2.2.2.1 wf
          have en1 : rN h1 = rN h := congrArg (·.2.1) q1.2
          have im1 : IMl 116 h1 := by unfold IMl; rw [en1]; exact ci.2.2.2.1
          have cl1 : CL 116 g l h1 := by have := ci.2.2.2.2.2; unfold CL at *; simp only [Nat.reduceAdd, Nat.reduceMul] at *; rw [q1.I (a := 116) (fun _ => rfl), q1.I (a := 117) (fun _ => rfl), q1.I (a := 118) (fun _ => rfl), q1.L 117]; exact this
          show Go (d + 3) true 153 44 [.ref 10, .int 0] [] h1 Q
          refine exf_go 6 (show vp_in (0 : Int32) 2 ∧ (rN h1 97 0 = true → Go (d + 3) true 153 54 [.ref 10, .int 0] [.ref 116, .ref 39] h1 Q) ∧ (rN h1 97 0 = false → Go (d + 3) true 153 54 [.ref 10, .int 0] [.null, .ref 39] h1 Q) from ⟨vp_in_nI (n := 0) (by decide) (by decide), fun c5 => ?_, fun c5 => ?_⟩)
          · skip
            refine exf_go 1 (show wpC (d + 3) true 28 [.ref 39, .ref 116] h1 (fun _ h' => Go (d + 3) true 153 57 [.ref 10, .int 0] [] h' Q) from ?_)
            refine c_takeL39_116 wf1 cs1.1 im1 cl1 (fun h2 g2 cl2 => ?_)
            show Go (d + 3) true 153 57 [.ref 10, .int 0] [] h2 Q
            refine exf_go 3 (show wpC (d + 3) true 16 [.ref 42] h2 (fun _ h' => Go (d + 3) true 153 64 [.ref 10, .int 0] [] h' Q) from ?_)
            refine c_forget ?_
            show Go (d + 3) true 153 64 [.ref 10, .int 0] [] (uI h2 42 2 0) Q
            refine exf_go 2 (show Q (.int 0) (uI h2 42 2 0) from ?_)
            have cs2 : CS 31 g h2 := cs_same cs1 (fun a u v => g2.I (fun _ => by unfold sLo; rw [show Nat.ble 39 a = false from by rw [Bool.eq_false_iff]; intro z; have := Nat.ble_eq.mp z; omega, show Nat.beq a 99 = false from by rw [Bool.eq_false_iff]; intro z; have := Nat.eq_of_beq_eq_true z; omega]; rfl))
            refine k _ ((((q1.mono (fun a x e => ?_)).gq).tr (g2.mono (fun a x e => ?_))).tr (Fq.gq (Fq.uI' Fq.rfl' 42 2 0 rfl))) (cs_same cs2 (fun a u v => rI_uI_ne (by omega))) ⟨cl_same cl2 rfl rfl rfl rfl, pI0, hp9, Nat.zero_le _, ?_, rfl, fun k hk => absurd hk (Nat.not_lt_zero _)⟩
            · exact sh_rs e
            · exact lo_rs e
            · exact ((g2.1 42 1 rfl).1).trans (((q1.1 42 1 rfl).1).trans hp1)
          · skip
            exact absurd (((show rN h1 97 0 = true from by rw [en1]; exact ci.2.1)).symm.trans c5) (by decide)
        · skip
          exact absurd (((ci.1)).symm.trans c4) (by decide)
      · skip
        exact absurd (((ci.2.1)).symm.trans c3) (by decide)
    · skip
      exact absurd (((ci.1)).symm.trans c2) (by decide)
  · skip
    exact absurd (by decide) c1
theorem c_restN1 {d : Nat} {h : Hp} {Q : Po} (ci : CIM 1 none h) (k : Q (.int (-5)) h) : wpC (d + 4) true 153 [.ref 10, .int 1] h Q := by
  refine go_in rfl ?_
  refine exf_go 2 (show wpC (d + 3) true 160 [.int 1] h (fun r h' => Go (d + 3) true 153 4 [.ref 10, .int 1] [r] h' Q) from ?_)
  refine c_isImage (x := nI 1) (fun et _ => absurd ((show ixN (nI 1) 2 = some 1 from by decide).symm.trans et) (by decide)) (fun _ _ => ?_) (fun et => absurd ((show ixN (nI 1) 2 = some 1 from by decide).symm.trans et) (by simp))
  show Go (d + 3) true 153 4 [.ref 10, .int 1] [.int 1] h Q
  refine exf_go 1 (show (¬ (1 : Int32) = 0 → Go (d + 3) true 153 10 [.ref 10, .int 1] [] h Q) ∧ (¬ (¬ (1 : Int32) = 0) → Go (d + 3) true 153 7 [.ref 10, .int 1] [] h Q) from ⟨fun c1 => ?_, fun c1 => ?_⟩)
  · skip
    refine exf_go 4 (show vp_in (1 : Int32) 2 ∧ (rN h 96 1 = true → Go (d + 3) true 153 16 [.ref 10, .int 1] [.ref 108] h Q) ∧ (rN h 96 1 = false → Go (d + 3) true 153 16 [.ref 10, .int 1] [.null] h Q) from ⟨vp_in_nI (n := 1) (by decide) (by decide), fun c2 => ?_, fun c2 => ?_⟩)
    · skip
      exact absurd (c2.symm.trans (ci.1)) (by decide)
    · skip
      refine exf_go 3 (show Q (.int (-5)) h from ?_)
      exact k
  · skip
    exact absurd (by decide) c1
theorem c_restS1 {d : Nat} {h : Hp} {g : ShG} {l : LkG} {hl : Nat → LkG} {pI0 : Nat} {Q : Po} (wf : WF h) (ci : CIM 1 (some (g, l)) h) (hp9 : pI0 < 9) (hp1 : rI h 42 1 = nI pI0) (k : ∀ h1, Gq sRs h h1 → CS 31 g h1 → CD g (l, 0, hl) h1 → Q (.int 0) h1) : wpC (d + 4) true 153 [.ref 10, .int 1] h Q := by
  refine go_in rfl ?_
  refine exf_go 2 (show wpC (d + 3) true 160 [.int 1] h (fun r h' => Go (d + 3) true 153 4 [.ref 10, .int 1] [r] h' Q) from ?_)
  refine c_isImage (x := nI 1) (fun et _ => absurd ((show ixN (nI 1) 2 = some 1 from by decide).symm.trans et) (by decide)) (fun _ _ => ?_) (fun et => absurd ((show ixN (nI 1) 2 = some 1 from by decide).symm.trans et) (by simp))
  show Go (d + 3) true 153 4 [.ref 10, .int 1] [.int 1] h Q
  refine exf_go 1 (show (¬ (1 : Int32) = 0 → Go (d + 3) true 153 10 [.ref 10, .int 1] [] h Q) ∧ (¬ (¬ (1 : Int32) = 0) → Go (d + 3) true 153 7 [.ref 10, .int 1] [] h Q) from ⟨fun c1 => ?_, fun c1 => ?_⟩)
  · skip
    refine exf_go 4 (show vp_in (1 : Int32) 2 ∧ (rN h 96 1 = true → Go (d + 3) true 153 16 [.ref 10, .int 1] [.ref 108] h Q) ∧ (rN h 96 1 = false → Go (d + 3) true 153 16 [.ref 10, .int 1] [.null] h Q) from ⟨vp_in_nI (n := 1) (by decide) (by decide), fun c2 => ?_, fun c2 => ?_⟩)
    · skip
      refine exf_go 5 (show vp_in (1 : Int32) 2 ∧ (rN h 97 1 = true → Go (d + 3) true 153 25 [.ref 10, .int 1] [.ref 119] h Q) ∧ (rN h 97 1 = false → Go (d + 3) true 153 25 [.ref 10, .int 1] [.null] h Q) from ⟨vp_in_nI (n := 1) (by decide) (by decide), fun c3 => ?_, fun c3 => ?_⟩)
      · skip
        refine exf_go 7 (show vp_in (1 : Int32) 2 ∧ (rN h 96 1 = true → Go (d + 3) true 153 41 [.ref 10, .int 1] [.ref 108, .ref 31] h Q) ∧ (rN h 96 1 = false → Go (d + 3) true 153 41 [.ref 10, .int 1] [.null, .ref 31] h Q) from ⟨vp_in_nI (n := 1) (by decide) (by decide), fun c4 => ?_, fun c4 => ?_⟩)
        · skip
          refine exf_go 1 (show wpC (d + 3) true 79 [.ref 31, .ref 108] h (fun _ h' => Go (d + 3) true 153 44 [.ref 10, .int 1] [] h' Q) from ?_)
          refine c_takeS31_108 ci.2.2.1 ci.2.2.2.2.1 (fun h1 q1 cs1 _ => ?_)
          have wf1 := q1.gq.2.2.2.1 wf
          have en1 : rN h1 = rN h := congrArg (·.2.1) q1.2
          have im1 : IMl 119 h1 := by unfold IMl; rw [en1]; exact ci.2.2.2.1
          have cl1 : CL 119 g l h1 := by have := ci.2.2.2.2.2; unfold CL at *; simp only [Nat.reduceAdd, Nat.reduceMul] at *; rw [q1.I (a := 119) (fun _ => rfl), q1.I (a := 120) (fun _ => rfl), q1.I (a := 121) (fun _ => rfl), q1.L 120]; exact this
          show Go (d + 3) true 153 44 [.ref 10, .int 1] [] h1 Q
          refine exf_go 6 (show vp_in (1 : Int32) 2 ∧ (rN h1 97 1 = true → Go (d + 3) true 153 54 [.ref 10, .int 1] [.ref 119, .ref 39] h1 Q) ∧ (rN h1 97 1 = false → Go (d + 3) true 153 54 [.ref 10, .int 1] [.null, .ref 39] h1 Q) from ⟨vp_in_nI (n := 1) (by decide) (by decide), fun c5 => ?_, fun c5 => ?_⟩)
          · skip
            refine exf_go 1 (show wpC (d + 3) true 28 [.ref 39, .ref 119] h1 (fun _ h' => Go (d + 3) true 153 57 [.ref 10, .int 1] [] h' Q) from ?_)
            refine c_takeL39_119 wf1 cs1.1 im1 cl1 (fun h2 g2 cl2 => ?_)
            show Go (d + 3) true 153 57 [.ref 10, .int 1] [] h2 Q
            refine exf_go 3 (show wpC (d + 3) true 16 [.ref 42] h2 (fun _ h' => Go (d + 3) true 153 64 [.ref 10, .int 1] [] h' Q) from ?_)
            refine c_forget ?_
            show Go (d + 3) true 153 64 [.ref 10, .int 1] [] (uI h2 42 2 0) Q
            refine exf_go 2 (show Q (.int 0) (uI h2 42 2 0) from ?_)
            have cs2 : CS 31 g h2 := cs_same cs1 (fun a u v => g2.I (fun _ => by unfold sLo; rw [show Nat.ble 39 a = false from by rw [Bool.eq_false_iff]; intro z; have := Nat.ble_eq.mp z; omega, show Nat.beq a 99 = false from by rw [Bool.eq_false_iff]; intro z; have := Nat.eq_of_beq_eq_true z; omega]; rfl))
            refine k _ ((((q1.mono (fun a x e => ?_)).gq).tr (g2.mono (fun a x e => ?_))).tr (Fq.gq (Fq.uI' Fq.rfl' 42 2 0 rfl))) (cs_same cs2 (fun a u v => rI_uI_ne (by omega))) ⟨cl_same cl2 rfl rfl rfl rfl, pI0, hp9, Nat.zero_le _, ?_, rfl, fun k hk => absurd hk (Nat.not_lt_zero _)⟩
            · exact sh_rs e
            · exact lo_rs e
            · exact ((g2.1 42 1 rfl).1).trans (((q1.1 42 1 rfl).1).trans hp1)
          · skip
            exact absurd (((show rN h1 97 1 = true from by rw [en1]; exact ci.2.1)).symm.trans c5) (by decide)
        · skip
          exact absurd (((ci.1)).symm.trans c4) (by decide)
      · skip
        exact absurd (((ci.2.1)).symm.trans c3) (by decide)
    · skip
      exact absurd (((ci.1)).symm.trans c2) (by decide)
  · skip
    exact absurd (by decide) c1
theorem c_restore {d : Nat} {h : Hp} {g : ShG} {e : DeG} {m : Nat → ImG} {x : Int32} {Q : Po} (wf : WF h) (cs : CS 31 g h) (cd : CD g e h) (ci : ∀ i, i < 2 → CIM i (m i) h) (k : ∀ h1, Gq sRs h h1 → CS 31 (dRest m x g e).1.1 h1 → CD (dRest m x g e).1.1 (dRest m x g e).1.2 h1 → Q (.int (dRest m x g e).2) h1) : wpC (d + 4) true 153 [.ref 10, .int x] h Q := by
  obtain ⟨cl, p0, ch⟩ := id cd
  cases hx : ixN x 2 with
  | none =>
    simp only [dRest, hx] at k
    exact c_restX hx (k _ Gq.rfl' cs cd)
  | some i =>
    have hi : i < 2 ∧ x = nI i := by
      unfold ixN at hx
      split at hx
      · cases hx
      · rename_i q
        obtain ⟨j, e1, e2, e3⟩ := ix_in (n := 2) (by decide) (fun z => q (Or.inl z)) (fun z => q (Or.inr z))
        unfold ixN at e1
        rw [if_neg q, hx] at e1
        cases e1
        exact ⟨e3, e2⟩
    obtain ⟨hi2, ex⟩ := hi
    subst ex
    have c0 := ci i hi2
    cases hm : m i with
    | none =>
      simp only [dRest, hx, hm] at k
      rw [hm] at c0
      rcases (show i = 0 ∨ i = 1 by omega) with z | z <;> subst z
      · exact c_restN0 c0 (k _ Gq.rfl' cs cd)
      · exact c_restN1 c0 (k _ Gq.rfl' cs cd)
    | some q =>
      obtain ⟨g2, l2⟩ := q
      simp only [dRest, hx, hm] at k
      rw [hm] at c0
      rcases (show i = 0 ∨ i = 1 by omega) with z | z <;> subst z
      · exact c_restS0 wf c0 ch.1 ch.2.2.1 k
      · exact c_restS1 wf c0 ch.1 ch.2.2.1 k
def sRm (a x : Nat) : Bool := scM a x || (Nat.beq a 131 && Nat.ble x 13840)
theorem sRm_t {i : Nat} (h : i ≤ 13840) : sRm 131 i = true := by
  unfold sRm
  rw [Nat.ble_eq.mpr h]; rfl
theorem M_R {h h1 : Hp} (q : Fq scM h h1) : Fq sRm h h1 := q.mono (fun a i e => by unfold sRm at e; rw [Bool.or_eq_false_iff] at e; exact e.1)
theorem m_restore {d : Nat} {h : Hp} {g : ShG} {e : DeG} {m : Nat → ImG} {x : Int32} {Q : Po} (md0 : MD g e h) (mi0 : ∀ i, i < 2 → MIM i (m i) h) (k : ∀ h1, Fq sRm h h1 → MD (dRest m x g e).1.1 (dRest m x g e).1.2 h1 → Q (.int (dRest m x g e).2) h1) : wpC (d + 2) true 297 [.ref 130, .int x] h Q := by
  refine go_in rfl ?_
  refine exf_go 8 (show wpC (d + 1) true 183 [.long x.toInt64, .long 0, .long 1] (uI h 130 0 0) (fun r h' => Go (d + 1) true 297 12 [.ref 130, .int x, mk_] [r] h' Q) from ?_)
  refine m_within (fun u1 v1 => ?_) (fun u1 => ?_)
  · skip
    obtain ⟨i, ex, exq, exr⟩ := wi_in (n := 2) (by decide) u1 v1
    subst exq
    have mi := mi0 i exr
    show Go (d + 1) true 297 12 [.ref 130, .int (nI i), mk_] [.int 1] (uI h 130 0 0) Q
    refine exf_go 1 (show (¬ (1 : Int32) = 0 → Go (d + 1) true 297 18 [.ref 130, .int (nI i), mk_] [] (uI h 130 0 0) Q) ∧ (¬ (¬ (1 : Int32) = 0) → Go (d + 1) true 297 15 [.ref 130, .int (nI i), mk_] [] (uI h 130 0 0) Q) from ⟨fun c1 => ?_, fun c1 => ?_⟩)
    · skip
      refine exf_go 5 (show vp_in (nI i) 2 ∧ ((¬ (rI h 132 ((nI i).toNatClampNeg)) = 0 → Go (d + 1) true 297 30 [.ref 130, .int (nI i), mk_] [] (uI h 130 0 0) Q) ∧ (¬ (¬ (rI h 132 ((nI i).toNatClampNeg)) = 0) → Go (d + 1) true 297 27 [.ref 130, .int (nI i), mk_] [] (uI h 130 0 0) Q)) from ⟨(vp_in_nI (by omega) (by omega)), fun c2 => ?_, fun c2 => ?_⟩)
      · skip
        refine exf_go 2 (show Go (d + 1) true 297 32 [.ref 130, .int (nI i), .int 0] [] (uI h 130 0 0) Q from ?_)
        have L32 : ∀ (k32 : Nat) (n : Nat) (h1 : Hp), (13841 - n) < k32 → (n ≤ 13841) → (Fq sRm h h1) → (∀ j, j < n → rI h1 131 j = rI h 131 (13841 * (i + 1) + j)) → (∀ j, 13841 ≤ j → rI h1 131 j = rI h 131 j) → Go (d + 1) true 297 32 [.ref 130, .int (nI i), .int (nI n)] [] h1 Q := by
          intro k32
          induction k32 with
          | zero => intro n h1 hk; exact absurd hk (Nat.not_lt_zero _)
          | succ k32 ih32 =>
            intro n h1 hk hn q1 hb hc
            refine exf_go 3 (show (13841 ≤ (nI n) → Go (d + 1) true 297 65 [.ref 130, .int (nI i), .int (nI n)] [] h1 Q) ∧ (¬ (13841 ≤ (nI n)) → Go (d + 1) true 297 39 [.ref 130, .int (nI i), .int (nI n)] [] h1 Q) from ⟨fun c3 => ?_, fun c3 => ?_⟩)
            · skip
              have c3 : 13841 ≤ n := (nI_leI (a := 13841) (b := n) (by omega) (by omega)).mp c3
              refine exf_go 7 (show vp_in 371 41523 ∧ Q (.int 0) (uI h1 131 371 0) from ⟨(vp_in_nI (n := 371) (by decide) (by decide)), ?_⟩)
              rcases hm : m i with _ | ⟨g2, l2⟩
              · rw [hm] at mi
                exfalso
                exact c2 (by rw [nI_clamp (by omega)]; exact mi)
              · simp only [dRest, ex, hm] at k
                rw [hm] at mi
                refine k _ (q1.uI' _ _ _ (sRm_t (by omega))) ⟨ma_cg mi.2 (fun j u v => ?_), rI_uI_eq, Nat.zero_le _, fun k hk => absurd hk (Nat.not_lt_zero _)⟩
                rw [rI_uI_at v]; exact hb j (by omega)
            · skip
              have c3 : ¬ 13841 ≤ n := fun q => c3 ((nI_leI (a := 13841) (b := n) (by omega) (by omega)).mpr q)
              refine exf_go 9 (show Go (d + 1) true 297 54 [.ref 130, .int (nI i), .int (nI n)] [.int ((nI i) + 1), .int 13841, .ref 131, .int (nI n), .ref 131] h1 Q from ?_)
              rw [show ((nI i) + 1 : Int32) = nI (i + 1) from nI_add i 1]
              refine exf_go 1 (show Go (d + 1) true 297 55 [.ref 130, .int (nI i), .int (nI n)] [.int (13841 * (nI (i + 1))), .ref 131, .int (nI n), .ref 131] h1 Q from ?_)
              rw [show (13841 * (nI (i + 1)) : Int32) = nI (13841 * (i + 1)) from pk_mul 13841 (i + 1)]
              refine exf_go 2 (show Go (d + 1) true 297 57 [.ref 130, .int (nI i), .int (nI n)] [.int ((nI (13841 * (i + 1))) + (nI n)), .ref 131, .int (nI n), .ref 131] h1 Q from ?_)
              rw [show ((nI (13841 * (i + 1))) + (nI n) : Int32) = nI ((13841 * (i + 1)) + n) from nI_add (13841 * (i + 1)) n]
              refine exf_go 3 (show vp_in (nI ((13841 * (i + 1)) + n)) 41523 ∧ vp_in (nI n) 41523 ∧ (Go (d + 1) true 297 62 [.ref 130, .int (nI i), .int ((nI n) + 1)] [] (uI h1 131 ((nI n).toNatClampNeg) (rI h1 131 ((nI ((13841 * (i + 1)) + n)).toNatClampNeg))) Q) from ⟨(vp_in_nI (by omega) (by omega)), (vp_in_nI (by omega) (by omega)), ?_⟩)
              rw [show ((nI n) + 1 : Int32) = nI (n + 1) from nI_add n 1]
              refine exf_go 1 (show Go (d + 1) true 297 32 [.ref 130, .int (nI i), .int (nI (n + 1))] [] (uI h1 131 ((nI n).toNatClampNeg) (rI h1 131 ((nI ((13841 * (i + 1)) + n)).toNatClampNeg))) Q from ?_)
              exact ih32 (n + 1) _ (by omega) (by omega) (q1.uI' _ _ _ (sRm_t (by rw [nI_clamp (by omega)]; omega))) (fun j hj => by rw [nI_clamp (n := n) (by omega)]; exact (Decidable.em (j = n)).elim (fun z => by rw [z, rI_uI_eq, nI_clamp (by omega), hc _ (by omega)]) (fun z => by rw [rI_uI_at z]; exact hb j (by omega))) (fun j hj => by rw [nI_clamp (n := n) (by omega), rI_uI_at (by omega)]; exact hc j hj)
        exact L32 (13841 + 1) 0 _ (by omega) (by omega) (Fq.uI' Fq.rfl' _ _ _ rfl) (fun j hj => absurd hj (Nat.not_lt_zero _)) (fun j hj => rfl)
      · skip
        refine exf_go 2 (show Q (.int (-5)) (uI h 130 0 0) from ?_)
        rcases hm : m i with _ | ⟨g2, l2⟩
        · simp only [dRest, ex, hm] at k
          exact k _ (M_R (Fq.uI' Fq.rfl' _ _ _ rfl)) (md_M (h1 := uI h 130 0 0) md0 (Fq.uI' Fq.rfl' _ _ _ rfl))
        · rw [hm] at mi
          exfalso
          rw [nI_clamp (by omega)] at c2
          have := Classical.not_not.mp c2
          rw [mi.1] at this
          exact absurd this (by decide)
    · skip
      exact absurd (by decide) c1
  · skip
    have ex : ixN x 2 = none := u1.elim wi_neg (wi_ge (n := 2) (by decide))
    show Go (d + 1) true 297 12 [.ref 130, .int x, mk_] [.int 0] (uI h 130 0 0) Q
    refine exf_go 1 (show (¬ (0 : Int32) = 0 → Go (d + 1) true 297 18 [.ref 130, .int x, mk_] [] (uI h 130 0 0) Q) ∧ (¬ (¬ (0 : Int32) = 0) → Go (d + 1) true 297 15 [.ref 130, .int x, mk_] [] (uI h 130 0 0) Q) from ⟨fun c4 => ?_, fun c4 => ?_⟩)
    · skip
      exact absurd c4 (by decide)
    · skip
      refine exf_go 2 (show Q (.int (-2)) (uI h 130 0 0) from ?_)
      simp only [dRest, ex] at k
      exact k _ (M_R (Fq.uI' Fq.rfl' _ _ _ rfl)) (md_M (h1 := uI h 130 0 0) md0 (Fq.uI' Fq.rfl' _ _ _ rfl))
