/-! The class's image call. -/
theorem nw_I {h : Hp} {a n : Nat} : rI (nwH h a n) a = fun _ => 0 := up_eq
theorem nw_D {h : Hp} {a n b : Nat} (hb : b ≠ a) : rD (nwH h a n) b = rD h b := up_ne hb
theorem nw_N {h : Hp} {a n b : Nat} (hb : b ≠ a) : rN (nwH h a n) b = rN h b := up_ne hb
theorem cs_iq {i : Nat} {g : ShG} {h h1 : Hp} (cs : CS 31 g h) (q : Iq i h h1) : CS 31 g h1 := cs_same cs (fun a u v => (q.1 a (by unfold sIc; rw [ble_no (x := 100 + 8 * i) (by omega), ble_no (x := 116 + 3 * i) (by omega), beq_no (by omega)]; rfl)).1)
theorem iq_lo {i a : Nat} (h : a < 99) : sIc i a = false := by unfold sIc; rw [ble_no (x := 100 + 8 * i) (by omega), ble_no (x := 116 + 3 * i) (by omega), beq_no (by omega)]; rfl
theorem cl_iq {i : Nat} {g : ShG} {l : LkG} {h h1 : Hp} (cl : CL 39 g l h) (q : Iq i h h1) : CL 39 g l h1 := cl_same cl (q.1 39 (iq_lo (by omega))).1 (q.1 40 (iq_lo (by omega))).1 (q.1 41 (iq_lo (by omega))).1 (by unfold al; rw [(q.1 40 (iq_lo (by omega))).2.2.1])
theorem c_imgX {d : Nat} {h : Hp} {x : Int32} {Q : Po} (hx : ixN x 2 = none) (k : Q (.int (-2)) h) : wpC (d + 4) true 152 [.ref 10, .int x] h Q := by
  refine go_in rfl ?_
  refine exf_go 2 (show wpC (d + 3) true 160 [.int x] h (fun r h' => Go (d + 3) true 152 4 [.ref 10, .int x] [r] h' Q) from ?_)
  refine c_isImage (x := x) (fun et _ => absurd (hx.symm.trans et) (by simp)) (fun et _ => absurd (hx.symm.trans et) (by simp)) (fun et => ?_)
  show Go (d + 3) true 152 4 [.ref 10, .int x] [.int 0] h Q
  refine exf_go 1 (show (¬ (0 : Int32) = 0 → Go (d + 3) true 152 10 [.ref 10, .int x] [] h Q) ∧ (¬ (¬ (0 : Int32) = 0) → Go (d + 3) true 152 7 [.ref 10, .int x] [] h Q) from ⟨fun c1 => ?_, fun c1 => ?_⟩)
  · skip
    exact absurd c1 (by decide)
  · skip
    refine exf_go 2 (show Q (.int (-2)) h from ?_)
    exact k
theorem c_imgS0 {d : Nat} {h : Hp} {g : ShG} {l : LkG} {gl : ShG × LkG} {Q : Po} (wf : WF h) (cs : CS 31 g h) (cl : CL 39 g l h) (ci : CIM 0 (some gl) h) (k : ∀ h1, Iq 0 h h1 → CIM 0 (some (g, l)) h1 → Q (.int 0) h1) : wpC (d + 4) true 152 [.ref 10, .int 0] h Q := by
  refine go_in rfl ?_
  have X54 : ∀ (h1 : Hp), (Iq 0 h h1) → (rN h1 96 0 = true) → (rN h1 97 0 = true) → (IMs 100 h1) → (IMl 116 h1) → Go (d + 3) true 152 54 [.ref 10, .int 0] [] h1 Q := by
    intro h1 i1 n6 n7 im1 il1
    refine exf_go 4 (show vp_in (0 : Int32) 2 ∧ (rN h1 96 0 = true → Go (d + 3) true 152 60 [.ref 10, .int 0] [.ref 100] h1 Q) ∧ (rN h1 96 0 = false → Go (d + 3) true 152 60 [.ref 10, .int 0] [.null] h1 Q) from ⟨vp_in_nI (n := 0) (by decide) (by decide), fun c1 => ?_, fun c1 => ?_⟩)
    · skip
      refine exf_go 3 (show wpC (d + 3) true 79 [.ref 100, .ref 31] h1 (fun _ h' => Go (d + 3) true 152 67 [.ref 10, .int 0] [] h' Q) from ?_)
      refine c_takeS100_31 im1 (cs_iq cs i1) (fun h2 q2 cs2 _ => ?_)
      have wf1 := i1.2.1 wf; have wf2 := q2.gq.2.2.2.1 wf1; have en2 : rN h2 = rN h1 := congrArg (·.2.1) q2.2
      have il2 : IMl 116 h2 := by unfold IMl; rw [en2]; exact il1
      have cl2 : CL 39 g l h2 := cl_same (cl_iq cl i1) (q2.I (fun _ => rfl)) (q2.I (fun _ => rfl)) (q2.I (fun _ => rfl)) (q2.L 40)
      have i2 : Iq 0 h1 h2 := q2.gq.iq (fun a x e => sSh_f (by have := sIc_f e; omega))
      show Go (d + 3) true 152 67 [.ref 10, .int 0] [] h2 Q
      refine exf_go 4 (show vp_in (0 : Int32) 2 ∧ (rN h2 97 0 = true → Go (d + 3) true 152 73 [.ref 10, .int 0] [.ref 116] h2 Q) ∧ (rN h2 97 0 = false → Go (d + 3) true 152 73 [.ref 10, .int 0] [.null] h2 Q) from ⟨vp_in_nI (n := 0) (by decide) (by decide), fun c2 => ?_, fun c2 => ?_⟩)
      · skip
        refine exf_go 3 (show wpC (d + 3) true 28 [.ref 116, .ref 39] h2 (fun _ h' => Go (d + 3) true 152 80 [.ref 10, .int 0] [] h' Q) from ?_)
        refine c_takeL116_39 wf2 cs.1 il2 cl2 (fun h3 g3 cl3 => ?_)
        have i3 : Iq 0 h2 h3 := g3.iq (fun a x e => sLo_f (by have := sIc_f e; omega) (sIc_f e).2.2)
        show Go (d + 3) true 152 80 [.ref 10, .int 0] [] h3 Q
        refine exf_go 2 (show Q (.int 0) h3 from ?_)
        have cs3 : CS 100 g h3 := by have := cs2; unfold CS at *; simp only [Nat.reduceAdd] at *; rw [g3.I (a := 100) (fun _ => rfl), g3.I (a := 101) (fun _ => rfl), g3.I (a := 102) (fun _ => rfl), g3.I (a := 103) (fun _ => rfl), g3.I (a := 104) (fun _ => rfl), g3.I (a := 105) (fun _ => rfl), g3.I (a := 106) (fun _ => rfl), g3.I (a := 107) (fun _ => rfl)]; exact this
        have en3 : ∀ x k, x ≠ 99 → rN h3 x k = rN h1 x k := fun x k z => (g3.2.1.1 x k z).trans (by rw [en2])
        refine k _ ((i1.tr i2).tr i3) ⟨(en3 96 0 (by decide)).trans n6, (en3 97 0 (by decide)).trans n7, ⟨?_, ?_, ?_, ?_, ?_, ?_, ?_⟩, ⟨?_, ?_⟩, cs3, cl3⟩
        · exact (en3 100 1 (by decide)).trans im1.1
        · exact (en3 100 2 (by decide)).trans im1.2.1
        · exact (en3 100 3 (by decide)).trans im1.2.2.1
        · exact (en3 100 4 (by decide)).trans im1.2.2.2.1
        · exact (en3 100 7 (by decide)).trans im1.2.2.2.2.1
        · exact (en3 100 8 (by decide)).trans im1.2.2.2.2.2.1
        · exact (en3 100 14 (by decide)).trans im1.2.2.2.2.2.2
        · exact (en3 116 0 (by decide)).trans il1.1
        · exact (en3 116 2 (by decide)).trans il1.2
      · skip
        exact absurd (((show rN h2 97 0 = true from by rw [en2]; exact n7)).symm.trans c2) (by decide)
    · skip
      exact absurd (((n6)).symm.trans c1) (by decide)
  refine exf_go 2 (show wpC (d + 3) true 160 [.int 0] h (fun r h' => Go (d + 3) true 152 4 [.ref 10, .int 0] [r] h' Q) from ?_)
  refine c_isImage (x := nI 0) (fun _ _ => ?_) (fun et _ => absurd ((show ixN (nI 0) 2 = some 0 from by decide).symm.trans et) (by decide)) (fun et => absurd ((show ixN (nI 0) 2 = some 0 from by decide).symm.trans et) (by simp))
  show Go (d + 3) true 152 4 [.ref 10, .int 0] [.int 1] h Q
  refine exf_go 1 (show (¬ (1 : Int32) = 0 → Go (d + 3) true 152 10 [.ref 10, .int 0] [] h Q) ∧ (¬ (¬ (1 : Int32) = 0) → Go (d + 3) true 152 7 [.ref 10, .int 0] [] h Q) from ⟨fun c3 => ?_, fun c3 => ?_⟩)
  · skip
    refine exf_go 4 (show vp_in (0 : Int32) 2 ∧ (rN h 96 0 = true → Go (d + 3) true 152 16 [.ref 10, .int 0] [.ref 100] h Q) ∧ (rN h 96 0 = false → Go (d + 3) true 152 16 [.ref 10, .int 0] [.null] h Q) from ⟨vp_in_nI (n := 0) (by decide) (by decide), fun c4 => ?_, fun c4 => ?_⟩)
    · skip
      refine exf_go 5 (show vp_in (0 : Int32) 2 ∧ (rN h 97 0 = true → Go (d + 3) true 152 25 [.ref 10, .int 0] [.ref 116] h Q) ∧ (rN h 97 0 = false → Go (d + 3) true 152 25 [.ref 10, .int 0] [.null] h Q) from ⟨vp_in_nI (n := 0) (by decide) (by decide), fun c5 => ?_, fun c5 => ?_⟩)
      · skip
        refine exf_go 1 (show Go (d + 3) true 152 54 [.ref 10, .int 0] [] h Q from ?_)
        exact X54 _ Iq.rfl' ci.1 ci.2.1 ci.2.2.1 ci.2.2.2.1
      · skip
        exact absurd (((ci.2.1)).symm.trans c5) (by decide)
    · skip
      exact absurd (((ci.1)).symm.trans c4) (by decide)
  · skip
    exact absurd (by decide) c3
theorem c_imgN0 {d : Nat} {h : Hp} {g : ShG} {l : LkG} {Q : Po} (wf : WF h) (cs : CS 31 g h) (cl : CL 39 g l h) (ci : CIM 0 none h) (k : ∀ h1, Iq 0 h h1 → CIM 0 (some (g, l)) h1 → Q (.int 0) h1) : wpC (d + 4) true 152 [.ref 10, .int 0] h Q := by
  refine go_in rfl ?_
  have X54 : ∀ (h1 : Hp), (Iq 0 h h1) → (rN h1 96 0 = true) → (rN h1 97 0 = true) → (IMs 100 h1) → (IMl 116 h1) → Go (d + 3) true 152 54 [.ref 10, .int 0] [] h1 Q := by
    intro h1 i1 n6 n7 im1 il1
    refine exf_go 4 (show vp_in (0 : Int32) 2 ∧ (rN h1 96 0 = true → Go (d + 3) true 152 60 [.ref 10, .int 0] [.ref 100] h1 Q) ∧ (rN h1 96 0 = false → Go (d + 3) true 152 60 [.ref 10, .int 0] [.null] h1 Q) from ⟨vp_in_nI (n := 0) (by decide) (by decide), fun c1 => ?_, fun c1 => ?_⟩)
    · skip
      refine exf_go 3 (show wpC (d + 3) true 79 [.ref 100, .ref 31] h1 (fun _ h' => Go (d + 3) true 152 67 [.ref 10, .int 0] [] h' Q) from ?_)
      refine c_takeS100_31 im1 (cs_iq cs i1) (fun h2 q2 cs2 _ => ?_)
      have wf1 := i1.2.1 wf; have wf2 := q2.gq.2.2.2.1 wf1; have en2 : rN h2 = rN h1 := congrArg (·.2.1) q2.2
      have il2 : IMl 116 h2 := by unfold IMl; rw [en2]; exact il1
      have cl2 : CL 39 g l h2 := cl_same (cl_iq cl i1) (q2.I (fun _ => rfl)) (q2.I (fun _ => rfl)) (q2.I (fun _ => rfl)) (q2.L 40)
      have i2 : Iq 0 h1 h2 := q2.gq.iq (fun a x e => sSh_f (by have := sIc_f e; omega))
      show Go (d + 3) true 152 67 [.ref 10, .int 0] [] h2 Q
      refine exf_go 4 (show vp_in (0 : Int32) 2 ∧ (rN h2 97 0 = true → Go (d + 3) true 152 73 [.ref 10, .int 0] [.ref 116] h2 Q) ∧ (rN h2 97 0 = false → Go (d + 3) true 152 73 [.ref 10, .int 0] [.null] h2 Q) from ⟨vp_in_nI (n := 0) (by decide) (by decide), fun c2 => ?_, fun c2 => ?_⟩)
      · skip
        refine exf_go 3 (show wpC (d + 3) true 28 [.ref 116, .ref 39] h2 (fun _ h' => Go (d + 3) true 152 80 [.ref 10, .int 0] [] h' Q) from ?_)
        refine c_takeL116_39 wf2 cs.1 il2 cl2 (fun h3 g3 cl3 => ?_)
        have i3 : Iq 0 h2 h3 := g3.iq (fun a x e => sLo_f (by have := sIc_f e; omega) (sIc_f e).2.2)
        show Go (d + 3) true 152 80 [.ref 10, .int 0] [] h3 Q
        refine exf_go 2 (show Q (.int 0) h3 from ?_)
        have cs3 : CS 100 g h3 := by have := cs2; unfold CS at *; simp only [Nat.reduceAdd] at *; rw [g3.I (a := 100) (fun _ => rfl), g3.I (a := 101) (fun _ => rfl), g3.I (a := 102) (fun _ => rfl), g3.I (a := 103) (fun _ => rfl), g3.I (a := 104) (fun _ => rfl), g3.I (a := 105) (fun _ => rfl), g3.I (a := 106) (fun _ => rfl), g3.I (a := 107) (fun _ => rfl)]; exact this
        have en3 : ∀ x k, x ≠ 99 → rN h3 x k = rN h1 x k := fun x k z => (g3.2.1.1 x k z).trans (by rw [en2])
        refine k _ ((i1.tr i2).tr i3) ⟨(en3 96 0 (by decide)).trans n6, (en3 97 0 (by decide)).trans n7, ⟨?_, ?_, ?_, ?_, ?_, ?_, ?_⟩, ⟨?_, ?_⟩, cs3, cl3⟩
        · exact (en3 100 1 (by decide)).trans im1.1
        · exact (en3 100 2 (by decide)).trans im1.2.1
        · exact (en3 100 3 (by decide)).trans im1.2.2.1
        · exact (en3 100 4 (by decide)).trans im1.2.2.2.1
        · exact (en3 100 7 (by decide)).trans im1.2.2.2.2.1
        · exact (en3 100 8 (by decide)).trans im1.2.2.2.2.2.1
        · exact (en3 100 14 (by decide)).trans im1.2.2.2.2.2.2
        · exact (en3 116 0 (by decide)).trans il1.1
        · exact (en3 116 2 (by decide)).trans il1.2
      · skip
        exact absurd (((show rN h2 97 0 = true from by rw [en2]; exact n7)).symm.trans c2) (by decide)
    · skip
      exact absurd (((n6)).symm.trans c1) (by decide)
  refine exf_go 2 (show wpC (d + 3) true 160 [.int 0] h (fun r h' => Go (d + 3) true 152 4 [.ref 10, .int 0] [r] h' Q) from ?_)
  refine c_isImage (x := nI 0) (fun _ _ => ?_) (fun et _ => absurd ((show ixN (nI 0) 2 = some 0 from by decide).symm.trans et) (by decide)) (fun et => absurd ((show ixN (nI 0) 2 = some 0 from by decide).symm.trans et) (by simp))
  show Go (d + 3) true 152 4 [.ref 10, .int 0] [.int 1] h Q
  refine exf_go 1 (show (¬ (1 : Int32) = 0 → Go (d + 3) true 152 10 [.ref 10, .int 0] [] h Q) ∧ (¬ (¬ (1 : Int32) = 0) → Go (d + 3) true 152 7 [.ref 10, .int 0] [] h Q) from ⟨fun c3 => ?_, fun c3 => ?_⟩)
  · skip
    refine exf_go 4 (show vp_in (0 : Int32) 2 ∧ (rN h 96 0 = true → Go (d + 3) true 152 16 [.ref 10, .int 0] [.ref 100] h Q) ∧ (rN h 96 0 = false → Go (d + 3) true 152 16 [.ref 10, .int 0] [.null] h Q) from ⟨vp_in_nI (n := 0) (by decide) (by decide), fun c4 => ?_, fun c4 => ?_⟩)
    · skip
      exact absurd (c4.symm.trans (ci.1)) (by decide)
    · skip
      refine exf_go 5 (show ∃ a_, K0 a_ = 8 ∧ rD h a_ = false ∧ Go (d + 3) true 152 36 [.ref 10, .int 0] [.ref a_, .int 0, .ref 96] (nwH h a_ 18) Q from ⟨100, rfl, (ci.2.2.1 100 (by omega) (by omega)), ?_⟩)
      show Go (d + 3) true 152 36 [.ref 10, .int 0] [.ref 100, .int 0, .ref 96] (nwH h 100 18) Q
      refine exf_go 2 (show wpC (d + 3) true 75 [.ref 100] (nwH h 100 18) (fun _ h' => Go (d + 3) true 152 40 [.ref 10, .int 0] [.ref 100, .int 0, .ref 96] h' Q) from ?_)
      refine c_newS100 (h := nwH h 100 18) (fun x u v => (nw_D (by omega)).trans (ci.2.2.1 x (by omega) (by omega))) nw_I (fun h4 q4 cs4 im4 d4 => ?_)
      show Go (d + 3) true 152 40 [.ref 10, .int 0] [.ref 100, .int 0, .ref 96] h4 Q
      refine exf_go 5 (show vp_in 0 2 ∧ 100 = R0 96 0 ∧ (∃ a_, K0 a_ = 3 ∧ rD (uN h4 96 0 true) a_ = false ∧ Go (d + 3) true 152 49 [.ref 10, .int 0] [.ref a_, .int 0, .ref 97] (nwH (uN h4 96 0 true) a_ 8) Q) from ⟨(vp_in_nI (n := 0) (by decide) (by decide)), rfl, ⟨116, rfl, (((q4.1 116 rfl).2.2.2.2).trans ((nw_D (by decide)).trans (ci.2.2.2.1 116 (by omega) (by omega)))), ?_⟩⟩)
      show Go (d + 3) true 152 49 [.ref 10, .int 0] [.ref 116, .int 0, .ref 97] (nwH (uN h4 96 0 true) 116 8) Q
      refine exf_go 2 (show wpC (d + 3) true 26 [.ref 116] (nwH (uN h4 96 0 true) 116 8) (fun _ h' => Go (d + 3) true 152 53 [.ref 10, .int 0] [.ref 116, .int 0, .ref 97] h' Q) from ?_)
      refine c_newL116 (h := nwH (uN h4 96 0 true) 116 8) (fun x u v => (nw_D (by omega)).trans (((q4.1 x (sS8_f (by omega))).2.2.2.2).trans ((nw_D (by omega)).trans (ci.2.2.2.1 x (by omega) (by omega))))) (fun h5 q5 l5 il5 => ?_)
      show Go (d + 3) true 152 53 [.ref 10, .int 0] [.ref 116, .int 0, .ref 97] h5 Q
      refine exf_go 1 (show vp_in 0 2 ∧ 116 = R0 97 0 ∧ (Go (d + 3) true 152 54 [.ref 10, .int 0] [] (uN h5 97 0 true) Q) from ⟨(vp_in_nI (n := 0) (by decide) (by decide)), rfl, ?_⟩)
      have n96 : rN h5 96 0 = true := (congrFun ((q5.1 96 rfl).2.2.2.1) 0).trans (show va_up (rN (uN h4 96 0 true)) 116 (fun _ => false) 96 0 = true from by rw [up_ne (by decide)]; show va_up (rN h4) 96 (va_up (rN h4 96) 0 true) 96 0 = true; rw [up_eq, up_eq])
      have im5 : IMs 100 (uN h5 97 0 true) := by
        have e5 : ∀ k, rN (uN h5 97 0 true) 100 k = rN h4 100 k := fun k => (uN_ne (Or.inl (by decide))).trans ((congrFun ((q5.1 100 rfl).2.2.2.1) k).trans ((congrFun (nw_N (by decide)) k).trans (uN_ne (Or.inl (by decide)))))
        unfold IMs
        rw [e5, e5, e5, e5, e5, e5, e5]
        exact im4
      exact X54 _ (mkI0 ci q4 d4 q5 l5) ((uN_ne (Or.inl (by decide))).trans n96) (show va_up (rN h5) 97 (va_up (rN h5 97) 0 true) 97 0 = true from by rw [up_eq, up_eq]) im5 ⟨(uN_ne (Or.inl (by decide))).trans il5.1, (uN_ne (Or.inl (by decide))).trans il5.2⟩
  · skip
    exact absurd (by decide) c3
theorem c_imgS1 {d : Nat} {h : Hp} {g : ShG} {l : LkG} {gl : ShG × LkG} {Q : Po} (wf : WF h) (cs : CS 31 g h) (cl : CL 39 g l h) (ci : CIM 1 (some gl) h) (k : ∀ h1, Iq 1 h h1 → CIM 1 (some (g, l)) h1 → Q (.int 0) h1) : wpC (d + 4) true 152 [.ref 10, .int 1] h Q := by
  refine go_in rfl ?_
  have X54 : ∀ (h1 : Hp), (Iq 1 h h1) → (rN h1 96 1 = true) → (rN h1 97 1 = true) → (IMs 108 h1) → (IMl 119 h1) → Go (d + 3) true 152 54 [.ref 10, .int 1] [] h1 Q := by
    intro h1 i1 n6 n7 im1 il1
    refine exf_go 4 (show vp_in (1 : Int32) 2 ∧ (rN h1 96 1 = true → Go (d + 3) true 152 60 [.ref 10, .int 1] [.ref 108] h1 Q) ∧ (rN h1 96 1 = false → Go (d + 3) true 152 60 [.ref 10, .int 1] [.null] h1 Q) from ⟨vp_in_nI (n := 1) (by decide) (by decide), fun c1 => ?_, fun c1 => ?_⟩)
    · skip
      refine exf_go 3 (show wpC (d + 3) true 79 [.ref 108, .ref 31] h1 (fun _ h' => Go (d + 3) true 152 67 [.ref 10, .int 1] [] h' Q) from ?_)
      refine c_takeS108_31 im1 (cs_iq cs i1) (fun h2 q2 cs2 _ => ?_)
      have wf1 := i1.2.1 wf; have wf2 := q2.gq.2.2.2.1 wf1; have en2 : rN h2 = rN h1 := congrArg (·.2.1) q2.2
      have il2 : IMl 119 h2 := by unfold IMl; rw [en2]; exact il1
      have cl2 : CL 39 g l h2 := cl_same (cl_iq cl i1) (q2.I (fun _ => rfl)) (q2.I (fun _ => rfl)) (q2.I (fun _ => rfl)) (q2.L 40)
      have i2 : Iq 1 h1 h2 := q2.gq.iq (fun a x e => sSh_f (by have := sIc_f e; omega))
      show Go (d + 3) true 152 67 [.ref 10, .int 1] [] h2 Q
      refine exf_go 4 (show vp_in (1 : Int32) 2 ∧ (rN h2 97 1 = true → Go (d + 3) true 152 73 [.ref 10, .int 1] [.ref 119] h2 Q) ∧ (rN h2 97 1 = false → Go (d + 3) true 152 73 [.ref 10, .int 1] [.null] h2 Q) from ⟨vp_in_nI (n := 1) (by decide) (by decide), fun c2 => ?_, fun c2 => ?_⟩)
      · skip
        refine exf_go 3 (show wpC (d + 3) true 28 [.ref 119, .ref 39] h2 (fun _ h' => Go (d + 3) true 152 80 [.ref 10, .int 1] [] h' Q) from ?_)
        refine c_takeL119_39 wf2 cs.1 il2 cl2 (fun h3 g3 cl3 => ?_)
        have i3 : Iq 1 h2 h3 := g3.iq (fun a x e => sLo_f (by have := sIc_f e; omega) (sIc_f e).2.2)
        show Go (d + 3) true 152 80 [.ref 10, .int 1] [] h3 Q
        refine exf_go 2 (show Q (.int 0) h3 from ?_)
        have cs3 : CS 108 g h3 := by have := cs2; unfold CS at *; simp only [Nat.reduceAdd] at *; rw [g3.I (a := 108) (fun _ => rfl), g3.I (a := 109) (fun _ => rfl), g3.I (a := 110) (fun _ => rfl), g3.I (a := 111) (fun _ => rfl), g3.I (a := 112) (fun _ => rfl), g3.I (a := 113) (fun _ => rfl), g3.I (a := 114) (fun _ => rfl), g3.I (a := 115) (fun _ => rfl)]; exact this
        have en3 : ∀ x k, x ≠ 99 → rN h3 x k = rN h1 x k := fun x k z => (g3.2.1.1 x k z).trans (by rw [en2])
        refine k _ ((i1.tr i2).tr i3) ⟨(en3 96 1 (by decide)).trans n6, (en3 97 1 (by decide)).trans n7, ⟨?_, ?_, ?_, ?_, ?_, ?_, ?_⟩, ⟨?_, ?_⟩, cs3, cl3⟩
        · exact (en3 108 1 (by decide)).trans im1.1
        · exact (en3 108 2 (by decide)).trans im1.2.1
        · exact (en3 108 3 (by decide)).trans im1.2.2.1
        · exact (en3 108 4 (by decide)).trans im1.2.2.2.1
        · exact (en3 108 7 (by decide)).trans im1.2.2.2.2.1
        · exact (en3 108 8 (by decide)).trans im1.2.2.2.2.2.1
        · exact (en3 108 14 (by decide)).trans im1.2.2.2.2.2.2
        · exact (en3 119 0 (by decide)).trans il1.1
        · exact (en3 119 2 (by decide)).trans il1.2
      · skip
        exact absurd (((show rN h2 97 1 = true from by rw [en2]; exact n7)).symm.trans c2) (by decide)
    · skip
      exact absurd (((n6)).symm.trans c1) (by decide)
  refine exf_go 2 (show wpC (d + 3) true 160 [.int 1] h (fun r h' => Go (d + 3) true 152 4 [.ref 10, .int 1] [r] h' Q) from ?_)
  refine c_isImage (x := nI 1) (fun et _ => absurd ((show ixN (nI 1) 2 = some 1 from by decide).symm.trans et) (by decide)) (fun _ _ => ?_) (fun et => absurd ((show ixN (nI 1) 2 = some 1 from by decide).symm.trans et) (by simp))
  show Go (d + 3) true 152 4 [.ref 10, .int 1] [.int 1] h Q
  refine exf_go 1 (show (¬ (1 : Int32) = 0 → Go (d + 3) true 152 10 [.ref 10, .int 1] [] h Q) ∧ (¬ (¬ (1 : Int32) = 0) → Go (d + 3) true 152 7 [.ref 10, .int 1] [] h Q) from ⟨fun c3 => ?_, fun c3 => ?_⟩)
  · skip
    refine exf_go 4 (show vp_in (1 : Int32) 2 ∧ (rN h 96 1 = true → Go (d + 3) true 152 16 [.ref 10, .int 1] [.ref 108] h Q) ∧ (rN h 96 1 = false → Go (d + 3) true 152 16 [.ref 10, .int 1] [.null] h Q) from ⟨vp_in_nI (n := 1) (by decide) (by decide), fun c4 => ?_, fun c4 => ?_⟩)
    · skip
      refine exf_go 5 (show vp_in (1 : Int32) 2 ∧ (rN h 97 1 = true → Go (d + 3) true 152 25 [.ref 10, .int 1] [.ref 119] h Q) ∧ (rN h 97 1 = false → Go (d + 3) true 152 25 [.ref 10, .int 1] [.null] h Q) from ⟨vp_in_nI (n := 1) (by decide) (by decide), fun c5 => ?_, fun c5 => ?_⟩)
      · skip
        refine exf_go 1 (show Go (d + 3) true 152 54 [.ref 10, .int 1] [] h Q from ?_)
        exact X54 _ Iq.rfl' ci.1 ci.2.1 ci.2.2.1 ci.2.2.2.1
      · skip
        exact absurd (((ci.2.1)).symm.trans c5) (by decide)
    · skip
      exact absurd (((ci.1)).symm.trans c4) (by decide)
  · skip
    exact absurd (by decide) c3
theorem c_imgN1 {d : Nat} {h : Hp} {g : ShG} {l : LkG} {Q : Po} (wf : WF h) (cs : CS 31 g h) (cl : CL 39 g l h) (ci : CIM 1 none h) (k : ∀ h1, Iq 1 h h1 → CIM 1 (some (g, l)) h1 → Q (.int 0) h1) : wpC (d + 4) true 152 [.ref 10, .int 1] h Q := by
  refine go_in rfl ?_
  have X54 : ∀ (h1 : Hp), (Iq 1 h h1) → (rN h1 96 1 = true) → (rN h1 97 1 = true) → (IMs 108 h1) → (IMl 119 h1) → Go (d + 3) true 152 54 [.ref 10, .int 1] [] h1 Q := by
    intro h1 i1 n6 n7 im1 il1
    refine exf_go 4 (show vp_in (1 : Int32) 2 ∧ (rN h1 96 1 = true → Go (d + 3) true 152 60 [.ref 10, .int 1] [.ref 108] h1 Q) ∧ (rN h1 96 1 = false → Go (d + 3) true 152 60 [.ref 10, .int 1] [.null] h1 Q) from ⟨vp_in_nI (n := 1) (by decide) (by decide), fun c1 => ?_, fun c1 => ?_⟩)
    · skip
      refine exf_go 3 (show wpC (d + 3) true 79 [.ref 108, .ref 31] h1 (fun _ h' => Go (d + 3) true 152 67 [.ref 10, .int 1] [] h' Q) from ?_)
      refine c_takeS108_31 im1 (cs_iq cs i1) (fun h2 q2 cs2 _ => ?_)
      have wf1 := i1.2.1 wf; have wf2 := q2.gq.2.2.2.1 wf1; have en2 : rN h2 = rN h1 := congrArg (·.2.1) q2.2
      have il2 : IMl 119 h2 := by unfold IMl; rw [en2]; exact il1
      have cl2 : CL 39 g l h2 := cl_same (cl_iq cl i1) (q2.I (fun _ => rfl)) (q2.I (fun _ => rfl)) (q2.I (fun _ => rfl)) (q2.L 40)
      have i2 : Iq 1 h1 h2 := q2.gq.iq (fun a x e => sSh_f (by have := sIc_f e; omega))
      show Go (d + 3) true 152 67 [.ref 10, .int 1] [] h2 Q
      refine exf_go 4 (show vp_in (1 : Int32) 2 ∧ (rN h2 97 1 = true → Go (d + 3) true 152 73 [.ref 10, .int 1] [.ref 119] h2 Q) ∧ (rN h2 97 1 = false → Go (d + 3) true 152 73 [.ref 10, .int 1] [.null] h2 Q) from ⟨vp_in_nI (n := 1) (by decide) (by decide), fun c2 => ?_, fun c2 => ?_⟩)
      · skip
        refine exf_go 3 (show wpC (d + 3) true 28 [.ref 119, .ref 39] h2 (fun _ h' => Go (d + 3) true 152 80 [.ref 10, .int 1] [] h' Q) from ?_)
        refine c_takeL119_39 wf2 cs.1 il2 cl2 (fun h3 g3 cl3 => ?_)
        have i3 : Iq 1 h2 h3 := g3.iq (fun a x e => sLo_f (by have := sIc_f e; omega) (sIc_f e).2.2)
        show Go (d + 3) true 152 80 [.ref 10, .int 1] [] h3 Q
        refine exf_go 2 (show Q (.int 0) h3 from ?_)
        have cs3 : CS 108 g h3 := by have := cs2; unfold CS at *; simp only [Nat.reduceAdd] at *; rw [g3.I (a := 108) (fun _ => rfl), g3.I (a := 109) (fun _ => rfl), g3.I (a := 110) (fun _ => rfl), g3.I (a := 111) (fun _ => rfl), g3.I (a := 112) (fun _ => rfl), g3.I (a := 113) (fun _ => rfl), g3.I (a := 114) (fun _ => rfl), g3.I (a := 115) (fun _ => rfl)]; exact this
        have en3 : ∀ x k, x ≠ 99 → rN h3 x k = rN h1 x k := fun x k z => (g3.2.1.1 x k z).trans (by rw [en2])
        refine k _ ((i1.tr i2).tr i3) ⟨(en3 96 1 (by decide)).trans n6, (en3 97 1 (by decide)).trans n7, ⟨?_, ?_, ?_, ?_, ?_, ?_, ?_⟩, ⟨?_, ?_⟩, cs3, cl3⟩
        · exact (en3 108 1 (by decide)).trans im1.1
        · exact (en3 108 2 (by decide)).trans im1.2.1
        · exact (en3 108 3 (by decide)).trans im1.2.2.1
        · exact (en3 108 4 (by decide)).trans im1.2.2.2.1
        · exact (en3 108 7 (by decide)).trans im1.2.2.2.2.1
        · exact (en3 108 8 (by decide)).trans im1.2.2.2.2.2.1
        · exact (en3 108 14 (by decide)).trans im1.2.2.2.2.2.2
        · exact (en3 119 0 (by decide)).trans il1.1
        · exact (en3 119 2 (by decide)).trans il1.2
      · skip
        exact absurd (((show rN h2 97 1 = true from by rw [en2]; exact n7)).symm.trans c2) (by decide)
    · skip
      exact absurd (((n6)).symm.trans c1) (by decide)
  refine exf_go 2 (show wpC (d + 3) true 160 [.int 1] h (fun r h' => Go (d + 3) true 152 4 [.ref 10, .int 1] [r] h' Q) from ?_)
  refine c_isImage (x := nI 1) (fun et _ => absurd ((show ixN (nI 1) 2 = some 1 from by decide).symm.trans et) (by decide)) (fun _ _ => ?_) (fun et => absurd ((show ixN (nI 1) 2 = some 1 from by decide).symm.trans et) (by simp))
  show Go (d + 3) true 152 4 [.ref 10, .int 1] [.int 1] h Q
  refine exf_go 1 (show (¬ (1 : Int32) = 0 → Go (d + 3) true 152 10 [.ref 10, .int 1] [] h Q) ∧ (¬ (¬ (1 : Int32) = 0) → Go (d + 3) true 152 7 [.ref 10, .int 1] [] h Q) from ⟨fun c3 => ?_, fun c3 => ?_⟩)
  · skip
    refine exf_go 4 (show vp_in (1 : Int32) 2 ∧ (rN h 96 1 = true → Go (d + 3) true 152 16 [.ref 10, .int 1] [.ref 108] h Q) ∧ (rN h 96 1 = false → Go (d + 3) true 152 16 [.ref 10, .int 1] [.null] h Q) from ⟨vp_in_nI (n := 1) (by decide) (by decide), fun c4 => ?_, fun c4 => ?_⟩)
    · skip
      exact absurd (c4.symm.trans (ci.1)) (by decide)
    · skip
      refine exf_go 5 (show ∃ a_, K0 a_ = 8 ∧ rD h a_ = false ∧ Go (d + 3) true 152 36 [.ref 10, .int 1] [.ref a_, .int 1, .ref 96] (nwH h a_ 18) Q from ⟨108, rfl, (ci.2.2.1 108 (by omega) (by omega)), ?_⟩)
      show Go (d + 3) true 152 36 [.ref 10, .int 1] [.ref 108, .int 1, .ref 96] (nwH h 108 18) Q
      refine exf_go 2 (show wpC (d + 3) true 75 [.ref 108] (nwH h 108 18) (fun _ h' => Go (d + 3) true 152 40 [.ref 10, .int 1] [.ref 108, .int 1, .ref 96] h' Q) from ?_)
      refine c_newS108 (h := nwH h 108 18) (fun x u v => (nw_D (by omega)).trans (ci.2.2.1 x (by omega) (by omega))) nw_I (fun h4 q4 cs4 im4 d4 => ?_)
      show Go (d + 3) true 152 40 [.ref 10, .int 1] [.ref 108, .int 1, .ref 96] h4 Q
      refine exf_go 5 (show vp_in 1 2 ∧ 108 = R0 96 1 ∧ (∃ a_, K0 a_ = 3 ∧ rD (uN h4 96 1 true) a_ = false ∧ Go (d + 3) true 152 49 [.ref 10, .int 1] [.ref a_, .int 1, .ref 97] (nwH (uN h4 96 1 true) a_ 8) Q) from ⟨(vp_in_nI (n := 1) (by decide) (by decide)), rfl, ⟨119, rfl, (((q4.1 119 rfl).2.2.2.2).trans ((nw_D (by decide)).trans (ci.2.2.2.1 119 (by omega) (by omega)))), ?_⟩⟩)
      show Go (d + 3) true 152 49 [.ref 10, .int 1] [.ref 119, .int 1, .ref 97] (nwH (uN h4 96 1 true) 119 8) Q
      refine exf_go 2 (show wpC (d + 3) true 26 [.ref 119] (nwH (uN h4 96 1 true) 119 8) (fun _ h' => Go (d + 3) true 152 53 [.ref 10, .int 1] [.ref 119, .int 1, .ref 97] h' Q) from ?_)
      refine c_newL119 (h := nwH (uN h4 96 1 true) 119 8) (fun x u v => (nw_D (by omega)).trans (((q4.1 x (sS8_f (by omega))).2.2.2.2).trans ((nw_D (by omega)).trans (ci.2.2.2.1 x (by omega) (by omega))))) (fun h5 q5 l5 il5 => ?_)
      show Go (d + 3) true 152 53 [.ref 10, .int 1] [.ref 119, .int 1, .ref 97] h5 Q
      refine exf_go 1 (show vp_in 1 2 ∧ 119 = R0 97 1 ∧ (Go (d + 3) true 152 54 [.ref 10, .int 1] [] (uN h5 97 1 true) Q) from ⟨(vp_in_nI (n := 1) (by decide) (by decide)), rfl, ?_⟩)
      have n96 : rN h5 96 1 = true := (congrFun ((q5.1 96 rfl).2.2.2.1) 1).trans (show va_up (rN (uN h4 96 1 true)) 119 (fun _ => false) 96 1 = true from by rw [up_ne (by decide)]; show va_up (rN h4) 96 (va_up (rN h4 96) 1 true) 96 1 = true; rw [up_eq, up_eq])
      have im5 : IMs 108 (uN h5 97 1 true) := by
        have e5 : ∀ k, rN (uN h5 97 1 true) 108 k = rN h4 108 k := fun k => (uN_ne (Or.inl (by decide))).trans ((congrFun ((q5.1 108 rfl).2.2.2.1) k).trans ((congrFun (nw_N (by decide)) k).trans (uN_ne (Or.inl (by decide)))))
        unfold IMs
        rw [e5, e5, e5, e5, e5, e5, e5]
        exact im4
      exact X54 _ (mkI1 ci q4 d4 q5 l5) ((uN_ne (Or.inl (by decide))).trans n96) (show va_up (rN h5) 97 (va_up (rN h5 97) 1 true) 97 1 = true from by rw [up_eq, up_eq]) im5 ⟨(uN_ne (Or.inl (by decide))).trans il5.1, (uN_ne (Or.inl (by decide))).trans il5.2⟩
  · skip
    exact absurd (by decide) c3
