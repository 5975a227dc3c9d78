/-! The class: the shed call. -/
def sSf (a i : Nat) : Bool := (Nat.ble 12 a && Nat.ble a 30) || (Nat.beq a 10 && Nat.beq i 1)
def sSd (a i : Nat) : Bool := (Nat.ble 12 a && Nat.ble a 42) || Nat.beq a 99 || (Nat.beq a 10 && Nat.beq i 1)
theorem rng_f {lo hi a : Nat} (h : (Nat.ble lo a && Nat.ble a hi) = false) : a < lo ∨ hi < a := by
  rcases Nat.lt_or_ge a lo with z | z
  · exact Or.inl z
  · rcases Nat.lt_or_ge hi a with z2 | z2
    · exact Or.inr z2
    · rw [Nat.ble_eq.mpr z, Nat.ble_eq.mpr z2] at h; exact absurd h (by decide)
theorem rng_o {lo hi a : Nat} (h : a < lo ∨ hi < a) : (Nat.ble lo a && Nat.ble a hi) = false := by
  rcases h with h | h
  · rw [ble_no (x := lo) (y := a) (by omega), Bool.false_and]
  · rw [ble_no (x := a) (y := hi) (by omega), Bool.and_false]
theorem sTx_o {a i : Nat} (h : a < 12 ∨ 30 < a) : sTx a i = false := by
  unfold sTx sLn sRc
  rw [beq_no (y := 16) (by omega), beq_no (y := 17) (by omega), beq_no (y := 18) (by omega), beq_no (y := 19) (by omega), beq_no (y := 20) (by omega), rng_o (lo := 23) (hi := 30) (by omega)]
  rfl
theorem sTk_o {a i : Nat} (h : a < 12 ∨ 30 < a) : sTk a i = false := by
  unfold sTk
  rw [beq_no (y := 12) (by omega), beq_no (y := 13) (by omega), beq_no (y := 14) (by omega), beq_no (y := 15) (by omega)]
  rfl
theorem sTx_F (a i : Nat) (e : sSf a i = false) : sTx a i = false := sTx_o (rng_f (Bool.or_eq_false_iff.mp e).1)
theorem sTk_F (a i : Nat) (e : sSf a i = false) : sTk a i = false := sTk_o (rng_f (Bool.or_eq_false_iff.mp e).1)
theorem sSf_D (a i : Nat) (e : sSd a i = false) : sSf a i = false := by
  unfold sSd at e
  unfold sSf
  simp only [Bool.or_eq_false_iff] at e ⊢
  have := rng_f e.1.1
  exact ⟨rng_o (by omega), e.2⟩
theorem sSh_D (a i : Nat) (e : sSd a i = false) : sSh 31 a i = false := by
  unfold sSd at e
  simp only [Bool.or_eq_false_iff] at e
  have := rng_f e.1.1
  exact sSh_f (by omega)
theorem sBg_D (a i : Nat) (e : sSd a i = false) : sBg a i = false := by
  unfold sSd at e
  simp only [Bool.or_eq_false_iff] at e
  have := rng_f e.1.1
  unfold sBg sCe sLk sSt
  rw [rng_o (lo := 39) (hi := 41) (by omega), e.1.2, beq_no (y := 22) (by omega), beq_no (y := 17) (by omega), beq_no (y := 21) (by omega)]
  rfl
theorem ix_no {x : Int32} {n : Nat} (h : ixN x n = none) : x < 0 ∨ nI n ≤ x := by
  unfold ixN at h
  split at h
  · assumption
  · cases h
/-- the codes of a text -/
def oY (y : LnG) : CdG := (qc (ys y), yb y, ye y, qn (ys y))
theorem cdw_Y {b : Nat → Nat} {n : Nat} {y : LnG} (hn : n ≤ 900) (yw : YW b n y) (e : qe (ys y) = 0) : CdW (yg y) (oY y) ∧ CdS (yg y) (oY y) := by
  obtain ⟨k1, k2, k3⟩ := yw.2.2.2 e
  have h1 := yw.2.1.2 e
  have h2 := iv_n yw.2.1
  exact ⟨⟨by show qn (ys y) ≤ 900; omega, fun c hc => ⟨(k2 c hc).1, (k2 c hc).2.2⟩⟩, fun c hc => ((k2 c hc).2.1).trans (pv_E (oY y) c).symm⟩
theorem wf_N3 {h : Hp} (wf : WF h) : WF (hN3 h) := by
  refine ⟨wf.1, wf.2.1, fun a k e => ?_⟩
  have w := wf.2.2 a k e
  have u : ∀ (h : Hp) (z : Nat), rN h a k = true → rN (uN h 16 z true) a k = true := by
    intro h z hw
    by_cases q : a = 16 ∧ k = z
    · obtain ⟨q1, q2⟩ := q
      subst q1; subst q2
      show va_up h.2.2.2.1 16 (va_up (h.2.2.2.1 16) k true) 16 k = true
      rw [up_eq, up_eq]
    · exact (uN_ne (by omega)).trans hw
  exact u _ 6 (u _ 5 (u _ 4 w))
theorem c_shedX {d : Nat} {h : Hp} {t : TpG} {x : Int32} {Q : Po} (ct : CTP t h) (hx : ixN x (t.1 + 1) = none) (k : Q (.int (-3)) h) : wpC (d + 36) true 113 [.ref 10, .int x] h Q := by
  have ht := ct.1.1
  refine go_in rfl ?_
  refine exf_go 2 (show (x < 0 → Go (d + 35) true 113 12 [.ref 10, .int x] [] h Q) ∧ (¬ (x < 0) → Go (d + 35) true 113 4 [.ref 10, .int x] [] h Q) from ⟨fun c1 => ?_, fun c1 => ?_⟩)
  · skip
    refine exf_go 2 (show Q (.int (-3)) h from ?_)
    exact k
  · skip
    refine exf_go 3 (show Go (d + 35) true 113 9 [.ref 10, .int x] [.int (rI h 10 1), .int x] h Q from ?_)
    rw [show (rI h 10 1 : Int32) = nI t.1 from ct.2.1]
    refine exf_go 1 (show (x ≤ (nI t.1) → Go (d + 35) true 113 15 [.ref 10, .int x] [] h Q) ∧ (¬ (x ≤ (nI t.1)) → Go (d + 35) true 113 12 [.ref 10, .int x] [] h Q) from ⟨fun c2 => ?_, fun c2 => ?_⟩)
    · skip
      exfalso
      rcases ix_no hx with z | z
      · exact c1 z
      · have z2 := Int32.le_trans z c2; rw [nI_leI (by omega) (by omega)] at z2; omega
    · skip
      refine exf_go 2 (show Q (.int (-3)) h from ?_)
      exact k
def sSf1 (a i : Nat) : Bool := Nat.beq a 10 && Nat.beq i 1
theorem fq_uN {s : Nat → Nat → Bool} {h h1 : Hp} (q : Fq s h h1) (a k : Nat) : Fq s (uN h a k true) (uN h1 a k true) := ⟨fun b i e => q.1 b i e, congrArg (fun z => (z.1, va_up z.2.1 a (va_up (z.2.1 a) k true), z.2.2)) q.2⟩
theorem fq_N3 {s : Nat → Nat → Bool} {h h1 : Hp} (q : Fq s h h1) : Fq s (hN3 h) (hN3 h1) := fq_uN (fq_uN (fq_uN q 16 4) 16 5) 16 6
theorem c_shedN {d : Nat} {h : Hp} {t : TpG} {j pI0 : Nat} {hl : Nat → LkG} {Q : Po} (wf : WF h) (ct : CTP t h) (hj : j ≤ t.1) (hp9 : pI0 < 9) (hp1 : rI h 42 1 = nI pI0) (k0 : ¬ qe (ys (rTx t.2 j 900 y00)) = 0 → ∀ h1, Gq sSf (hN3 h) h1 → rI h1 10 1 = nI 0 → rI h1 16 0 = nI (qe (ys (rTx t.2 j 900 y00))) → rI h1 16 1 = nI (qx (ys (rTx t.2 j 900 y00))) → Q (.int ((-30) - nI (qe (ys (rTx t.2 j 900 y00))))) h1) (k1 : qe (ys (rTx t.2 j 900 y00)) = 0 → ∀ h1, Gq sSd (hN3 h) h1 → rI h1 10 1 = nI 0 → CS 31 (gH (yg (rTx t.2 j 900 y00)) (oY (rTx t.2 j 900 y00))) h1 → CD (gH (yg (rTx t.2 j 900 y00)) (oY (rTx t.2 j 900 y00))) (l0 (ya (rTx t.2 j 900 y00)), 0, hl) h1 → rI h1 16 0 = nI 0 → rI h1 16 1 = -1 → Q (.int (nI (sL (yg (rTx t.2 j 900 y00))))) h1) : wpC (d + 36) true 113 [.ref 10, .int (nI j)] h Q := by
  have ht := ct.1.1
  refine go_in rfl ?_
  refine exf_go 2 (show ((nI j) < 0 → Go (d + 35) true 113 12 [.ref 10, .int (nI j)] [] h Q) ∧ (¬ ((nI j) < 0) → Go (d + 35) true 113 4 [.ref 10, .int (nI j)] [] h Q) from ⟨fun c1 => ?_, fun c1 => ?_⟩)
  · skip
    have c1 : j < 0 := (nI_ltI (a := j) (b := 0) (by omega) (by omega)).mp c1
    refine exf_go 2 (show Q (.int (-3)) h from ?_)
    exfalso; omega
  · skip
    have c1 : ¬ j < 0 := fun q => c1 ((nI_ltI (a := j) (b := 0) (by omega) (by omega)).mpr q)
    refine exf_go 3 (show Go (d + 35) true 113 9 [.ref 10, .int (nI j)] [.int (rI h 10 1), .int (nI j)] h Q from ?_)
    rw [show (rI h 10 1 : Int32) = nI t.1 from ct.2.1]
    refine exf_go 1 (show ((nI j) ≤ (nI t.1) → Go (d + 35) true 113 15 [.ref 10, .int (nI j)] [] h Q) ∧ (¬ ((nI j) ≤ (nI t.1)) → Go (d + 35) true 113 12 [.ref 10, .int (nI j)] [] h Q) from ⟨fun c2 => ?_, fun c2 => ?_⟩)
    · skip
      have c2 : j ≤ t.1 := (nI_leI (a := j) (b := t.1) (by omega) (by omega)).mp c2
      refine exf_go 6 (show wpC (d + 35) true 89 [.ref 12, .ref 11, .int (nI j)] h (fun _ h' => Go (d + 35) true 113 27 [.ref 10, .int (nI j)] [] h' Q) from ?_)
      refine c_splitT (b := t.2) (n := j) ⟨⟨by omega, ct.1.2⟩, fun i hi => ct.2.2 i (by omega)⟩ (fun N h1 q1 tk1 => ?_)
      show Go (d + 35) true 113 27 [.ref 10, .int (nI j)] [] h1 Q
      refine exf_go 12 (show wpC (d + 35) true 54 [.ref 16, .ref 12, .ref 23, .ref 17] (uI h1 10 1 0) (fun _ h' => Go (d + 35) true 113 51 [.ref 10, .int (nI j)] [] h' Q) from ?_)
      have q2 : Fq sSf h1 (uI h1 10 1 0) := Fq.rfl'.uI' _ _ _ rfl
      have tk2 : TK t.2 j N (uI h1 10 1 0) := tk_o tk1 (show Fq sSf1 h1 (uI h1 10 1 0) from Fq.rfl'.uI' _ _ _ rfl) (fun _ => ⟨rfl, rfl, rfl⟩) rfl
      have r2 : rI (uI h1 10 1 0) 10 1 = nI 0 := rfl
      generalize hg2 : uI h1 10 1 0 = h2 at q2 tk2 r2 ⊢
      refine c_readText tk2 (by omega) (fun h3 q3 yw3 cy3 t5 tw tt => ?_)
      have qA : Fq sSf h h2 := (q1.mono sTk_F).tr q2
      have g3 : Gq sSf (hN3 h) h3 := Gq.tr (fq_N3 qA).gq (q3.mono sTx_F).gq
      have e10 : rI h3 10 1 = nI 0 := (q3.1 10 1 rfl).1.trans r2
      have hbY := cp_b cy3.1
      generalize hY : rTx t.2 j 900 y00 = y at yw3 cy3 t5 tw tt k0 k1 hbY ⊢
      show Go (d + 35) true 113 51 [.ref 10, .int (nI j)] [] h3 Q
      refine exf_go 3 (show Go (d + 35) true 113 58 [.ref 10, .int (nI j)] [.int (rI h3 16 0)] h3 Q from ?_)
      rw [show (rI h3 16 0 : Int32) = nI (qe (ys y)) from cy3.1.2.2.1.1]
      refine exf_go 1 (show ((nI (qe (ys y))) = 0 → Go (d + 35) true 113 72 [.ref 10, .int (nI j)] [] h3 Q) ∧ (¬ ((nI (qe (ys y))) = 0) → Go (d + 35) true 113 61 [.ref 10, .int (nI j)] [] h3 Q) from ⟨fun c3 => ?_, fun c3 => ?_⟩)
      · skip
        have c3 : (qe (ys y)) = 0 := (nI_eq (a := (qe (ys y))) (b := 0) (by omega) (by omega)).mp c3
        refine exf_go 5 (show wpC (d + 35) true 79 [.ref 31, .ref 23] h3 (fun _ h' => Go (d + 35) true 113 83 [.ref 10, .int (nI j)] [] h' Q) from ?_)
        have he : qe (ys y) = 0 := by omega
        have co := cy3.2.1; have cr := cy3.2.2 he
        have cs3 : CS 23 (yg y) h3 := ⟨yw3.1, co.1.1, t5, fun w hw => ⟨(co.2.1 w hw).1, (co.2.1 w hw).2.1, (co.2.1 w hw).2.2, tw w hw⟩, co.1.2.1, cr.1.1, cr.1.2.1, cr.1.2.2.1, cr.1.2.2.2, co.1.2.2.1, cr.2.1, cr.2.2.2.1, fun c hc => (co.2.2.1 c hc).1, fun m hm => tt m hm, fun m hm => co.2.2.2 m hm⟩
        refine c_takeS31_23 cs3 (fun h4 q4 cs4 e4 => ?_)
        have g4 : Gq sSd (hN3 h) h4 := (g3.mono sSf_D).tr (q4.mono sSh_D).gq
        have wf4 : WF h4 := g4.2.2.2.1 (wf_N3 wf)
        have cd := cdw_Y (by omega) yw3 he
        have cf4 : CF (yg y) (oY y) h4 := ⟨cd, (q4.1 17 4 rfl).1.trans co.1.2.2.2, fun c hc => (q4.1 20 c rfl).1.trans (co.2.2.1 c hc).2, fun i hi => ⟨(q4.1 18 i rfl).1.trans (cy3.1.2.2.2.2 i hi).1, (q4.1 19 i rfl).1.trans (cy3.1.2.2.2.2 i hi).2⟩⟩
        show Go (d + 35) true 113 83 [.ref 10, .int (nI j)] [] h4 Q
        refine exf_go 7 (show wpC (d + 35) true 27 [.ref 39, .ref 31, .ref 17] h4 (fun _ h' => Go (d + 35) true 113 98 [.ref 10, .int (nI j)] [] h' Q) from ?_)
        refine c_begin wf4 cs4 cf4 (e4.trans cr.2.2.1) yw3.2.2.1.1 (fun h5 g5 cl5 => ?_)
        have g6 : Gq sSd (hN3 h) h5 := g4.tr (g5.mono sBg_D); have cs5 := cs_bg cs4 g5
        show Go (d + 35) true 113 98 [.ref 10, .int (nI j)] [] h5 Q
        refine exf_go 3 (show wpC (d + 35) true 16 [.ref 42] h5 (fun _ h' => Go (d + 35) true 113 105 [.ref 10, .int (nI j)] [] h' Q) from ?_)
        refine c_forget ?_
        show Go (d + 35) true 113 105 [.ref 10, .int (nI j)] [] (uI h5 42 2 0) Q
        refine exf_go 3 (show Go (d + 35) true 113 112 [.ref 10, .int (nI j)] [.int (rI h5 31 17)] (uI h5 42 2 0) Q from ?_)
        rw [show (rI h5 31 17 : Int32) = nI (sL (yg y)) from cs_L cs5]
        refine exf_go 1 (show Q (.int (nI (sL (yg y)))) (uI h5 42 2 0) from ?_)
        refine k1 he _ (g6.uI' _ _ _ rfl) ?_ ?_ ⟨cl_same cl5 rfl rfl rfl rfl, pI0, hp9, Nat.zero_le _, ?_, rfl, fun k hk => absurd hk (Nat.not_lt_zero _)⟩ ?_ ?_
        · show rI h5 10 1 = nI 0; exact ((g5.1 10 1 rfl).1.trans (q4.1 10 1 rfl).1).trans e10
        · exact cs_same (cs_gH cs5 (oY y)) (fun a u v => rI_uI_ne (by omega))
        · show rI h5 42 1 = nI pI0; exact ((((g5.1 42 1 rfl).1.trans (q4.1 42 1 rfl).1).trans (q3.1 42 1 rfl).1).trans (qA.1 42 1 rfl).1).trans hp1
        · show rI h5 16 0 = nI 0; exact ((g5.1 16 0 rfl).1.trans (q4.1 16 0 rfl).1).trans (cy3.1.2.2.1.1.trans (by rw [he]))
        · show rI h5 16 1 = -1; exact ((g5.1 16 1 rfl).1.trans (q4.1 16 1 rfl).1).trans (cy3.1.2.2.1.2.2.1 he)
      · skip
        have c3 : ¬ (qe (ys y)) = 0 := fun q => c3 ((nI_eq (a := (qe (ys y))) (b := 0) (by omega) (by omega)).mpr q)
        refine exf_go 4 (show Go (d + 35) true 113 70 [.ref 10, .int (nI j)] [.int (rI h3 16 0), .int (-30)] h3 Q from ?_)
        rw [show (rI h3 16 0 : Int32) = nI (qe (ys y)) from cy3.1.2.2.1.1]
        refine exf_go 2 (show Q (.int ((-30) - (nI (qe (ys y))))) h3 from ?_)
        exact k0 (by omega) _ g3 e10 cy3.1.2.2.1.1 (cy3.1.2.2.1.2.2.2 (by omega))
    · skip
      have c2 : ¬ j ≤ t.1 := fun q => c2 ((nI_leI (a := j) (b := t.1) (by omega) (by omega)).mpr q)
      refine exf_go 2 (show Q (.int (-3)) h from ?_)
      exfalso; omega
