/-! The class: lines, second part. -/
def sB (a i : Nat) : Bool := sRc a i || (Nat.beq a 23 && Nat.ble 10 i && Nat.ble i 11)
theorem sRc_B (a i : Nat) (e : sB a i = false) : sRc a i = false := (Bool.or_eq_false_iff.mp e).1
theorem sB_L (a i : Nat) (e : sLn a i = false) : sB a i = false := by
  by_cases ha : a = 23
  · subst ha; exact absurd (e.symm.trans (sLn_23 i)) (by decide)
  · have hb : Nat.beq a 23 = false := beq_no ha
    unfold sB
    rw [sRc_L a i e, hb]
    rfl
theorem sB_Q (a i : Nat) (e : sQ a i = false) : sB a i = false := by
  unfold sB
  rw [sRc_Q a i e]
  unfold sQ at e
  simp only [Bool.or_eq_false_iff] at e
  cases h : (Nat.beq a 23 && Nat.ble 10 i && Nat.ble i 11) with
  | false => rfl
  | true =>
    simp only [Bool.and_eq_true, Nat.ble_eq] at h
    have e2 := e.1.1.2
    rw [h.1.1, Nat.ble_eq.mpr (show 9 ≤ i by omega), Nat.ble_eq.mpr (show i ≤ 12 by omega)] at e2
    exact absurd e2 (by decide)
theorem fg_f {b : Nat → Nat} {n : Nat} {F : Nat → Nat} {s s1 : PsG} {u x : Nat} (e : fgL b n F u s = (s1, x)) (z : ¬ qe (tkn b n 0 (F u) s1) = 0) : ∀ j, (fgL b n F (u + 1 + j) s).1 = tkn b n 0 (F u) s1
  | 0 => by show tkn b n 0 (F u) (fgL b n F u s).1 = _; rw [e]
  | j + 1 => by
    show tkn b n 0 (F (u + 1 + j)) (fgL b n F (u + 1 + j) s).1 = _
    rw [fg_f e z j, tkn_id z]
theorem fgA_0 {b : Nat → Nat} {n : Nat} {g : ShG} {s : PsG} (h : sW g = 0) : fgA b n g s = (tkn b n 0 0 (nx s), 0) := if_pos h
theorem fgA_n {b : Nat → Nat} {n : Nat} {g : ShG} {s : PsG} (h : ¬ sW g = 0) : fgA b n g s = fgL b n (sF g) (sW g) (nx s) := if_neg h
theorem rL_3 {b : Nat → Nat} {n : Nat} {y : LnG} (h : kd b n (qi (ys y)) = 3) : rLn b n y = rCl b n y := by
  unfold rLn
  rw [if_neg (by omega), if_pos h]
theorem rL_4 {b : Nat → Nat} {n : Nat} {y : LnG} (h : kd b n (qi (ys y)) = 4) : rLn b n y = rPu b n y := by
  unfold rLn
  rw [if_neg (by omega), if_neg (by omega), if_pos h]
theorem rL_5 {b : Nat → Nat} {n : Nat} {y : LnG} (h : kd b n (qi (ys y)) = 5) : rLn b n y = rBa b n y := by
  unfold rLn
  rw [if_neg (by omega), if_neg (by omega), if_neg (by omega), if_pos h]
theorem rL_6 {b : Nat → Nat} {n : Nat} {y : LnG} (h : kd b n (qi (ys y)) = 6) : rLn b n y = rSa b n y := by
  unfold rLn
  rw [if_neg (by omega), if_neg (by omega), if_neg (by omega), if_neg (by omega), if_pos h]
theorem rL_7 {b : Nat → Nat} {n : Nat} {y : LnG} (h : kd b n (qi (ys y)) = 7) : rLn b n y = rMt b n y := by
  unfold rLn
  rw [if_neg (by omega), if_neg (by omega), if_neg (by omega), if_neg (by omega), if_neg (by omega), if_pos h]
theorem rL_8 {b : Nat → Nat} {n : Nat} {y : LnG} (h : kd b n (qi (ys y)) = 8) : rLn b n y = rSe b n y := by
  unfold rLn
  rw [if_neg (by omega), if_neg (by omega), if_neg (by omega), if_neg (by omega), if_neg (by omega), if_neg (by omega), if_pos h]
theorem rL_9 {b : Nat → Nat} {n : Nat} {y : LnG} (h : kd b n (qi (ys y)) = 9) : rLn b n y = rAt b n y := by
  unfold rLn
  rw [if_neg (by omega), if_neg (by omega), if_neg (by omega), if_neg (by omega), if_neg (by omega), if_neg (by omega), if_neg (by omega), if_pos h]
theorem rL_0 {b : Nat → Nat} {n : Nat} {y : LnG} (h : kd b n (qi (ys y)) = 0) : rLn b n y = rW2 b n y := by
  unfold rLn rW2
  by_cases z : yh y = 0
  · rw [if_pos ⟨h, z⟩, if_pos z]
  · rw [if_neg (fun q => z q.2), if_neg z, if_neg (by omega), if_neg (by omega), if_neg (by omega), if_neg (by omega), if_neg (by omega), if_neg (by omega), if_neg (by omega)]
theorem rL_x {b : Nat → Nat} {n : Nat} {y : LnG} (h : ∀ k, k < 10 → k = 1 ∨ k = 2 ∨ ¬ kd b n (qi (ys y)) = k) : rLn b n y = (fl b n 2 (ys y), y.2) := by
  have h0 := h 0 (by decide); have h3 := h 3 (by decide); have h4 := h 4 (by decide); have h5 := h 5 (by decide); have h6 := h 6 (by decide); have h7 := h 7 (by decide); have h8 := h 8 (by decide); have h9 := h 9 (by decide)
  unfold rLn
  rw [if_neg (by omega), if_neg (by omega), if_neg (by omega), if_neg (by omega), if_neg (by omega), if_neg (by omega), if_neg (by omega), if_neg (by omega)]
def s2311 (a i : Nat) : Bool := Nat.beq a 23 && Nat.beq i 11
theorem c_readBar {d : Nat} {h : Hp} {b : Nat → Nat} {n N : Nat} {s : PsG} {Q : Po} {g : ShG} {st en : Nat → Nat} {a ah : Nat} (hg : ShW g) (hah : ah ≤ 1) (cp : CP b n N s h) (iv : IV b n 0 s) (he : qe s = 0) (hk : kd b n (qi s) = 5) (co : CO g en h) (cr : CR g a ah h) (k1 : ∀ h1, Fq sLn h h1 → CY b n N (rBa b n (s, g, st, en, a, ah)) h1 → qe (ys (rBa b n (s, g, st, en, a, ah))) = 0 → Q (.int 1) h1) (k0 : ∀ h1, Fq sLn h h1 → CY b n N (rBa b n (s, g, st, en, a, ah)) h1 → ¬ qe (ys (rBa b n (s, g, st, en, a, ah))) = 0 → Q (.int 0) h1) : wpC (d + 5) true 63 [.ref 16] h Q := by
  have hb0 := cp_b cp; have hW4 := hg.1; have hC8 := hg.2.2.2.1; have hM4 := hg.2.2.2.2.2.1
  refine go_in rfl ?_
  refine exf_go 3 (show Go (d + 4) true 63 5 [.ref 16] [.int (rI h 16 2), .ref 16] h Q from ?_)
  rw [show (rI h 16 2 : Int32) = nI (qi s) from cp.2.2.1.2.1]
  refine exf_go 2 (show Go (d + 4) true 63 7 [.ref 16] [.int ((nI (qi s)) + 1), .ref 16] h Q from ?_)
  rw [show ((nI (qi s)) + 1 : Int32) = nI ((qi s) + 1) from nI_add (qi s) 1]
  refine exf_go 7 (show rN (uI h 16 2 (nI ((qi s) + 1))) 16 5 = true ∧ (wpC (d + 4) true 59 [.ref 16, .int 1, .int 9] (uI h 16 2 (nI ((qi s) + 1))) (fun r h' => Go (d + 4) true 63 21 [.ref 16] [r, .ref 23] h' Q)) from ⟨(cp.2.1.2.1), ?_⟩)
  have cp1 := cp_nx cp (by omega) (by omega)
  have q1 : Fq sRc h (uI h 16 2 (nI ((qi s) + 1))) := Fq.rfl'.uI' _ _ _ rfl
  have iv1 : IV b n 0 (nx s) := (iv_nx iv (by omega)).le (Nat.zero_le _); have hz1 := qe_nx s; have hi1 := qi_nx s
  generalize hg1 : uI h 16 2 (nI ((qi s) + 1)) = h1 at cp1 q1 ⊢
  have hb1 := cp_b cp1
  refine c_takeN (lo := 1) (hh := 10) cp1 (by omega) (by decide) (by first | rfl | decide) (by omega) (fun e2 h2 q2 cp2 hlo2 hhi2 => ?_) (fun h3 q3 cp3 hz3 => ?_)
  · skip
    have hb2 := cp_b cp2
    have hz2 := qe_nx (nx s); have hi2 := qi_nx (nx s)
    have iv2 : IV b n 0 (nx (nx s)) := by rw [← e2]; exact (af_tkn (iv1.le (Nat.zero_le _))).1
    show Go (d + 4) true 63 21 [.ref 16] [.int (nI (vl b n (qi (nx s)))), .ref 23] h2 Q
    refine exf_go 6 (show rN (uI h2 23 10 (nI (vl b n (qi (nx s))))) 16 5 = true ∧ ((¬ (nI (vl b n (qi (nx s)))) = (-1) → Go (d + 4) true 63 37 [.ref 16] [] (uI h2 23 10 (nI (vl b n (qi (nx s))))) Q) ∧ (¬ (¬ (nI (vl b n (qi (nx s)))) = (-1)) → Go (d + 4) true 63 35 [.ref 16] [] (uI h2 23 10 (nI (vl b n (qi (nx s))))) Q)) from ⟨(cp2.2.1.2.1), fun c1 => ?_, fun c1 => ?_⟩)
    · skip
      refine exf_go 6 (show rN (uI h2 23 10 (nI (vl b n (qi (nx s))))) 16 5 = true ∧ (wpC (d + 4) true 59 [.ref 16, .int 1, .int 999] (uI h2 23 10 (nI (vl b n (qi (nx s))))) (fun r h' => Go (d + 4) true 63 49 [.ref 16] [r, .ref 23] h' Q)) from ⟨(cp2.2.1.2.1), ?_⟩)
      have q4 : Fq sB h2 (uI h2 23 10 (nI (vl b n (qi (nx s))))) := Fq.rfl'.uI' _ _ _ rfl
      have cp4 := cp_o1 cp2 (show Fq sO1 h2 (uI h2 23 10 (nI (vl b n (qi (nx s))))) from Fq.rfl'.uI' _ _ _ rfl)
      have hx4 : rI (uI h2 23 10 (nI (vl b n (qi (nx s))))) 23 10 = nI (vl b n (qi (nx s))) := rfl
      generalize hg4 : uI h2 23 10 (nI (vl b n (qi (nx s)))) = h4 at cp4 q4 hx4 ⊢
      have hb4 := cp_b cp4
      refine c_takeN (lo := 1) (hh := 1000) cp4 (by omega) (by decide) (by first | rfl | decide) (by omega) (fun e5 h5 q5 cp5 hlo5 hhi5 => ?_) (fun h6 q6 cp6 hz6 => ?_)
      · skip
        have hb5 := cp_b cp5
        have hz5 := qe_nx (nx (nx s)); have hi5 := qi_nx (nx (nx s))
        have iv5 : IV b n 0 (nx (nx (nx s))) := by rw [← e5]; exact (af_tkn (iv2.le (Nat.zero_le _))).1
        show Go (d + 4) true 63 49 [.ref 16] [.int (nI (vl b n (qi (nx (nx s))))), .ref 23] h5 Q
        refine exf_go 6 (show rN (uI h5 23 11 (nI (vl b n (qi (nx (nx s)))))) 16 5 = true ∧ (((nI (vl b n (qi (nx (nx s))))) = (-1) → Go (d + 4) true 63 67 [.ref 16] [] (uI h5 23 11 (nI (vl b n (qi (nx (nx s)))))) Q) ∧ (¬ ((nI (vl b n (qi (nx (nx s))))) = (-1)) → Go (d + 4) true 63 63 [.ref 16] [] (uI h5 23 11 (nI (vl b n (qi (nx (nx s)))))) Q)) from ⟨(cp5.2.1.2.1), fun c2 => ?_, fun c2 => ?_⟩)
        · skip
          exact absurd c2 (ng_eq (by omega) (by decide))
        · skip
          refine exf_go 3 (show ((1 : Int32) = 0 ∨ (1 : Int32) = 1) ∧ Q (.int 1) (uI h5 23 11 (nI (vl b n (qi (nx (nx s)))))) from ⟨(by first | exact Or.inl rfl | exact Or.inr rfl | assumption), ?_⟩)
          have ea : rBa b n (s, g, st, en, a, ah) = ((nx (nx (nx s))), gBa g (vl b n (qi s + 1)) (vl b n (qi s + 2)), st, en, a, ah) := rB_ok (show baA b n s = _ by unfold baA; rw [e2, e5]) (show qe (nx (nx (nx s))) = 0 by omega)
          have qF : Fq sLn h5 (uI h5 23 11 (nI (vl b n (qi (nx (nx s)))))) := Fq.rfl'.uI' _ _ _ rfl
          have qC : Fq s2311 h5 (uI h5 23 11 (nI (vl b n (qi (nx (nx s)))))) := Fq.rfl'.uI' _ _ _ rfl
          have qb := (Fq.tr (Fq.tr (Fq.tr (q1.mono sRc_B) (q2.mono sRc_B)) q4) (q5.mono sRc_B))
          have coX := (co_q co ((Fq.tr (Fq.tr (Fq.tr (q1.mono sRc_B) (q2.mono sRc_B)) q4) (q5.mono sRc_B)).mono sB_Q))
          rw [ea] at k1; exact k1 _ (Fq.tr ((Fq.tr (Fq.tr (Fq.tr (q1.mono sRc_B) (q2.mono sRc_B)) q4) (q5.mono sRc_B)).mono sB_L) qF) ⟨cp_o cp5 qC (fun _ => ⟨rfl, rfl, rfl, rfl, rfl⟩) ⟨rfl, rfl, rfl, rfl, rfl⟩, ⟨coX.1, coX.2⟩, fun _ => ⟨⟨(qb.1 23 9 rfl).1.trans cr.1.1, ((q5.1 23 10 rfl).1.trans hx4), rfl, (qb.1 23 12 rfl).1.trans cr.1.2.2.2⟩, (qb.1 23 15 rfl).1.trans cr.2.1, (qb.1 23 16 rfl).1.trans cr.2.2.1, (qb.1 23 17 rfl).1.trans cr.2.2.2.1, (qb.1 16 3 rfl).1.trans cr.2.2.2.2⟩⟩ (show qe (nx (nx (nx s))) = 0 by omega)
      · skip
        show Go (d + 4) true 63 49 [.ref 16] [.int (-1), .ref 23] h6 Q
        refine exf_go 6 (show rN (uI h6 23 11 (-1)) 16 5 = true ∧ ((((-1) : Int32) = (-1) → Go (d + 4) true 63 67 [.ref 16] [] (uI h6 23 11 (-1)) Q) ∧ (¬ (((-1) : Int32) = (-1)) → Go (d + 4) true 63 63 [.ref 16] [] (uI h6 23 11 (-1)) Q)) from ⟨(cp6.2.1.2.1), fun c3 => ?_, fun c3 => ?_⟩)
        · skip
          refine exf_go 2 (show ((0 : Int32) = 0 ∨ (0 : Int32) = 1) ∧ Q (.int 0) (uI h6 23 11 (-1)) from ⟨(by first | exact Or.inl rfl | exact Or.inr rfl | assumption), ?_⟩)
          have q7 : Fq sB h6 (uI h6 23 11 (-1)) := Fq.rfl'.uI' _ _ _ rfl
          have cp7 := cp_o1 cp6 (show Fq sO1 h6 (uI h6 23 11 (-1)) from Fq.rfl'.uI' _ _ _ rfl)
          have hx7 : rI (uI h6 23 11 (-1)) 23 11 = (-1) := rfl
          generalize hg7 : uI h6 23 11 (-1) = h7 at cp7 q7 hx7 ⊢
          have hb7 := cp_b cp7
          have ea : rBa b n (s, g, st, en, a, ah) = ((tkn b n 1 1000 (nx (nx s))), g, st, en, a, ah) := rB_no (show baA b n s = _ by unfold baA; rw [e2]) hz6
          rw [ea] at k0; exact k0 _ ((Fq.tr (Fq.tr (Fq.tr (Fq.tr (q1.mono sRc_B) (q2.mono sRc_B)) q4) (q6.mono sRc_B)) q7).mono sB_L) ⟨cp7, (co_q co ((Fq.tr (Fq.tr (Fq.tr (Fq.tr (q1.mono sRc_B) (q2.mono sRc_B)) q4) (q6.mono sRc_B)) q7).mono sB_Q)), fun z => absurd z hz6⟩ hz6
        · skip
          exact absurd (by decide) c3
    · skip
      exact absurd (ng_eq (by omega) (by decide)) c1
  · skip
    show Go (d + 4) true 63 21 [.ref 16] [.int (-1), .ref 23] h3 Q
    refine exf_go 6 (show rN (uI h3 23 10 (-1)) 16 5 = true ∧ ((¬ ((-1) : Int32) = (-1) → Go (d + 4) true 63 37 [.ref 16] [] (uI h3 23 10 (-1)) Q) ∧ (¬ (¬ ((-1) : Int32) = (-1)) → Go (d + 4) true 63 35 [.ref 16] [] (uI h3 23 10 (-1)) Q)) from ⟨(cp3.2.1.2.1), fun c4 => ?_, fun c4 => ?_⟩)
    · skip
      exact absurd c4 (by decide)
    · skip
      refine exf_go 2 (show ((0 : Int32) = 0 ∨ (0 : Int32) = 1) ∧ Q (.int 0) (uI h3 23 10 (-1)) from ⟨(by first | exact Or.inl rfl | exact Or.inr rfl | assumption), ?_⟩)
      have q8 : Fq sB h3 (uI h3 23 10 (-1)) := Fq.rfl'.uI' _ _ _ rfl
      have cp8 := cp_o1 cp3 (show Fq sO1 h3 (uI h3 23 10 (-1)) from Fq.rfl'.uI' _ _ _ rfl)
      have hx8 : rI (uI h3 23 10 (-1)) 23 10 = (-1) := rfl
      generalize hg8 : uI h3 23 10 (-1) = h8 at cp8 q8 hx8 ⊢
      have hb8 := cp_b cp8
      have ea : rBa b n (s, g, st, en, a, ah) = ((tkn b n 1 10 (nx s)), g, st, en, a, ah) := rB_no (by unfold baA; exact tkn_id hz3) hz3
      rw [ea] at k0; exact k0 _ ((Fq.tr (Fq.tr (q1.mono sRc_B) (q3.mono sRc_B)) q8).mono sB_L) ⟨cp8, (co_q co ((Fq.tr (Fq.tr (q1.mono sRc_B) (q3.mono sRc_B)) q8).mono sB_Q)), fun z => absurd z hz3⟩ hz3
theorem c_readFigures {d : Nat} {h : Hp} {b : Nat → Nat} {n N : Nat} {s : PsG} {Q : Po} {g : ShG} {en : Nat → Nat} (hg : ShW g) (cp : CP b n N s h) (iv : IV b n 0 s) (he : qe s = 0) (hk2 : ¬ kd b n (qi s) = 22) (hk3 : ¬ kd b n (qi s) = 23) (co : CO g en h) (k1 : ∀ h1, Fq sR3 h h1 → CP b n N (fgA b n g s).1 h1 → rI h1 16 3 = nI 1 → qe (fgA b n g s).1 = 0 → Q (.int (nI (fgA b n g s).2)) h1) (k0 : ∀ h1, Fq sR3 h h1 → CP b n N (fgA b n g s).1 h1 → ¬ qe (fgA b n g s).1 = 0 → Q (.int (-1)) h1) : wpC (d + 5) true 65 [.ref 16] h Q := by
  have hb0 := cp_b cp; have hW4 := hg.1; have hC8 := hg.2.2.2.1; have hM4 := hg.2.2.2.2.2.1
  refine go_in rfl ?_
  refine exf_go 6 (show ((1 : Int32) = 0 ∨ (1 : Int32) = 1) ∧ (Go (d + 4) true 65 10 [.ref 16, mk_, mk_, mk_] [.int (rI h 16 2), .ref 16] (uI h 16 3 1) Q) from ⟨(by first | exact Or.inl rfl | exact Or.inr rfl | assumption), ?_⟩)
  rw [show (rI h 16 2 : Int32) = nI (qi s) from cp.2.2.1.2.1]
  refine exf_go 2 (show Go (d + 4) true 65 12 [.ref 16, mk_, mk_, mk_] [.int ((nI (qi s)) + 1), .ref 16] (uI h 16 3 1) Q from ?_)
  rw [show ((nI (qi s)) + 1 : Int32) = nI ((qi s) + 1) from nI_add (qi s) 1]
  refine exf_go 4 (show rN (uI (uI h 16 3 1) 16 2 (nI ((qi s) + 1))) 16 5 = true ∧ (Go (d + 4) true 65 22 [.ref 16, mk_, mk_, mk_] [.int (rI h 23 0)] (uI (uI h 16 3 1) 16 2 (nI ((qi s) + 1))) Q) from ⟨(cp.2.1.2.1), ?_⟩)
  rw [show (rI h 23 0 : Int32) = nI (sW g) from co.1.1]
  refine exf_go 1 (show (¬ (nI (sW g)) = 0 → Go (d + 4) true 65 32 [.ref 16, mk_, mk_, mk_] [] (uI (uI h 16 3 1) 16 2 (nI ((qi s) + 1))) Q) ∧ (¬ (¬ (nI (sW g)) = 0) → Go (d + 4) true 65 25 [.ref 16, mk_, mk_, mk_] [] (uI (uI h 16 3 1) 16 2 (nI ((qi s) + 1))) Q) from ⟨fun c1 => ?_, fun c1 => ?_⟩)
  · skip
    have c1 : ¬ (sW g) = 0 := fun q => c1 ((nI_eq (a := (sW g)) (b := 0) (by omega) (by omega)).mpr q)
    refine exf_go 4 (show Go (d + 4) true 65 36 [.ref 16, .int 0, .int 0, mk_] [] (uI (uI h 16 3 1) 16 2 (nI ((qi s) + 1))) Q from ?_)
    have L36 : ∀ (k36 : Nat) (z3 : Value) (u x : Nat) (s1 : PsG) (hL : Hp), (sW g - u) < k36 → (u ≤ sW g) → (Fq sR3 h hL) → (CP b n N s1 hL) → (IV b n 0 s1) → (qe s1 = 0) → (rI hL 16 3 = nI 1) → (fgL b n (sF g) u (nx s) = (s1, x)) → Go (d + 4) true 65 36 [.ref 16, .int (nI x), .int (nI u), z3] [] hL Q := by
      intro k36
      induction k36 with
      | zero => intro z3 u x s1 hL hk; exact absurd hk (Nat.not_lt_zero _)
      | succ k36 ih36 =>
        intro z3 u x s1 hL hk hu qL cpL ivL heL hx3 hwh
        have hbL := cp_b cpL
        have hFu := sF_b hg u
        refine exf_go 4 (show rN hL 16 5 = true ∧ (Go (d + 4) true 65 44 [.ref 16, .int (nI x), .int (nI u), z3] [.int (rI hL 23 0), .int (nI u)] hL Q) from ⟨(cpL.2.1.2.1), ?_⟩)
        rw [show (rI hL 23 0 : Int32) = nI (sW g) from (co_q co (qL.mono sR3_Q)).1.1]
        refine exf_go 1 (show ((nI (sW g)) ≤ (nI u) → Go (d + 4) true 65 91 [.ref 16, .int (nI x), .int (nI u), z3] [] hL Q) ∧ (¬ ((nI (sW g)) ≤ (nI u)) → Go (d + 4) true 65 47 [.ref 16, .int (nI x), .int (nI u), z3] [] hL Q) from ⟨fun c2 => ?_, fun c2 => ?_⟩)
        · skip
          have c2 : (sW g) ≤ u := (nI_leI (a := (sW g)) (b := u) (by omega) (by omega)).mp c2
          refine exf_go 2 (show Q (.int (nI x)) hL from ?_)
          have ea : fgA b n g s = (s1, x) := (fgA_n (by omega)).trans (by rw [← hwh, show u = sW g from by omega])
          rw [ea] at k1; exact k1 _ qL cpL hx3 heL
        · skip
          have c2 : ¬ (sW g) ≤ u := fun q => c2 ((nI_leI (a := (sW g)) (b := u) (by omega) (by omega)).mpr q)
          refine exf_go 7 (show rN hL 16 5 = true ∧ vp_in (nI u) 4 ∧ (Go (d + 4) true 65 58 [.ref 16, .int (nI x), .int (nI u), z3] [.int (rI hL 24 ((nI u).toNatClampNeg)), .int 0, .ref 16] hL Q) from ⟨(cpL.2.1.2.1), (vp_in_nI (by omega) (by omega)), ?_⟩)
          rw [show (rI hL 24 ((nI u).toNatClampNeg) : Int32) = nI (sF g u) from by rw [nI_clamp (by omega)]; exact ((co_q co (qL.mono sR3_Q)).2.1 _ (by omega)).1]
          refine exf_go 3 (show wpC (d + 4) true 59 [.ref 16, .int 0, .int ((nI (sF g u)) - 1)] hL (fun r h' => Go (d + 4) true 65 63 [.ref 16, .int (nI x), .int (nI u), z3] [r] h' Q) from ?_)
          refine c_takeN (lo := 0) (hh := sF g u) cpL (by omega) (by decide) rfl (by omega) (fun e1 h1 q1 cp1 hlo1 hhi1 => ?_) (fun h2 q2 cp2 hz2 => ?_)
          · skip
            have hb1 := cp_b cp1
            have hz1 := qe_nx s1; have hi1 := qi_nx s1
            have iv1 : IV b n 0 (nx s1) := by rw [← e1]; exact (af_tkn (ivL.le (Nat.zero_le _))).1
            show Go (d + 4) true 65 63 [.ref 16, .int (nI x), .int (nI u), z3] [.int (nI (vl b n (qi s1)))] h1 Q
            refine exf_go 4 (show (¬ (nI (vl b n (qi s1))) = (-1) → Go (d + 4) true 65 71 [.ref 16, .int (nI x), .int (nI u), .int (nI (vl b n (qi s1)))] [] h1 Q) ∧ (¬ (¬ (nI (vl b n (qi s1))) = (-1)) → Go (d + 4) true 65 69 [.ref 16, .int (nI x), .int (nI u), .int (nI (vl b n (qi s1)))] [] h1 Q) from ⟨fun c3 => ?_, fun c3 => ?_⟩)
            · skip
              refine exf_go 6 (show rN h1 16 5 = true ∧ vp_in (nI u) 4 ∧ (Go (d + 4) true 65 81 [.ref 16, .int (nI x), .int (nI u), .int (nI (vl b n (qi s1)))] [.int (rI h1 24 ((nI u).toNatClampNeg)), .int (nI x)] h1 Q) from ⟨(cp1.2.1.2.1), (vp_in_nI (by omega) (by omega)), ?_⟩)
              rw [show (rI h1 24 ((nI u).toNatClampNeg) : Int32) = nI (sF g u) from by rw [nI_clamp (by omega)]; exact ((co_q co ((Fq.tr qL (q1.mono sRc_3)).mono sR3_Q)).2.1 _ (by omega)).1]
              refine exf_go 1 (show Go (d + 4) true 65 82 [.ref 16, .int (nI x), .int (nI u), .int (nI (vl b n (qi s1)))] [.int ((nI x) * (nI (sF g u)))] h1 Q from ?_)
              rw [show ((nI x) * (nI (sF g u)) : Int32) = nI (x * (sF g u)) from pk_mul x (sF g u)]
              refine exf_go 2 (show Go (d + 4) true 65 84 [.ref 16, .int (nI x), .int (nI u), .int (nI (vl b n (qi s1)))] [.int ((nI (x * (sF g u))) + (nI (vl b n (qi s1))))] h1 Q from ?_)
              rw [show ((nI (x * (sF g u))) + (nI (vl b n (qi s1))) : Int32) = nI ((x * (sF g u)) + (vl b n (qi s1))) from nI_add (x * (sF g u)) (vl b n (qi s1))]
              refine exf_go 2 (show Go (d + 4) true 65 88 [.ref 16, .int (nI ((x * (sF g u)) + (vl b n (qi s1)))), .int ((nI u) + 1), .int (nI (vl b n (qi s1)))] [] h1 Q from ?_)
              rw [show ((nI u) + 1 : Int32) = nI (u + 1) from nI_add u 1]
              refine exf_go 1 (show Go (d + 4) true 65 36 [.ref 16, .int (nI ((x * (sF g u)) + (vl b n (qi s1)))), .int (nI (u + 1)), .int (nI (vl b n (qi s1)))] [] h1 Q from ?_)
              exact ih36 (.int (nI (vl b n (qi s1)))) (u + 1) _ _ h1 (by omega) (by omega) (Fq.tr qL (q1.mono sRc_3)) cp1 iv1 (by omega) ((q1.1 16 3 rfl).1.trans hx3) (by rw [fgL, hwh]; show (tkn b n 0 (sF g u) s1, _) = _; rw [e1])
            · skip
              exact absurd (ng_eq (by omega) (by decide)) c3
          · skip
            show Go (d + 4) true 65 63 [.ref 16, .int (nI x), .int (nI u), z3] [.int (-1)] h2 Q
            refine exf_go 4 (show (¬ ((-1) : Int32) = (-1) → Go (d + 4) true 65 71 [.ref 16, .int (nI x), .int (nI u), .int (-1)] [] h2 Q) ∧ (¬ (¬ ((-1) : Int32) = (-1)) → Go (d + 4) true 65 69 [.ref 16, .int (nI x), .int (nI u), .int (-1)] [] h2 Q) from ⟨fun c4 => ?_, fun c4 => ?_⟩)
            · skip
              exact absurd c4 (by decide)
            · skip
              refine exf_go 2 (show Q (.int (-1)) h2 from ?_)
              have ea : (fgA b n g s).1 = (tkn b n 0 (sF g u) s1) := by rw [fgA_n (by omega)]; have := fg_f hwh hz2 (sW g - (u + 1)); rw [show u + 1 + (sW g - (u + 1)) = sW g from by omega] at this; exact this
              rw [ea] at k0
              exact k0 _ (Fq.tr qL (q2.mono sRc_3)) cp2 hz2
    have q3 : Fq sR3 h (uI h 16 3 1) := Fq.rfl'.uI' _ _ _ rfl
    have cp3 := cp_o1 cp (show Fq sO1 h (uI h 16 3 1) from Fq.rfl'.uI' _ _ _ rfl)
    have hx3 : rI (uI h 16 3 1) 16 3 = 1 := rfl
    generalize hg3 : uI h 16 3 1 = h3 at cp3 q3 hx3 ⊢
    have hb3 := cp_b cp3
    have cp4 := cp_nx cp3 (by omega) (by omega)
    have q4 : Fq sRc h3 (uI h3 16 2 (nI ((qi s) + 1))) := Fq.rfl'.uI' _ _ _ rfl
    have iv4 : IV b n 0 (nx s) := (iv_nx iv (by omega)).le (Nat.zero_le _); have hz4 := qe_nx s; have hi4 := qi_nx s
    generalize hg4 : uI h3 16 2 (nI ((qi s) + 1)) = h4 at cp4 q4 ⊢
    have hb4 := cp_b cp4
    exact L36 ((sW g) + 1) mk_ 0 0 _ h4 (by omega) (by omega) (Fq.tr q3 (q4.mono sRc_3)) cp4 iv4 (by omega) ((q4.1 16 3 rfl).1.trans hx3) rfl
  · skip
    have c1 : (sW g) = 0 := (nI_eq (a := (sW g)) (b := 0) (by omega) (by omega)).mp (Classical.not_not.mp c1)
    refine exf_go 4 (show wpC (d + 4) true 59 [.ref 16, .int 0, .int (-1)] (uI (uI h 16 3 1) 16 2 (nI ((qi s) + 1))) (fun r h' => Go (d + 4) true 65 31 [.ref 16, mk_, mk_, mk_] [r] h' Q) from ?_)
    have q5 : Fq sR3 h (uI h 16 3 1) := Fq.rfl'.uI' _ _ _ rfl
    have cp5 := cp_o1 cp (show Fq sO1 h (uI h 16 3 1) from Fq.rfl'.uI' _ _ _ rfl)
    have hx5 : rI (uI h 16 3 1) 16 3 = 1 := rfl
    generalize hg5 : uI h 16 3 1 = h5 at cp5 q5 hx5 ⊢
    have hb5 := cp_b cp5
    have cp6 := cp_nx cp5 (by omega) (by omega)
    have q6 : Fq sRc h5 (uI h5 16 2 (nI ((qi s) + 1))) := Fq.rfl'.uI' _ _ _ rfl
    have iv6 : IV b n 0 (nx s) := (iv_nx iv (by omega)).le (Nat.zero_le _); have hz6 := qe_nx s; have hi6 := qi_nx s
    generalize hg6 : uI h5 16 2 (nI ((qi s) + 1)) = h6 at cp6 q6 ⊢
    have hb6 := cp_b cp6
    refine c_takeN (lo := 0) (hh := 0) cp6 (by omega) (by decide) (by decide) (by omega) (fun e7 h7 q7 cp7 hlo7 hhi7 => ?_) (fun h8 q8 cp8 hz8 => ?_)
    · skip
      have hb7 := cp_b cp7
      have hz7 := qe_nx (nx s); have hi7 := qi_nx (nx s)
      have iv7 : IV b n 0 (nx (nx s)) := by rw [← e7]; exact (af_tkn (iv6.le (Nat.zero_le _))).1
      show Go (d + 4) true 65 31 [.ref 16, mk_, mk_, mk_] [.int (nI (vl b n (qi (nx s))))] h7 Q
      refine exf_go 1 (show Q (.int (nI (vl b n (qi (nx s))))) h7 from ?_)
      exfalso; omega
    · skip
      show Go (d + 4) true 65 31 [.ref 16, mk_, mk_, mk_] [.int (-1)] h8 Q
      refine exf_go 1 (show Q (.int (-1)) h8 from ?_)
      have ea : fgA b n g s = ((tkn b n 0 0 (nx s)), 0) := fgA_0 (by omega)
      rw [ea] at k0
      exact k0 _ (Fq.tr (Fq.tr q5 (q6.mono sRc_3)) (q8.mono sRc_3)) cp8 hz8
theorem c_readLine {d : Nat} {h : Hp} {b : Nat → Nat} {n N : Nat} {s : PsG} {Q : Po} {g : ShG} {st en : Nat → Nat} {a ah : Nat} (hg : ShW g) (hah : ah ≤ 1) (cp : CP b n N s h) (iv : IV b n 0 s) (he : qe s = 0) (co : CO g en h) (cr : CR g a ah h) (k1 : ∀ h1, Fq sLn h h1 → CY b n N (rLn b n (s, g, st, en, a, ah)) h1 → qe (ys (rLn b n (s, g, st, en, a, ah))) = 0 → Q (.int 1) h1) (k0 : ∀ h1, Fq sLn h h1 → CY b n N (rLn b n (s, g, st, en, a, ah)) h1 → ¬ qe (ys (rLn b n (s, g, st, en, a, ah))) = 0 → Q (.int 0) h1) : wpC (d + 34) true 60 [.ref 16] h Q := by
  have hb0 := cp_b cp; have hW4 := hg.1; have hC8 := hg.2.2.2.1; have hM4 := hg.2.2.2.2.2.1
  refine go_in rfl ?_
  refine exf_go 2 (show wpC (d + 33) true 55 [.ref 16] h (fun r h' => Go (d + 33) true 60 4 [.ref 16] [r] h' Q) from ?_)
  refine c_kind cp ?_
  show Go (d + 33) true 60 4 [.ref 16] [.int (nI (ckd (kd b n (qi s))))] h Q
  refine exf_go 1 (show ((nI (ckd (kd b n (qi s)))).toInt < 128 ∨ 137 < (nI (ckd (kd b n (qi s)))).toInt → Go (d + 33) true 60 219 [.ref 16] [] h Q) ∧ ((nI (ckd (kd b n (qi s)))).toInt = 128 → Go (d + 33) true 60 60 [.ref 16] [] h Q) ∧ ((nI (ckd (kd b n (qi s)))).toInt = 129 → Go (d + 33) true 60 219 [.ref 16] [] h Q) ∧ ((nI (ckd (kd b n (qi s)))).toInt = 130 → Go (d + 33) true 60 219 [.ref 16] [] h Q) ∧ ((nI (ckd (kd b n (qi s)))).toInt = 131 → Go (d + 33) true 60 65 [.ref 16] [] h Q) ∧ ((nI (ckd (kd b n (qi s)))).toInt = 132 → Go (d + 33) true 60 70 [.ref 16] [] h Q) ∧ ((nI (ckd (kd b n (qi s)))).toInt = 133 → Go (d + 33) true 60 111 [.ref 16] [] h Q) ∧ ((nI (ckd (kd b n (qi s)))).toInt = 134 → Go (d + 33) true 60 116 [.ref 16] [] h Q) ∧ ((nI (ckd (kd b n (qi s)))).toInt = 135 → Go (d + 33) true 60 158 [.ref 16] [] h Q) ∧ ((nI (ckd (kd b n (qi s)))).toInt = 136 → Go (d + 33) true 60 163 [.ref 16] [] h Q) ∧ ((nI (ckd (kd b n (qi s)))).toInt = 137 → Go (d + 33) true 60 191 [.ref 16] [] h Q) ∧ True from ⟨fun c1 => ?_, fun c1 => ?_, fun c1 => ?_, fun c1 => ?_, fun c1 => ?_, fun c1 => ?_, fun c1 => ?_, fun c1 => ?_, fun c1 => ?_, fun c1 => ?_, fun c1 => ?_, trivial⟩)
  · skip
    rw [nI_toInt (by omega)] at c1
    have hkk : ∀ k, k < 10 → k = 1 ∨ k = 2 ∨ ¬ kd b n (qi s) = k := fun k hk => Or.inr (Or.inr (fun z => by rw [z, ckd_w (show k < 18 by omega)] at c1; omega))
    refine exf_go 3 (show wpC (d + 33) true 56 [.ref 16, .int 2] h (fun r h' => Go (d + 33) true 60 224 [.ref 16] [r] h' Q) from ?_)
    refine c_refuse (w := 2) cp (by omega) (by omega) (by omega) (fun h1 q1 cp1 => ?_)
    have hb1 := cp_b cp1
    have hz1 : ¬ qe (fl b n 2 s) = 0 := fl_ne (by omega)
    show Go (d + 33) true 60 224 [.ref 16] [.int 0] h1 Q
    refine exf_go 1 (show ((0 : Int32) = 0 ∨ (0 : Int32) = 1) ∧ Q (.int 0) h1 from ⟨(by first | exact Or.inl rfl | exact Or.inr rfl | assumption), ?_⟩)
    have ea : rLn b n (s, g, st, en, a, ah) = ((fl b n 2 s), g, st, en, a, ah) := (rL_x (y := (s, g, st, en, a, ah)) hkk)
    rw [ea] at k0; exact k0 _ (q1.mono sRc_L) ⟨cp1, (co_q co (q1.mono sRc_Q)), fun z => absurd z hz1⟩ hz1
  · skip
    rw [nI_toInt (by omega)] at c1
    have hkk : kd b n (qi s) = 0 := (ckd_inj _ (by omega) 0 (by decide)).mp (show _ = 128 from by omega)
    refine exf_go 2 (show wpC (d + 33) true 61 [.ref 16] h (fun r h' => Go (d + 33) true 60 64 [.ref 16] [r] h' Q) from ?_)
    refine c_readWheel (st := st) hg hah cp iv he hkk co cr (fun h1 q1 cy1 z1 => ?_) (fun h1 q1 cy1 z1 => ?_)
    · skip
      show Go (d + 33) true 60 64 [.ref 16] [.int 1] h1 Q
      refine exf_go 1 (show ((1 : Int32) = 0 ∨ (1 : Int32) = 1) ∧ Q (.int 1) h1 from ⟨(by first | exact Or.inl rfl | exact Or.inr rfl | assumption), ?_⟩)
      rw [(rL_0 (y := (s, g, st, en, a, ah)) (show kd b n (qi s) = 0 from hkk))] at k1; exact k1 _ q1 cy1 z1
    · skip
      show Go (d + 33) true 60 64 [.ref 16] [.int 0] h1 Q
      refine exf_go 1 (show ((0 : Int32) = 0 ∨ (0 : Int32) = 1) ∧ Q (.int 0) h1 from ⟨(by first | exact Or.inl rfl | exact Or.inr rfl | assumption), ?_⟩)
      rw [(rL_0 (y := (s, g, st, en, a, ah)) (show kd b n (qi s) = 0 from hkk))] at k0; exact k0 _ q1 cy1 z1
  · skip
    rw [nI_toInt (by omega)] at c1
    have hkd : kd b n (qi s) = 1 := (ckd_inj _ (by omega) 1 (by decide)).mp (show _ = 129 from by omega)
    have hkk : ∀ k, k < 10 → k = 1 ∨ k = 2 ∨ ¬ kd b n (qi s) = k := fun k hk => by omega
    refine exf_go 3 (show wpC (d + 33) true 56 [.ref 16, .int 2] h (fun r h' => Go (d + 33) true 60 224 [.ref 16] [r] h' Q) from ?_)
    refine c_refuse (w := 2) cp (by omega) (by omega) (by omega) (fun h2 q2 cp2 => ?_)
    have hb2 := cp_b cp2
    have hz2 : ¬ qe (fl b n 2 s) = 0 := fl_ne (by omega)
    show Go (d + 33) true 60 224 [.ref 16] [.int 0] h2 Q
    refine exf_go 1 (show ((0 : Int32) = 0 ∨ (0 : Int32) = 1) ∧ Q (.int 0) h2 from ⟨(by first | exact Or.inl rfl | exact Or.inr rfl | assumption), ?_⟩)
    have ea : rLn b n (s, g, st, en, a, ah) = ((fl b n 2 s), g, st, en, a, ah) := (rL_x (y := (s, g, st, en, a, ah)) hkk)
    rw [ea] at k0; exact k0 _ (q2.mono sRc_L) ⟨cp2, (co_q co (q2.mono sRc_Q)), fun z => absurd z hz2⟩ hz2
  · skip
    rw [nI_toInt (by omega)] at c1
    have hkd : kd b n (qi s) = 2 := (ckd_inj _ (by omega) 2 (by decide)).mp (show _ = 130 from by omega)
    have hkk : ∀ k, k < 10 → k = 1 ∨ k = 2 ∨ ¬ kd b n (qi s) = k := fun k hk => by omega
    refine exf_go 3 (show wpC (d + 33) true 56 [.ref 16, .int 2] h (fun r h' => Go (d + 33) true 60 224 [.ref 16] [r] h' Q) from ?_)
    refine c_refuse (w := 2) cp (by omega) (by omega) (by omega) (fun h3 q3 cp3 => ?_)
    have hb3 := cp_b cp3
    have hz3 : ¬ qe (fl b n 2 s) = 0 := fl_ne (by omega)
    show Go (d + 33) true 60 224 [.ref 16] [.int 0] h3 Q
    refine exf_go 1 (show ((0 : Int32) = 0 ∨ (0 : Int32) = 1) ∧ Q (.int 0) h3 from ⟨(by first | exact Or.inl rfl | exact Or.inr rfl | assumption), ?_⟩)
    have ea : rLn b n (s, g, st, en, a, ah) = ((fl b n 2 s), g, st, en, a, ah) := (rL_x (y := (s, g, st, en, a, ah)) hkk)
    rw [ea] at k0; exact k0 _ (q3.mono sRc_L) ⟨cp3, (co_q co (q3.mono sRc_Q)), fun z => absurd z hz3⟩ hz3
  · skip
    rw [nI_toInt (by omega)] at c1
    have hkk : kd b n (qi s) = 3 := (ckd_inj _ (by omega) 3 (by decide)).mp (show _ = 131 from by omega)
    refine exf_go 2 (show wpC (d + 33) true 62 [.ref 16] h (fun r h' => Go (d + 33) true 60 69 [.ref 16] [r] h' Q) from ?_)
    refine c_readClue (st := st) hg hah cp iv he hkk co cr (fun h1 q1 cy1 z1 => ?_) (fun h1 q1 cy1 z1 => ?_)
    · skip
      show Go (d + 33) true 60 69 [.ref 16] [.int 1] h1 Q
      refine exf_go 1 (show ((1 : Int32) = 0 ∨ (1 : Int32) = 1) ∧ Q (.int 1) h1 from ⟨(by first | exact Or.inl rfl | exact Or.inr rfl | assumption), ?_⟩)
      rw [(rL_3 (y := (s, g, st, en, a, ah)) (show kd b n (qi s) = 3 from hkk))] at k1; exact k1 _ q1 cy1 z1
    · skip
      show Go (d + 33) true 60 69 [.ref 16] [.int 0] h1 Q
      refine exf_go 1 (show ((0 : Int32) = 0 ∨ (0 : Int32) = 1) ∧ Q (.int 0) h1 from ⟨(by first | exact Or.inl rfl | exact Or.inr rfl | assumption), ?_⟩)
      rw [(rL_3 (y := (s, g, st, en, a, ah)) (show kd b n (qi s) = 3 from hkk))] at k0; exact k0 _ q1 cy1 z1
  · skip
    rw [nI_toInt (by omega)] at c1
    have hkk : kd b n (qi s) = 4 := (ckd_inj _ (by omega) 4 (by decide)).mp (show _ = 132 from by omega)
    refine exf_go 3 (show Go (d + 33) true 60 75 [.ref 16] [.int (rI h 16 2), .ref 16] h Q from ?_)
    rw [show (rI h 16 2 : Int32) = nI (qi s) from cp.2.2.1.2.1]
    refine exf_go 2 (show Go (d + 33) true 60 77 [.ref 16] [.int ((nI (qi s)) + 1), .ref 16] h Q from ?_)
    rw [show ((nI (qi s)) + 1 : Int32) = nI ((qi s) + 1) from nI_add (qi s) 1]
    refine exf_go 7 (show rN (uI h 16 2 (nI ((qi s) + 1))) 16 5 = true ∧ (wpC (d + 33) true 59 [.ref 16, .int 1, .int 60] (uI h 16 2 (nI ((qi s) + 1))) (fun r h' => Go (d + 33) true 60 91 [.ref 16] [r, .ref 23] h' Q)) from ⟨(cp.2.1.2.1), ?_⟩)
    have cp4 := cp_nx cp (by omega) (by omega)
    have q4 : Fq sRc h (uI h 16 2 (nI ((qi s) + 1))) := Fq.rfl'.uI' _ _ _ rfl
    have iv4 : IV b n 0 (nx s) := (iv_nx iv (by omega)).le (Nat.zero_le _); have hz4 := qe_nx s; have hi4 := qi_nx s
    generalize hg4 : uI h 16 2 (nI ((qi s) + 1)) = h4 at cp4 q4 ⊢
    have hb4 := cp_b cp4
    refine c_takeN (lo := 1) (hh := 61) cp4 (by omega) (by decide) (by first | rfl | decide) (by omega) (fun e5 h5 q5 cp5 hlo5 hhi5 => ?_) (fun h6 q6 cp6 hz6 => ?_)
    · skip
      have hb5 := cp_b cp5
      have hz5 := qe_nx (nx s); have hi5 := qi_nx (nx s)
      have iv5 : IV b n 0 (nx (nx s)) := by rw [← e5]; exact (af_tkn (iv4.le (Nat.zero_le _))).1
      show Go (d + 33) true 60 91 [.ref 16] [.int (nI (vl b n (qi (nx s)))), .ref 23] h5 Q
      refine exf_go 6 (show rN (uI h5 23 9 (nI (vl b n (qi (nx s))))) 16 5 = true ∧ (((nI (vl b n (qi (nx s)))) = (-1) → Go (d + 33) true 60 109 [.ref 16] [] (uI h5 23 9 (nI (vl b n (qi (nx s))))) Q) ∧ (¬ ((nI (vl b n (qi (nx s)))) = (-1)) → Go (d + 33) true 60 105 [.ref 16] [] (uI h5 23 9 (nI (vl b n (qi (nx s))))) Q)) from ⟨(cp5.2.1.2.1), fun c2 => ?_, fun c2 => ?_⟩)
      · skip
        exact absurd c2 (ng_eq (by omega) (by decide))
      · skip
        refine exf_go 3 (show ((1 : Int32) = 0 ∨ (1 : Int32) = 1) ∧ Q (.int 1) (uI h5 23 9 (nI (vl b n (qi (nx s))))) from ⟨(by first | exact Or.inl rfl | exact Or.inr rfl | assumption), ?_⟩)
        have e0 : puA b n s = (nx (nx s)) := e5
        have z0 : qe (puA b n s) = 0 := by rw [e0]; show qe (nx (nx s)) = 0; omega
        have ea : rLn b n (s, g, st, en, a, ah) = ((nx (nx s)), gPu g (vl b n (qi s + 1)), st, en, a, ah) := (rL_4 (y := (s, g, st, en, a, ah)) (show kd b n (qi s) = 4 from hkk)).trans ((if_pos z0).trans (by show (puA b n s, _) = _; rw [e0]; rfl))
        have qF : Fq sLn h5 (uI h5 23 9 (nI (vl b n (qi (nx s))))) := Fq.rfl'.uI' _ _ _ rfl
        have qQ : Fq sQ h5 (uI h5 23 9 (nI (vl b n (qi (nx s))))) := Fq.rfl'.uI' _ _ _ rfl
        have cpF := cp_o1 cp5 (show Fq sO1 h5 (uI h5 23 9 (nI (vl b n (qi (nx s))))) from Fq.rfl'.uI' _ _ _ rfl)
        have qb := (Fq.tr q4 q5)
        have coX := co_q co (Fq.tr (qb.mono sRc_Q) qQ)
        rw [ea] at k1; exact k1 _ (Fq.tr (qb.mono sRc_L) qF) ⟨cpF, ⟨coX.1, coX.2⟩, fun _ => ⟨⟨rfl, (qb.1 23 10 rfl).1.trans cr.1.2.1, (qb.1 23 11 rfl).1.trans cr.1.2.2.1, (qb.1 23 12 rfl).1.trans cr.1.2.2.2⟩, (qb.1 23 15 rfl).1.trans cr.2.1, (qb.1 23 16 rfl).1.trans cr.2.2.1, (qb.1 23 17 rfl).1.trans cr.2.2.2.1, (qb.1 16 3 rfl).1.trans cr.2.2.2.2⟩⟩ (show qe (nx (nx s)) = 0 by omega)
    · skip
      show Go (d + 33) true 60 91 [.ref 16] [.int (-1), .ref 23] h6 Q
      refine exf_go 6 (show rN (uI h6 23 9 (-1)) 16 5 = true ∧ ((((-1) : Int32) = (-1) → Go (d + 33) true 60 109 [.ref 16] [] (uI h6 23 9 (-1)) Q) ∧ (¬ (((-1) : Int32) = (-1)) → Go (d + 33) true 60 105 [.ref 16] [] (uI h6 23 9 (-1)) Q)) from ⟨(cp6.2.1.2.1), fun c3 => ?_, fun c3 => ?_⟩)
      · skip
        refine exf_go 2 (show ((0 : Int32) = 0 ∨ (0 : Int32) = 1) ∧ Q (.int 0) (uI h6 23 9 (-1)) from ⟨(by first | exact Or.inl rfl | exact Or.inr rfl | assumption), ?_⟩)
        have qF : Fq sQ h6 (uI h6 23 9 (-1)) := Fq.rfl'.uI' _ _ _ rfl
        have cpF := cp_o1 cp6 (show Fq sO1 h6 (uI h6 23 9 (-1)) from Fq.rfl'.uI' _ _ _ rfl)
        have ea : rLn b n (s, g, st, en, a, ah) = ((tkn b n 1 61 (nx s)), g, st, en, a, ah) := (rL_4 (y := (s, g, st, en, a, ah)) (show kd b n (qi s) = 4 from hkk)).trans (if_neg hz6)
        rw [ea] at k0; exact k0 _ ((Fq.tr ((Fq.tr q4 q6).mono sRc_Q) qF).mono sQ_L) ⟨cpF, co_q co (Fq.tr ((Fq.tr q4 q6).mono sRc_Q) qF), fun z => absurd z hz6⟩ hz6
      · skip
        exact absurd (by decide) c3
  · skip
    rw [nI_toInt (by omega)] at c1
    have hkk : kd b n (qi s) = 5 := (ckd_inj _ (by omega) 5 (by decide)).mp (show _ = 133 from by omega)
    refine exf_go 2 (show wpC (d + 33) true 63 [.ref 16] h (fun r h' => Go (d + 33) true 60 115 [.ref 16] [r] h' Q) from ?_)
    refine c_readBar (st := st) hg hah cp iv he hkk co cr (fun h1 q1 cy1 z1 => ?_) (fun h1 q1 cy1 z1 => ?_)
    · skip
      show Go (d + 33) true 60 115 [.ref 16] [.int 1] h1 Q
      refine exf_go 1 (show ((1 : Int32) = 0 ∨ (1 : Int32) = 1) ∧ Q (.int 1) h1 from ⟨(by first | exact Or.inl rfl | exact Or.inr rfl | assumption), ?_⟩)
      rw [(rL_5 (y := (s, g, st, en, a, ah)) (show kd b n (qi s) = 5 from hkk))] at k1; exact k1 _ q1 cy1 z1
    · skip
      show Go (d + 33) true 60 115 [.ref 16] [.int 0] h1 Q
      refine exf_go 1 (show ((0 : Int32) = 0 ∨ (0 : Int32) = 1) ∧ Q (.int 0) h1 from ⟨(by first | exact Or.inl rfl | exact Or.inr rfl | assumption), ?_⟩)
      rw [(rL_5 (y := (s, g, st, en, a, ah)) (show kd b n (qi s) = 5 from hkk))] at k0; exact k0 _ q1 cy1 z1
  · skip
    rw [nI_toInt (by omega)] at c1
    have hkk : kd b n (qi s) = 6 := (ckd_inj _ (by omega) 6 (by decide)).mp (show _ = 134 from by omega)
    refine exf_go 3 (show Go (d + 33) true 60 121 [.ref 16] [.int (rI h 16 2), .ref 16] h Q from ?_)
    rw [show (rI h 16 2 : Int32) = nI (qi s) from cp.2.2.1.2.1]
    refine exf_go 2 (show Go (d + 33) true 60 123 [.ref 16] [.int ((nI (qi s)) + 1), .ref 16] h Q from ?_)
    rw [show ((nI (qi s)) + 1 : Int32) = nI ((qi s) + 1) from nI_add (qi s) 1]
    refine exf_go 7 (show rN (uI h 16 2 (nI ((qi s) + 1))) 16 5 = true ∧ (wpC (d + 33) true 59 [.ref 16, .int 1, .int 999] (uI h 16 2 (nI ((qi s) + 1))) (fun r h' => Go (d + 33) true 60 138 [.ref 16] [r, .ref 23] h' Q)) from ⟨(cp.2.1.2.1), ?_⟩)
    have cp7 := cp_nx cp (by omega) (by omega)
    have q7 : Fq sRc h (uI h 16 2 (nI ((qi s) + 1))) := Fq.rfl'.uI' _ _ _ rfl
    have iv7 : IV b n 0 (nx s) := (iv_nx iv (by omega)).le (Nat.zero_le _); have hz7 := qe_nx s; have hi7 := qi_nx s
    generalize hg7 : uI h 16 2 (nI ((qi s) + 1)) = h7 at cp7 q7 ⊢
    have hb7 := cp_b cp7
    refine c_takeN (lo := 1) (hh := 1000) cp7 (by omega) (by decide) (by first | rfl | decide) (by omega) (fun e8 h8 q8 cp8 hlo8 hhi8 => ?_) (fun h9 q9 cp9 hz9 => ?_)
    · skip
      have hb8 := cp_b cp8
      have hz8 := qe_nx (nx s); have hi8 := qi_nx (nx s)
      have iv8 : IV b n 0 (nx (nx s)) := by rw [← e8]; exact (af_tkn (iv7.le (Nat.zero_le _))).1
      show Go (d + 33) true 60 138 [.ref 16] [.int (nI (vl b n (qi (nx s)))), .ref 23] h8 Q
      refine exf_go 6 (show rN (uI h8 23 12 (nI (vl b n (qi (nx s))))) 16 5 = true ∧ (((nI (vl b n (qi (nx s)))) = (-1) → Go (d + 33) true 60 156 [.ref 16] [] (uI h8 23 12 (nI (vl b n (qi (nx s))))) Q) ∧ (¬ ((nI (vl b n (qi (nx s)))) = (-1)) → Go (d + 33) true 60 152 [.ref 16] [] (uI h8 23 12 (nI (vl b n (qi (nx s))))) Q)) from ⟨(cp8.2.1.2.1), fun c4 => ?_, fun c4 => ?_⟩)
      · skip
        exact absurd c4 (ng_eq (by omega) (by decide))
      · skip
        refine exf_go 3 (show ((1 : Int32) = 0 ∨ (1 : Int32) = 1) ∧ Q (.int 1) (uI h8 23 12 (nI (vl b n (qi (nx s))))) from ⟨(by first | exact Or.inl rfl | exact Or.inr rfl | assumption), ?_⟩)
        have e0 : saA b n s = (nx (nx s)) := e8
        have z0 : qe (saA b n s) = 0 := by rw [e0]; show qe (nx (nx s)) = 0; omega
        have ea : rLn b n (s, g, st, en, a, ah) = ((nx (nx s)), gSa g (vl b n (qi s + 1)), st, en, a, ah) := (rL_6 (y := (s, g, st, en, a, ah)) (show kd b n (qi s) = 6 from hkk)).trans ((if_pos z0).trans (by show (saA b n s, _) = _; rw [e0]; rfl))
        have qF : Fq sLn h8 (uI h8 23 12 (nI (vl b n (qi (nx s))))) := Fq.rfl'.uI' _ _ _ rfl
        have qQ : Fq sQ h8 (uI h8 23 12 (nI (vl b n (qi (nx s))))) := Fq.rfl'.uI' _ _ _ rfl
        have cpF := cp_o1 cp8 (show Fq sO1 h8 (uI h8 23 12 (nI (vl b n (qi (nx s))))) from Fq.rfl'.uI' _ _ _ rfl)
        have qb := (Fq.tr q7 q8)
        have coX := co_q co (Fq.tr (qb.mono sRc_Q) qQ)
        rw [ea] at k1; exact k1 _ (Fq.tr (qb.mono sRc_L) qF) ⟨cpF, ⟨coX.1, coX.2⟩, fun _ => ⟨⟨(qb.1 23 9 rfl).1.trans cr.1.1, (qb.1 23 10 rfl).1.trans cr.1.2.1, (qb.1 23 11 rfl).1.trans cr.1.2.2.1, rfl⟩, (qb.1 23 15 rfl).1.trans cr.2.1, (qb.1 23 16 rfl).1.trans cr.2.2.1, (qb.1 23 17 rfl).1.trans cr.2.2.2.1, (qb.1 16 3 rfl).1.trans cr.2.2.2.2⟩⟩ (show qe (nx (nx s)) = 0 by omega)
    · skip
      show Go (d + 33) true 60 138 [.ref 16] [.int (-1), .ref 23] h9 Q
      refine exf_go 6 (show rN (uI h9 23 12 (-1)) 16 5 = true ∧ ((((-1) : Int32) = (-1) → Go (d + 33) true 60 156 [.ref 16] [] (uI h9 23 12 (-1)) Q) ∧ (¬ (((-1) : Int32) = (-1)) → Go (d + 33) true 60 152 [.ref 16] [] (uI h9 23 12 (-1)) Q)) from ⟨(cp9.2.1.2.1), fun c5 => ?_, fun c5 => ?_⟩)
      · skip
        refine exf_go 2 (show ((0 : Int32) = 0 ∨ (0 : Int32) = 1) ∧ Q (.int 0) (uI h9 23 12 (-1)) from ⟨(by first | exact Or.inl rfl | exact Or.inr rfl | assumption), ?_⟩)
        have qF : Fq sQ h9 (uI h9 23 12 (-1)) := Fq.rfl'.uI' _ _ _ rfl
        have cpF := cp_o1 cp9 (show Fq sO1 h9 (uI h9 23 12 (-1)) from Fq.rfl'.uI' _ _ _ rfl)
        have ea : rLn b n (s, g, st, en, a, ah) = ((tkn b n 1 1000 (nx s)), g, st, en, a, ah) := (rL_6 (y := (s, g, st, en, a, ah)) (show kd b n (qi s) = 6 from hkk)).trans (if_neg hz9)
        rw [ea] at k0; exact k0 _ ((Fq.tr ((Fq.tr q7 q9).mono sRc_Q) qF).mono sQ_L) ⟨cpF, co_q co (Fq.tr ((Fq.tr q7 q9).mono sRc_Q) qF), fun z => absurd z hz9⟩ hz9
      · skip
        exact absurd (by decide) c5
  · skip
    rw [nI_toInt (by omega)] at c1
    have hkk : kd b n (qi s) = 7 := (ckd_inj _ (by omega) 7 (by decide)).mp (show _ = 135 from by omega)
    refine exf_go 2 (show wpC (d + 33) true 64 [.ref 16] h (fun r h' => Go (d + 33) true 60 162 [.ref 16] [r] h' Q) from ?_)
    refine c_readMate (st := st) hg hah cp iv he hkk co cr (fun h1 q1 cy1 z1 => ?_) (fun h1 q1 cy1 z1 => ?_)
    · skip
      show Go (d + 33) true 60 162 [.ref 16] [.int 1] h1 Q
      refine exf_go 1 (show ((1 : Int32) = 0 ∨ (1 : Int32) = 1) ∧ Q (.int 1) h1 from ⟨(by first | exact Or.inl rfl | exact Or.inr rfl | assumption), ?_⟩)
      rw [(rL_7 (y := (s, g, st, en, a, ah)) (show kd b n (qi s) = 7 from hkk))] at k1; exact k1 _ q1 cy1 z1
    · skip
      show Go (d + 33) true 60 162 [.ref 16] [.int 0] h1 Q
      refine exf_go 1 (show ((0 : Int32) = 0 ∨ (0 : Int32) = 1) ∧ Q (.int 0) h1 from ⟨(by first | exact Or.inl rfl | exact Or.inr rfl | assumption), ?_⟩)
      rw [(rL_7 (y := (s, g, st, en, a, ah)) (show kd b n (qi s) = 7 from hkk))] at k0; exact k0 _ q1 cy1 z1
  · skip
    rw [nI_toInt (by omega)] at c1
    have hkk : kd b n (qi s) = 8 := (ckd_inj _ (by omega) 8 (by decide)).mp (show _ = 136 from by omega)
    refine exf_go 4 (show rN h 16 5 = true ∧ (wpC (d + 33) true 65 [.ref 16] h (fun r h' => Go (d + 33) true 60 171 [.ref 16] [r, .ref 23] h' Q)) from ⟨(cp.2.1.2.1), ?_⟩)
    refine c_readFigures (en := en) hg cp iv he (by omega) (by omega) co (fun h1 q1 cp1 hx1 hz1 => ?_) (fun h2 q2 cp2 hz2 => ?_)
    · skip
      have hfb := (af_fgA hg iv (by omega)).2 hz1; have htb := tot_b hg
      show Go (d + 33) true 60 171 [.ref 16] [.int (nI ((fgA b n g s).2)), .ref 23] h1 Q
      refine exf_go 6 (show rN (uI h1 23 15 (nI ((fgA b n g s).2))) 16 5 = true ∧ (((nI ((fgA b n g s).2)) = (-1) → Go (d + 33) true 60 189 [.ref 16] [] (uI h1 23 15 (nI ((fgA b n g s).2))) Q) ∧ (¬ ((nI ((fgA b n g s).2)) = (-1)) → Go (d + 33) true 60 185 [.ref 16] [] (uI h1 23 15 (nI ((fgA b n g s).2))) Q)) from ⟨(cp1.2.1.2.1), fun c6 => ?_, fun c6 => ?_⟩)
      · skip
        exact absurd c6 (ng_eq (by omega) (by decide))
      · skip
        refine exf_go 3 (show ((1 : Int32) = 0 ∨ (1 : Int32) = 1) ∧ Q (.int 1) (uI h1 23 15 (nI ((fgA b n g s).2))) from ⟨(by first | exact Or.inl rfl | exact Or.inr rfl | assumption), ?_⟩)
        have ea : rLn b n (s, g, st, en, a, ah) = ((fgA b n g s).1, gSe g (fgA b n g s).2, st, en, a, 1) := (rL_8 (y := (s, g, st, en, a, ah)) (show kd b n (qi s) = 8 from hkk)).trans (if_pos hz1)
        have qF : Fq sLn h1 (uI h1 23 15 (nI ((fgA b n g s).2))) := Fq.rfl'.uI' _ _ _ rfl
        have qQ : Fq sQ h1 (uI h1 23 15 (nI ((fgA b n g s).2))) := Fq.rfl'.uI' _ _ _ rfl
        have cpF := cp_o1 cp1 (show Fq sO1 h1 (uI h1 23 15 (nI ((fgA b n g s).2))) from Fq.rfl'.uI' _ _ _ rfl)
        have qb := q1
        have coX := co_q co (Fq.tr (qb.mono sR3_Q) qQ)
        rw [ea] at k1; exact k1 _ (Fq.tr (qb.mono sR3_L) qF) ⟨cpF, ⟨coX.1, coX.2⟩, fun _ => ⟨⟨(qb.1 23 9 rfl).1.trans cr.1.1, (qb.1 23 10 rfl).1.trans cr.1.2.1, (qb.1 23 11 rfl).1.trans cr.1.2.2.1, (qb.1 23 12 rfl).1.trans cr.1.2.2.2⟩, rfl, (qb.1 23 16 rfl).1.trans cr.2.2.1, (qb.1 23 17 rfl).1.trans cr.2.2.2.1, hx1⟩⟩ hz1
    · skip
      show Go (d + 33) true 60 171 [.ref 16] [.int (-1), .ref 23] h2 Q
      refine exf_go 6 (show rN (uI h2 23 15 (-1)) 16 5 = true ∧ ((((-1) : Int32) = (-1) → Go (d + 33) true 60 189 [.ref 16] [] (uI h2 23 15 (-1)) Q) ∧ (¬ (((-1) : Int32) = (-1)) → Go (d + 33) true 60 185 [.ref 16] [] (uI h2 23 15 (-1)) Q)) from ⟨(cp2.2.1.2.1), fun c7 => ?_, fun c7 => ?_⟩)
      · skip
        refine exf_go 2 (show ((0 : Int32) = 0 ∨ (0 : Int32) = 1) ∧ Q (.int 0) (uI h2 23 15 (-1)) from ⟨(by first | exact Or.inl rfl | exact Or.inr rfl | assumption), ?_⟩)
        have qF : Fq sQ h2 (uI h2 23 15 (-1)) := Fq.rfl'.uI' _ _ _ rfl
        have cpF := cp_o1 cp2 (show Fq sO1 h2 (uI h2 23 15 (-1)) from Fq.rfl'.uI' _ _ _ rfl)
        have ea : rLn b n (s, g, st, en, a, ah) = ((fgA b n g s).1, g, st, en, a, ah) := (rL_8 (y := (s, g, st, en, a, ah)) (show kd b n (qi s) = 8 from hkk)).trans (if_neg hz2)
        rw [ea] at k0; exact k0 _ ((Fq.tr (q2.mono sR3_Q) qF).mono sQ_L) ⟨cpF, co_q co (Fq.tr (q2.mono sR3_Q) qF), fun z => absurd z hz2⟩ hz2
      · skip
        exact absurd (by decide) c7
  · skip
    rw [nI_toInt (by omega)] at c1
    have hkk : kd b n (qi s) = 9 := (ckd_inj _ (by omega) 9 (by decide)).mp (show _ = 137 from by omega)
    refine exf_go 4 (show rN h 16 5 = true ∧ (wpC (d + 33) true 65 [.ref 16] h (fun r h' => Go (d + 33) true 60 199 [.ref 16] [r, .ref 23] h' Q)) from ⟨(cp.2.1.2.1), ?_⟩)
    refine c_readFigures (en := en) hg cp iv he (by omega) (by omega) co (fun h1 q1 cp1 hx1 hz1 => ?_) (fun h2 q2 cp2 hz2 => ?_)
    · skip
      have hfb := (af_fgA hg iv (by omega)).2 hz1; have htb := tot_b hg
      show Go (d + 33) true 60 199 [.ref 16] [.int (nI ((fgA b n g s).2)), .ref 23] h1 Q
      refine exf_go 6 (show rN (uI h1 23 16 (nI ((fgA b n g s).2))) 16 5 = true ∧ (((nI ((fgA b n g s).2)) = (-1) → Go (d + 33) true 60 217 [.ref 16] [] (uI h1 23 16 (nI ((fgA b n g s).2))) Q) ∧ (¬ ((nI ((fgA b n g s).2)) = (-1)) → Go (d + 33) true 60 213 [.ref 16] [] (uI h1 23 16 (nI ((fgA b n g s).2))) Q)) from ⟨(cp1.2.1.2.1), fun c8 => ?_, fun c8 => ?_⟩)
      · skip
        exact absurd c8 (ng_eq (by omega) (by decide))
      · skip
        refine exf_go 3 (show ((1 : Int32) = 0 ∨ (1 : Int32) = 1) ∧ Q (.int 1) (uI h1 23 16 (nI ((fgA b n g s).2))) from ⟨(by first | exact Or.inl rfl | exact Or.inr rfl | assumption), ?_⟩)
        have ea : rLn b n (s, g, st, en, a, ah) = ((fgA b n g s).1, g, st, en, (fgA b n g s).2, 1) := (rL_9 (y := (s, g, st, en, a, ah)) (show kd b n (qi s) = 9 from hkk)).trans (if_pos hz1)
        have qF : Fq sLn h1 (uI h1 23 16 (nI ((fgA b n g s).2))) := Fq.rfl'.uI' _ _ _ rfl
        have qQ : Fq sQ h1 (uI h1 23 16 (nI ((fgA b n g s).2))) := Fq.rfl'.uI' _ _ _ rfl
        have cpF := cp_o1 cp1 (show Fq sO1 h1 (uI h1 23 16 (nI ((fgA b n g s).2))) from Fq.rfl'.uI' _ _ _ rfl)
        have qb := q1
        have coX := co_q co (Fq.tr (qb.mono sR3_Q) qQ)
        rw [ea] at k1; exact k1 _ (Fq.tr (qb.mono sR3_L) qF) ⟨cpF, ⟨coX.1, coX.2⟩, fun _ => ⟨⟨(qb.1 23 9 rfl).1.trans cr.1.1, (qb.1 23 10 rfl).1.trans cr.1.2.1, (qb.1 23 11 rfl).1.trans cr.1.2.2.1, (qb.1 23 12 rfl).1.trans cr.1.2.2.2⟩, (qb.1 23 15 rfl).1.trans cr.2.1, rfl, (qb.1 23 17 rfl).1.trans cr.2.2.2.1, hx1⟩⟩ hz1
    · skip
      show Go (d + 33) true 60 199 [.ref 16] [.int (-1), .ref 23] h2 Q
      refine exf_go 6 (show rN (uI h2 23 16 (-1)) 16 5 = true ∧ ((((-1) : Int32) = (-1) → Go (d + 33) true 60 217 [.ref 16] [] (uI h2 23 16 (-1)) Q) ∧ (¬ (((-1) : Int32) = (-1)) → Go (d + 33) true 60 213 [.ref 16] [] (uI h2 23 16 (-1)) Q)) from ⟨(cp2.2.1.2.1), fun c9 => ?_, fun c9 => ?_⟩)
      · skip
        refine exf_go 2 (show ((0 : Int32) = 0 ∨ (0 : Int32) = 1) ∧ Q (.int 0) (uI h2 23 16 (-1)) from ⟨(by first | exact Or.inl rfl | exact Or.inr rfl | assumption), ?_⟩)
        have qF : Fq sQ h2 (uI h2 23 16 (-1)) := Fq.rfl'.uI' _ _ _ rfl
        have cpF := cp_o1 cp2 (show Fq sO1 h2 (uI h2 23 16 (-1)) from Fq.rfl'.uI' _ _ _ rfl)
        have ea : rLn b n (s, g, st, en, a, ah) = ((fgA b n g s).1, g, st, en, a, ah) := (rL_9 (y := (s, g, st, en, a, ah)) (show kd b n (qi s) = 9 from hkk)).trans (if_neg hz2)
        rw [ea] at k0; exact k0 _ ((Fq.tr (q2.mono sR3_Q) qF).mono sQ_L) ⟨cpF, co_q co (Fq.tr (q2.mono sR3_Q) qF), fun z => absurd z hz2⟩ hz2
      · skip
        exact absurd (by decide) c9
theorem c_line {d : Nat} {h : Hp} {b : Nat → Nat} {n N : Nat} {Q : Po} {y : LnG} (yw : YW b n y) (cy : CY b n N y h) (he : qe (ys y) = 0) (k1 : ∀ h1, Fq sLn h h1 → CY b n N (rLn b n y) h1 → qe (ys (rLn b n y)) = 0 → Q (.int 1) h1) (k0 : ∀ h1, Fq sLn h h1 → CY b n N (rLn b n y) h1 → ¬ qe (ys (rLn b n y)) = 0 → Q (.int 0) h1) : wpC (d + 34) true 60 [.ref 16] h Q := by
  obtain ⟨s, g, st, en, a, ah⟩ := y
  exact c_readLine (st := st) yw.1 yw.2.2.1.2.1 cy.1 yw.2.1 he cy.2.1 (cy.2.2 he) k1 k0
