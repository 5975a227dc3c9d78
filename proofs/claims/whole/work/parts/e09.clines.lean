/-! The class: lines. -/
def sR3 (a i : Nat) : Bool := sRc a i || (Nat.beq a 16 && Nat.beq i 3)
theorem sRc_3 (a i : Nat) (e : sR3 a i = false) : sRc a i = false := (Bool.or_eq_false_iff.mp e).1
theorem sR3_Q (a i : Nat) (e : sQ a i = false) : sR3 a i = false := by
  unfold sQ at e
  unfold sR3
  simp only [Bool.or_eq_false_iff] at e ⊢
  exact ⟨e.1.1.1, e.2⟩
theorem sR3_L (a i : Nat) (e : sLn a i = false) : sR3 a i = false := sR3_Q a i (sQ_L a i e)
theorem sC_C (a i : Nat) (e : sRc a i = false) : sRc a i = false := e
theorem sQ_Q (a i : Nat) (e : sQ a i = false) : sQ a i = false := e
theorem cr_o {s1 : Nat → Nat → Bool} {g : ShG} {a ah : Nat} {h h1 : Hp} (cr : CR g a ah h) (q : Fq s1 h h1) (z : s1 23 9 = false ∧ s1 23 10 = false ∧ s1 23 11 = false ∧ s1 23 12 = false ∧ s1 23 15 = false ∧ s1 23 16 = false ∧ s1 23 17 = false ∧ s1 16 3 = false) : CR g a ah h1 := ⟨⟨(q.1 23 9 z.1).1.trans cr.1.1, (q.1 23 10 z.2.1).1.trans cr.1.2.1, (q.1 23 11 z.2.2.1).1.trans cr.1.2.2.1, (q.1 23 12 z.2.2.2.1).1.trans cr.1.2.2.2⟩, (q.1 23 15 z.2.2.2.2.1).1.trans cr.2.1, (q.1 23 16 z.2.2.2.2.2.1).1.trans cr.2.2.1, (q.1 23 17 z.2.2.2.2.2.2.1).1.trans cr.2.2.2.1, (q.1 16 3 z.2.2.2.2.2.2.2).1.trans cr.2.2.2.2⟩
theorem cr_3 {g : ShG} {a ah x : Nat} {h h1 : Hp} (cr : CR g a ah h) (q : Fq sR3 h h1) (e : rI h1 16 3 = nI x) : CR g a x h1 := ⟨⟨(q.1 23 9 rfl).1.trans cr.1.1, (q.1 23 10 rfl).1.trans cr.1.2.1, (q.1 23 11 rfl).1.trans cr.1.2.2.1, (q.1 23 12 rfl).1.trans cr.1.2.2.2⟩, (q.1 23 15 rfl).1.trans cr.2.1, (q.1 23 16 rfl).1.trans cr.2.2.1, (q.1 23 17 rfl).1.trans cr.2.2.2.1, e⟩
theorem sWl_L (a i : Nat) (e : sLn a i = false) : sWl a i = false := by
  by_cases h3 : a = 23
  · subst h3; exact absurd (e.symm.trans (sLn_23 i)) (by decide)
  · have hb : ∀ z, 23 ≤ z → z ≤ 30 → Nat.beq a z = false := fun z z1 z2 => beq_no (fun q => by
      subst q
      unfold sLn at e
      simp only [Bool.or_eq_false_iff] at e
      have e1 := e.1.1.1.2
      rw [Nat.ble_eq.mpr z1, Nat.ble_eq.mpr z2] at e1
      exact absurd e1 (by decide))
    unfold sWl
    rw [hb 24 (by decide) (by decide), hb 25 (by decide) (by decide), hb 26 (by decide) (by decide), hb 23 (by decide) (by decide)]
    rfl
def rW2 (b : Nat → Nat) (n : Nat) (y : LnG) : LnG := if yh y = 0 then rWh b n y else (fl b n 2 (ys y), y.2)
theorem rW_no {b : Nat → Nat} {n : Nat} {y : LnG} {s3 : PsG} (h0 : yh y = 0) (h4 : ¬ sW (yg y) = 4) (e : wh3 b n (ys y) = s3) (z : ¬ qe s3 = 0) : rW2 b n y = (s3, y.2) := by
  subst e
  unfold rW2 rWh
  rw [if_pos h0, if_neg h4, if_neg z]
theorem rW_ok {b : Nat → Nat} {n : Nat} {y : LnG} {s1 s2 s3 : PsG} {v r : Nat} (h0 : yh y = 0) (h4 : ¬ sW (yg y) = 4) (e1 : whA b n (ys y) = s1) (e2 : whB b n s1 = s2) (e3 : whC b n s2 = s3) (hv : whV b n s1 = v) (hr : whR b n s2 = r) (z : qe s3 = 0) : rW2 b n y = (s3, gWh (yg y) (vl b n (qi (ys y) + 1)) v r, y.2.2) := by
  subst e1; subst e2; subst e3; subst hv; subst hr
  unfold rW2 rWh
  rw [if_pos h0, if_neg h4, if_pos (show qe (wh3 b n (ys y)) = 0 from z)]
  rfl
theorem wh_1 {b : Nat → Nat} {n : Nat} {s : PsG} (z : ¬ qe (tkn b n 2 11 (nx s)) = 0) : wh3 b n s = tkn b n 2 11 (nx s) := by
  unfold wh3 whA whB
  rw [isK_id z, if_neg (by decide)]
  unfold whC
  rw [isK_id z, if_neg (by decide)]
theorem wh_2 {b : Nat → Nat} {n : Nat} {s s1 : PsG} (e : tkn b n 2 11 (nx s) = s1) (k : isK b n 1 s1 = true) (z : ¬ qe (tkn b n 1 10 (nx s1)) = 0) : wh3 b n s = tkn b n 1 10 (nx s1) := by
  unfold wh3 whA whB
  rw [e, if_pos k]
  unfold whC
  rw [isK_id z, if_neg (by decide)]
theorem cl_1 {b : Nat → Nat} {n : Nat} {g : ShG} {s : PsG} (iv : IV b n 0 (nx s)) (z : ¬ qe (tkn b n 0 11 (nx s)) = 0) : clB b n g s = tkn b n 0 11 (nx s) := by
  unfold clB clA
  rw [eat_id z]
  exact (gd_trL b n (sW g) 6 0 _ (af_tkn iv).1).2.2 z
theorem cl_2 {b : Nat → Nat} {n : Nat} {g : ShG} {s s1 : PsG} (e : tkn b n 0 11 (nx s) = s1) (iv : IV b n 0 s1) (k : isK b n 26 s1 = false) : clB b n g s = fl b n 2 s1 := by
  unfold clB clA
  have e2 : eat b n 26 s1 = fl b n 2 s1 := if_neg (by rw [k]; decide)
  rw [e, e2]
  exact (gd_trL b n (sW g) 6 0 _ (iv_fl iv)).2.2 (fl_ne (by decide))
theorem cl_3 {b : Nat → Nat} {n : Nat} {g : ShG} {s s1 : PsG} (e : tkn b n 0 11 (nx s) = s1) (k : isK b n 26 s1 = true) : clB b n g s = trL b n (sW g) 6 (nx s1) := by
  unfold clB clA
  have e2 : eat b n 26 s1 = nx s1 := if_pos k
  rw [e, e2]
theorem rC_no {b : Nat → Nat} {n : Nat} {y : LnG} {s3 : PsG} (h4 : ¬ sC (yg y) = 8) (e : clB b n (yg y) (ys y) = s3) (z : ¬ qe s3 = 0) : rCl b n y = (s3, y.2) := by
  subst e
  unfold rCl
  rw [if_neg h4, if_neg z]
theorem rC_ok {b : Nat → Nat} {n : Nat} {y : LnG} {s3 : PsG} (h4 : ¬ sC (yg y) = 8) (e : clB b n (yg y) (ys y) = s3) (z : qe s3 = 0) : rCl b n y = (s3, gCl (yg y) (vl b n (qi (ys y) + 1)), va_up (yb y) (sC (yg y)) (qn (ys y)), va_up (ye y) (sC (yg y)) (qn s3), ya y, 1) := by
  subst e
  unfold rCl
  rw [if_neg h4, if_pos z]
theorem mt_y {b : Nat → Nat} {n C f k : Nat} {s : PsG} (hf : 1 ≤ f) (he : qe s = 0) (h : kd b n (qi s) = 21) (e : tkn b n 0 C s = nx s) : mtL b n C f s k = mtL b n C (f - 1) (nx s) (k ||| 2 ^ vl b n (qi s)) := by
  rcases f with _ | f
  · omega
  · rw [mtL, if_pos (isK_y he h), e, if_pos (show qe (nx s) = 0 from he)]; rfl
theorem mt_f {b : Nat → Nat} {n C f k : Nat} {s : PsG} (hf : 1 ≤ f) (he : qe s = 0) (h : kd b n (qi s) = 21) (z : ¬ qe (tkn b n 0 C s) = 0) : mtL b n C f s k = (tkn b n 0 C s, k) := by
  rcases f with _ | f
  · omega
  · rw [mtL, if_pos (isK_y he h), if_neg z]
theorem mt_n {b : Nat → Nat} {n C f k : Nat} {s : PsG} (h : f = 0 ∨ ¬ kd b n (qi s) = 21) : mtL b n C f s k = (s, k) := by
  rcases f with _ | f
  · rfl
  · rw [mtL, if_neg (by rw [isK_n (by omega)]; decide)]
theorem rM_no {b : Nat → Nat} {n : Nat} {y : LnG} {s3 : PsG} {x : Nat} (h4 : ¬ sM (yg y) = 4) (e : mtA b n (yg y) (ys y) = (s3, x)) (z : ¬ qe s3 = 0) : rMt b n y = (s3, y.2) := by
  unfold rMt
  rw [if_neg h4, e, if_neg z]
theorem rM_ok {b : Nat → Nat} {n : Nat} {y : LnG} {s3 : PsG} {x : Nat} (h4 : ¬ sM (yg y) = 4) (e : mtA b n (yg y) (ys y) = (s3, x)) (z : qe s3 = 0) : rMt b n y = (s3, gMt (yg y) x, y.2.2) := by
  unfold rMt
  rw [if_neg h4, e, if_pos z]
theorem rB_no {b : Nat → Nat} {n : Nat} {y : LnG} {s3 : PsG} (e : baA b n (ys y) = s3) (z : ¬ qe s3 = 0) : rBa b n y = (s3, y.2) := by
  subst e
  unfold rBa
  rw [if_neg z]
theorem rB_ok {b : Nat → Nat} {n : Nat} {y : LnG} {s3 : PsG} (e : baA b n (ys y) = s3) (z : qe s3 = 0) : rBa b n y = (s3, gBa (yg y) (vl b n (qi (ys y) + 1)) (vl b n (qi (ys y) + 2)), y.2.2) := by
  subst e
  unfold rBa
  rw [if_pos z]
theorem ck26 : (58 : Int32) = nI (ckd 26) := by decide +kernel
theorem ck1 : (129 : Int32) = nI (ckd 1) := by decide +kernel
theorem ck2 : (130 : Int32) = nI (ckd 2) := by decide +kernel
theorem ck25 : (59 : Int32) = nI (ckd 25) := by decide +kernel
theorem c_readWheel {d : Nat} {h : Hp} {b : Nat → Nat} {n N : Nat} {s : PsG} {Q : Po} {g : ShG} {st en : Nat → Nat} {a ah : Nat} (hg : ShW g) (hah : ah ≤ 1) (cp : CP b n N s h) (iv : IV b n 0 s) (he : qe s = 0) (hk : kd b n (qi s) = 0) (co : CO g en h) (cr : CR g a ah h) (k1 : ∀ h1, Fq sLn h h1 → CY b n N (rW2 b n (s, g, st, en, a, ah)) h1 → qe (ys (rW2 b n (s, g, st, en, a, ah))) = 0 → Q (.int 1) h1) (k0 : ∀ h1, Fq sLn h h1 → CY b n N (rW2 b n (s, g, st, en, a, ah)) h1 → ¬ qe (ys (rW2 b n (s, g, st, en, a, ah))) = 0 → Q (.int 0) h1) : wpC (d + 5) true 61 [.ref 16] h Q := by
  have hb0 := cp_b cp; have hW4 := hg.1; have hC8 := hg.2.2.2.1; have hM4 := hg.2.2.2.2.2.1
  refine go_in rfl ?_
  refine exf_go 2 (show Go (d + 4) true 61 4 [.ref 16, mk_, mk_] [.int (rI h 16 3)] h Q from ?_)
  rw [show (rI h 16 3 : Int32) = nI ah from cr.2.2.2.2]
  refine exf_go 1 (show ((nI ah) = 0 → Go (d + 4) true 61 13 [.ref 16, mk_, mk_] [] h Q) ∧ (¬ ((nI ah) = 0) → Go (d + 4) true 61 7 [.ref 16, mk_, mk_] [] h Q) from ⟨fun c1 => ?_, fun c1 => ?_⟩)
  · skip
    have c1 : ah = 0 := (nI_eq (a := ah) (b := 0) (by omega) (by omega)).mp c1
    refine exf_go 3 (show rN h 16 5 = true ∧ (Go (d + 4) true 61 20 [.ref 16, mk_, mk_] [.int (rI h 23 0)] h Q) from ⟨(cp.2.1.2.1), ?_⟩)
    rw [show (rI h 23 0 : Int32) = nI (sW g) from co.1.1]
    refine exf_go 2 (show ((nI (sW g)) < 4 → Go (d + 4) true 61 30 [.ref 16, mk_, mk_] [] h Q) ∧ (¬ ((nI (sW g)) < 4) → Go (d + 4) true 61 24 [.ref 16, mk_, mk_] [] h Q) from ⟨fun c2 => ?_, fun c2 => ?_⟩)
    · skip
      have c2 : (sW g) < 4 := (nI_ltI (a := (sW g)) (b := 4) (by omega) (by omega)).mp c2
      refine exf_go 3 (show Go (d + 4) true 61 35 [.ref 16, mk_, mk_] [.int (rI h 16 2), .ref 16] h Q from ?_)
      rw [show (rI h 16 2 : Int32) = nI (qi s) from cp.2.2.1.2.1]
      refine exf_go 2 (show Go (d + 4) true 61 37 [.ref 16, mk_, mk_] [.int ((nI (qi s)) + 1), .ref 16] h Q from ?_)
      rw [show ((nI (qi s)) + 1 : Int32) = nI ((qi s) + 1) from nI_add (qi s) 1]
      refine exf_go 5 (show wpC (d + 4) true 59 [.ref 16, .int 2, .int 10] (uI h 16 2 (nI ((qi s) + 1))) (fun r h' => Go (d + 4) true 61 47 [.ref 16, mk_, mk_] [r] h' Q) from ?_)
      have cp1 := cp_nx cp (by omega) (by omega)
      have q1 : Fq sRc h (uI h 16 2 (nI ((qi s) + 1))) := Fq.rfl'.uI' _ _ _ rfl
      have iv1 : IV b n 0 (nx s) := (iv_nx iv (by omega)).le (Nat.zero_le _); have hz1 := qe_nx s; have hi1 := qi_nx s
      generalize hg1 : uI h 16 2 (nI ((qi s) + 1)) = h1 at cp1 q1 ⊢
      have hb1 := cp_b cp1
      refine c_takeN (lo := 2) (hh := 11) cp1 (by omega) (by decide) (by first | rfl | decide) (by omega) (fun e2 h2 q2 cp2 hlo2 hhi2 => ?_) (fun h3 q3 cp3 hz3 => ?_)
      · skip
        have hb2 := cp_b cp2
        have hz2 := qe_nx (nx s); have hi2 := qi_nx (nx s)
        have iv2 : IV b n 0 (nx (nx s)) := by rw [← e2]; exact (af_tkn (iv1.le (Nat.zero_le _))).1
        show Go (d + 4) true 61 47 [.ref 16, mk_, mk_] [.int (nI (vl b n (qi (nx s))))] h2 Q
        refine exf_go 4 (show (¬ (nI (vl b n (qi (nx s)))) = (-1) → Go (d + 4) true 61 55 [.ref 16, .int (nI (vl b n (qi (nx s)))), mk_] [] h2 Q) ∧ (¬ (¬ (nI (vl b n (qi (nx s)))) = (-1)) → Go (d + 4) true 61 53 [.ref 16, .int (nI (vl b n (qi (nx s)))), mk_] [] h2 Q) from ⟨fun c3 => ?_, fun c3 => ?_⟩)
        · skip
          refine exf_go 5 (show wpC (d + 4) true 58 [.ref 16, .int 129] h2 (fun r h' => Go (d + 4) true 61 64 [.ref 16, .int (nI (vl b n (qi (nx s)))), .int 1] [r] h' Q) from ?_)
          rw [ck1]
          refine c_takeIf (kk := 1) cp2 (by omega) (by decide) (by decide) (by decide) (fun K64 h4 q4 cp4 => ?_) (fun K64 => ?_)
          · skip
            have K64e := isK_e K64
            have hb4 := cp_b cp4
            have hz4 := qe_nx (nx (nx s)); have hi4 := qi_nx (nx (nx s))
            have iv4 := iv_nx iv2 (by omega)
            show Go (d + 4) true 61 64 [.ref 16, .int (nI (vl b n (qi (nx s)))), .int 1] [.int 1] h4 Q
            refine exf_go 1 (show ((1 : Int32) = 0 → Go (d + 4) true 61 82 [.ref 16, .int (nI (vl b n (qi (nx s)))), .int 1] [] h4 Q) ∧ (¬ ((1 : Int32) = 0) → Go (d + 4) true 61 67 [.ref 16, .int (nI (vl b n (qi (nx s)))), .int 1] [] h4 Q) from ⟨fun c4 => ?_, fun c4 => ?_⟩)
            · skip
              exact absurd c4 (by decide)
            · skip
              refine exf_go 4 (show wpC (d + 4) true 59 [.ref 16, .int 1, .int 9] h4 (fun r h' => Go (d + 4) true 61 74 [.ref 16, .int (nI (vl b n (qi (nx s)))), .int 1] [r] h' Q) from ?_)
              refine c_takeN (lo := 1) (hh := 10) cp4 (by omega) (by decide) (by first | rfl | decide) (by omega) (fun e5 h5 q5 cp5 hlo5 hhi5 => ?_) (fun h6 q6 cp6 hz6 => ?_)
              · skip
                have hb5 := cp_b cp5
                have hz5 := qe_nx (nx (nx (nx s))); have hi5 := qi_nx (nx (nx (nx s)))
                have iv5 : IV b n 0 (nx (nx (nx (nx s)))) := by rw [← e5]; exact (af_tkn (iv4.le (Nat.zero_le _))).1
                show Go (d + 4) true 61 74 [.ref 16, .int (nI (vl b n (qi (nx s)))), .int 1] [.int (nI (vl b n (qi (nx (nx (nx s))))))] h5 Q
                refine exf_go 4 (show (¬ (nI (vl b n (qi (nx (nx (nx s)))))) = (-1) → Go (d + 4) true 61 82 [.ref 16, .int (nI (vl b n (qi (nx s)))), .int (nI (vl b n (qi (nx (nx (nx s))))))] [] h5 Q) ∧ (¬ (¬ (nI (vl b n (qi (nx (nx (nx s)))))) = (-1)) → Go (d + 4) true 61 80 [.ref 16, .int (nI (vl b n (qi (nx s)))), .int (nI (vl b n (qi (nx (nx (nx s))))))] [] h5 Q) from ⟨fun c5 => ?_, fun c5 => ?_⟩)
                · skip
                  refine exf_go 7 (show rN h5 16 5 = true ∧ (wpC (d + 4) true 58 [.ref 16, .int 130] h5 (fun r h' => Go (d + 4) true 61 95 [.ref 16, .int (nI (vl b n (qi (nx s)))), .int (nI (vl b n (qi (nx (nx (nx s))))))] [r, .int (nI (vl b n (qi (nx (nx (nx s)))))), .int (nI (vl b n (qi (nx s)))), .ref 23] h' Q)) from ⟨(cp5.2.1.2.1), ?_⟩)
                  rw [ck2]
                  refine c_takeIf (kk := 2) cp5 (by omega) (by decide) (by decide) (by decide) (fun K95 h7 q7 cp7 => ?_) (fun K95 => ?_)
                  · skip
                    have K95e := isK_e K95
                    have hb7 := cp_b cp7
                    have hz7 := qe_nx (nx (nx (nx (nx s)))); have hi7 := qi_nx (nx (nx (nx (nx s))))
                    have iv7 := iv_nx iv5 (by omega)
                    show Go (d + 4) true 61 95 [.ref 16, .int (nI (vl b n (qi (nx s)))), .int (nI (vl b n (qi (nx (nx (nx s))))))] [.int 1, .int (nI (vl b n (qi (nx (nx (nx s)))))), .int (nI (vl b n (qi (nx s)))), .ref 23] h7 Q
                    refine exf_go 1 (show ((1 : Int32) = 0 → Go (d + 4) true 61 102 [.ref 16, .int (nI (vl b n (qi (nx s)))), .int (nI (vl b n (qi (nx (nx (nx s))))))] [.int (nI (vl b n (qi (nx (nx (nx s)))))), .int (nI (vl b n (qi (nx s)))), .ref 23] h7 Q) ∧ (¬ ((1 : Int32) = 0) → Go (d + 4) true 61 98 [.ref 16, .int (nI (vl b n (qi (nx s)))), .int (nI (vl b n (qi (nx (nx (nx s))))))] [.int (nI (vl b n (qi (nx (nx (nx s)))))), .int (nI (vl b n (qi (nx s)))), .ref 23] h7 Q) from ⟨fun c6 => ?_, fun c6 => ?_⟩)
                    · skip
                      exact absurd c6 (by decide)
                    · skip
                      refine exf_go 3 (show wpC (d + 4) true 77 [.ref 23, .int (nI (vl b n (qi (nx s)))), .int (nI (vl b n (qi (nx (nx (nx s)))))), .int 1] h7 (fun _ h' => Go (d + 4) true 61 106 [.ref 16, .int (nI (vl b n (qi (nx s)))), .int (nI (vl b n (qi (nx (nx (nx s))))))] [] h' Q) from ?_)
                      refine c_addWheel (g := g) (en := en) (f := vl b n (qi (nx s))) (st := vl b n (qi (nx (nx (nx s))))) (r := 1) (co_q co ((Fq.tr (Fq.tr (Fq.tr (Fq.tr q1 q2) q4) q5) q7).mono sRc_Q)) (by omega) (fun hZ qZ coZ => ?_)
                      show Go (d + 4) true 61 106 [.ref 16, .int (nI (vl b n (qi (nx s)))), .int (nI (vl b n (qi (nx (nx (nx s))))))] [] hZ Q
                      refine exf_go 2 (show ((1 : Int32) = 0 ∨ (1 : Int32) = 1) ∧ Q (.int 1) hZ from ⟨(by first | exact Or.inl rfl | exact Or.inr rfl | assumption), ?_⟩)
                      have eB : whB b n (nx (nx s)) = (nx (nx (nx (nx s)))) := (if_pos K64).trans e5
                      have ea : rW2 b n (s, g, st, en, a, ah) = ((nx (nx (nx (nx (nx s))))), gWh g (vl b n (qi (nx s))) (vl b n (qi (nx (nx (nx s))))) 1, st, en, a, ah) := rW_ok (show ah = 0 by omega) (show ¬ sW g = 4 by omega) (show whA b n s = (nx (nx s)) from e2) eB (if_pos K95) (if_pos K64) (if_pos K95) (by omega)
                      have crZ := cr_o (cr_rc cr (Fq.tr (Fq.tr (Fq.tr (Fq.tr q1 q2) q4) q5) q7)) qZ ⟨rfl, rfl, rfl, rfl, rfl, rfl, rfl, rfl⟩
                      rw [ea] at k1; exact k1 _ (Fq.tr ((Fq.tr (Fq.tr (Fq.tr (Fq.tr q1 q2) q4) q5) q7).mono sRc_L) (qZ.mono sWl_L)) ⟨cp_o cp7 qZ (fun _ => ⟨rfl, rfl, rfl, rfl, rfl⟩) ⟨rfl, rfl, rfl, rfl, rfl⟩, coZ, fun _ => ⟨crZ.1, crZ.2⟩⟩ (show qe (nx (nx (nx (nx (nx s))))) = 0 by omega)
                  · skip
                    show Go (d + 4) true 61 95 [.ref 16, .int (nI (vl b n (qi (nx s)))), .int (nI (vl b n (qi (nx (nx (nx s))))))] [.int 0, .int (nI (vl b n (qi (nx (nx (nx s)))))), .int (nI (vl b n (qi (nx s)))), .ref 23] h5 Q
                    refine exf_go 1 (show ((0 : Int32) = 0 → Go (d + 4) true 61 102 [.ref 16, .int (nI (vl b n (qi (nx s)))), .int (nI (vl b n (qi (nx (nx (nx s))))))] [.int (nI (vl b n (qi (nx (nx (nx s)))))), .int (nI (vl b n (qi (nx s)))), .ref 23] h5 Q) ∧ (¬ ((0 : Int32) = 0) → Go (d + 4) true 61 98 [.ref 16, .int (nI (vl b n (qi (nx s)))), .int (nI (vl b n (qi (nx (nx (nx s))))))] [.int (nI (vl b n (qi (nx (nx (nx s)))))), .int (nI (vl b n (qi (nx s)))), .ref 23] h5 Q) from ⟨fun c7 => ?_, fun c7 => ?_⟩)
                    · skip
                      refine exf_go 2 (show wpC (d + 4) true 77 [.ref 23, .int (nI (vl b n (qi (nx s)))), .int (nI (vl b n (qi (nx (nx (nx s)))))), .int 0] h5 (fun _ h' => Go (d + 4) true 61 106 [.ref 16, .int (nI (vl b n (qi (nx s)))), .int (nI (vl b n (qi (nx (nx (nx s))))))] [] h' Q) from ?_)
                      refine c_addWheel (g := g) (en := en) (f := vl b n (qi (nx s))) (st := vl b n (qi (nx (nx (nx s))))) (r := 0) (co_q co ((Fq.tr (Fq.tr (Fq.tr q1 q2) q4) q5).mono sRc_Q)) (by omega) (fun hZ qZ coZ => ?_)
                      show Go (d + 4) true 61 106 [.ref 16, .int (nI (vl b n (qi (nx s)))), .int (nI (vl b n (qi (nx (nx (nx s))))))] [] hZ Q
                      refine exf_go 2 (show ((1 : Int32) = 0 ∨ (1 : Int32) = 1) ∧ Q (.int 1) hZ from ⟨(by first | exact Or.inl rfl | exact Or.inr rfl | assumption), ?_⟩)
                      have eB : whB b n (nx (nx s)) = (nx (nx (nx (nx s)))) := (if_pos K64).trans e5
                      have ea : rW2 b n (s, g, st, en, a, ah) = ((nx (nx (nx (nx s)))), gWh g (vl b n (qi (nx s))) (vl b n (qi (nx (nx (nx s))))) 0, st, en, a, ah) := rW_ok (show ah = 0 by omega) (show ¬ sW g = 4 by omega) (show whA b n s = (nx (nx s)) from e2) eB (if_neg (by rw [K95]; decide)) (if_pos K64) (if_neg (by rw [K95]; decide)) (by omega)
                      have crZ := cr_o (cr_rc cr (Fq.tr (Fq.tr (Fq.tr q1 q2) q4) q5)) qZ ⟨rfl, rfl, rfl, rfl, rfl, rfl, rfl, rfl⟩
                      rw [ea] at k1; exact k1 _ (Fq.tr ((Fq.tr (Fq.tr (Fq.tr q1 q2) q4) q5).mono sRc_L) (qZ.mono sWl_L)) ⟨cp_o cp5 qZ (fun _ => ⟨rfl, rfl, rfl, rfl, rfl⟩) ⟨rfl, rfl, rfl, rfl, rfl⟩, coZ, fun _ => ⟨crZ.1, crZ.2⟩⟩ (show qe (nx (nx (nx (nx s)))) = 0 by omega)
                    · skip
                      exact absurd (by decide) c7
                · skip
                  exact absurd (ng_eq (by omega) (by decide)) c5
              · skip
                show Go (d + 4) true 61 74 [.ref 16, .int (nI (vl b n (qi (nx s)))), .int 1] [.int (-1)] h6 Q
                refine exf_go 4 (show (¬ ((-1) : Int32) = (-1) → Go (d + 4) true 61 82 [.ref 16, .int (nI (vl b n (qi (nx s)))), .int (-1)] [] h6 Q) ∧ (¬ (¬ ((-1) : Int32) = (-1)) → Go (d + 4) true 61 80 [.ref 16, .int (nI (vl b n (qi (nx s)))), .int (-1)] [] h6 Q) from ⟨fun c8 => ?_, fun c8 => ?_⟩)
                · skip
                  exact absurd c8 (by decide)
                · skip
                  refine exf_go 2 (show ((0 : Int32) = 0 ∨ (0 : Int32) = 1) ∧ Q (.int 0) h6 from ⟨(by first | exact Or.inl rfl | exact Or.inr rfl | assumption), ?_⟩)
                  have ea : rW2 b n (s, g, st, en, a, ah) = ((tkn b n 1 10 (nx (nx (nx s)))), g, st, en, a, ah) := rW_no (show ah = 0 by omega) (show ¬ sW g = 4 by omega) (wh_2 e2 K64 hz6) hz6
                  rw [ea] at k0; exact k0 _ ((Fq.tr (Fq.tr (Fq.tr q1 q2) q4) q6).mono sRc_L) ⟨cp6, (co_q co ((Fq.tr (Fq.tr (Fq.tr q1 q2) q4) q6).mono sRc_Q)), fun z => absurd z hz6⟩ hz6
          · skip
            show Go (d + 4) true 61 64 [.ref 16, .int (nI (vl b n (qi (nx s)))), .int 1] [.int 0] h2 Q
            refine exf_go 1 (show ((0 : Int32) = 0 → Go (d + 4) true 61 82 [.ref 16, .int (nI (vl b n (qi (nx s)))), .int 1] [] h2 Q) ∧ (¬ ((0 : Int32) = 0) → Go (d + 4) true 61 67 [.ref 16, .int (nI (vl b n (qi (nx s)))), .int 1] [] h2 Q) from ⟨fun c9 => ?_, fun c9 => ?_⟩)
            · skip
              refine exf_go 7 (show rN h2 16 5 = true ∧ (wpC (d + 4) true 58 [.ref 16, .int 130] h2 (fun r h' => Go (d + 4) true 61 95 [.ref 16, .int (nI (vl b n (qi (nx s)))), .int 1] [r, .int 1, .int (nI (vl b n (qi (nx s)))), .ref 23] h' Q)) from ⟨(cp2.2.1.2.1), ?_⟩)
              rw [ck2]
              refine c_takeIf (kk := 2) cp2 (by omega) (by decide) (by decide) (by decide) (fun K95 h8 q8 cp8 => ?_) (fun K95 => ?_)
              · skip
                have K95e := isK_e K95
                have hb8 := cp_b cp8
                have hz8 := qe_nx (nx (nx s)); have hi8 := qi_nx (nx (nx s))
                have iv8 := iv_nx iv2 (by omega)
                show Go (d + 4) true 61 95 [.ref 16, .int (nI (vl b n (qi (nx s)))), .int 1] [.int 1, .int 1, .int (nI (vl b n (qi (nx s)))), .ref 23] h8 Q
                refine exf_go 1 (show ((1 : Int32) = 0 → Go (d + 4) true 61 102 [.ref 16, .int (nI (vl b n (qi (nx s)))), .int 1] [.int 1, .int (nI (vl b n (qi (nx s)))), .ref 23] h8 Q) ∧ (¬ ((1 : Int32) = 0) → Go (d + 4) true 61 98 [.ref 16, .int (nI (vl b n (qi (nx s)))), .int 1] [.int 1, .int (nI (vl b n (qi (nx s)))), .ref 23] h8 Q) from ⟨fun c10 => ?_, fun c10 => ?_⟩)
                · skip
                  exact absurd c10 (by decide)
                · skip
                  refine exf_go 3 (show wpC (d + 4) true 77 [.ref 23, .int (nI (vl b n (qi (nx s)))), .int 1, .int 1] h8 (fun _ h' => Go (d + 4) true 61 106 [.ref 16, .int (nI (vl b n (qi (nx s)))), .int 1] [] h' Q) from ?_)
                  refine c_addWheel (g := g) (en := en) (f := vl b n (qi (nx s))) (st := 1) (r := 1) (co_q co ((Fq.tr (Fq.tr q1 q2) q8).mono sRc_Q)) (by omega) (fun hZ qZ coZ => ?_)
                  show Go (d + 4) true 61 106 [.ref 16, .int (nI (vl b n (qi (nx s)))), .int 1] [] hZ Q
                  refine exf_go 2 (show ((1 : Int32) = 0 ∨ (1 : Int32) = 1) ∧ Q (.int 1) hZ from ⟨(by first | exact Or.inl rfl | exact Or.inr rfl | assumption), ?_⟩)
                  have eB : whB b n (nx (nx s)) = (nx (nx s)) := if_neg (by rw [K64]; decide)
                  have ea : rW2 b n (s, g, st, en, a, ah) = ((nx (nx (nx s))), gWh g (vl b n (qi (nx s))) (1) 1, st, en, a, ah) := rW_ok (show ah = 0 by omega) (show ¬ sW g = 4 by omega) (show whA b n s = (nx (nx s)) from e2) eB (if_pos K95) (if_neg (by rw [K64]; decide)) (if_pos K95) (by omega)
                  have crZ := cr_o (cr_rc cr (Fq.tr (Fq.tr q1 q2) q8)) qZ ⟨rfl, rfl, rfl, rfl, rfl, rfl, rfl, rfl⟩
                  rw [ea] at k1; exact k1 _ (Fq.tr ((Fq.tr (Fq.tr q1 q2) q8).mono sRc_L) (qZ.mono sWl_L)) ⟨cp_o cp8 qZ (fun _ => ⟨rfl, rfl, rfl, rfl, rfl⟩) ⟨rfl, rfl, rfl, rfl, rfl⟩, coZ, fun _ => ⟨crZ.1, crZ.2⟩⟩ (show qe (nx (nx (nx s))) = 0 by omega)
              · skip
                show Go (d + 4) true 61 95 [.ref 16, .int (nI (vl b n (qi (nx s)))), .int 1] [.int 0, .int 1, .int (nI (vl b n (qi (nx s)))), .ref 23] h2 Q
                refine exf_go 1 (show ((0 : Int32) = 0 → Go (d + 4) true 61 102 [.ref 16, .int (nI (vl b n (qi (nx s)))), .int 1] [.int 1, .int (nI (vl b n (qi (nx s)))), .ref 23] h2 Q) ∧ (¬ ((0 : Int32) = 0) → Go (d + 4) true 61 98 [.ref 16, .int (nI (vl b n (qi (nx s)))), .int 1] [.int 1, .int (nI (vl b n (qi (nx s)))), .ref 23] h2 Q) from ⟨fun c11 => ?_, fun c11 => ?_⟩)
                · skip
                  refine exf_go 2 (show wpC (d + 4) true 77 [.ref 23, .int (nI (vl b n (qi (nx s)))), .int 1, .int 0] h2 (fun _ h' => Go (d + 4) true 61 106 [.ref 16, .int (nI (vl b n (qi (nx s)))), .int 1] [] h' Q) from ?_)
                  refine c_addWheel (g := g) (en := en) (f := vl b n (qi (nx s))) (st := 1) (r := 0) (co_q co ((Fq.tr q1 q2).mono sRc_Q)) (by omega) (fun hZ qZ coZ => ?_)
                  show Go (d + 4) true 61 106 [.ref 16, .int (nI (vl b n (qi (nx s)))), .int 1] [] hZ Q
                  refine exf_go 2 (show ((1 : Int32) = 0 ∨ (1 : Int32) = 1) ∧ Q (.int 1) hZ from ⟨(by first | exact Or.inl rfl | exact Or.inr rfl | assumption), ?_⟩)
                  have eB : whB b n (nx (nx s)) = (nx (nx s)) := if_neg (by rw [K64]; decide)
                  have ea : rW2 b n (s, g, st, en, a, ah) = ((nx (nx s)), gWh g (vl b n (qi (nx s))) (1) 0, st, en, a, ah) := rW_ok (show ah = 0 by omega) (show ¬ sW g = 4 by omega) (show whA b n s = (nx (nx s)) from e2) eB (if_neg (by rw [K95]; decide)) (if_neg (by rw [K64]; decide)) (if_neg (by rw [K95]; decide)) (by omega)
                  have crZ := cr_o (cr_rc cr (Fq.tr q1 q2)) qZ ⟨rfl, rfl, rfl, rfl, rfl, rfl, rfl, rfl⟩
                  rw [ea] at k1; exact k1 _ (Fq.tr ((Fq.tr q1 q2).mono sRc_L) (qZ.mono sWl_L)) ⟨cp_o cp2 qZ (fun _ => ⟨rfl, rfl, rfl, rfl, rfl⟩) ⟨rfl, rfl, rfl, rfl, rfl⟩, coZ, fun _ => ⟨crZ.1, crZ.2⟩⟩ (show qe (nx (nx s)) = 0 by omega)
                · skip
                  exact absurd (by decide) c11
            · skip
              exact absurd (by decide) c9
        · skip
          exact absurd (ng_eq (by omega) (by decide)) c3
      · skip
        show Go (d + 4) true 61 47 [.ref 16, mk_, mk_] [.int (-1)] h3 Q
        refine exf_go 4 (show (¬ ((-1) : Int32) = (-1) → Go (d + 4) true 61 55 [.ref 16, .int (-1), mk_] [] h3 Q) ∧ (¬ (¬ ((-1) : Int32) = (-1)) → Go (d + 4) true 61 53 [.ref 16, .int (-1), mk_] [] h3 Q) from ⟨fun c12 => ?_, fun c12 => ?_⟩)
        · skip
          exact absurd c12 (by decide)
        · skip
          refine exf_go 2 (show ((0 : Int32) = 0 ∨ (0 : Int32) = 1) ∧ Q (.int 0) h3 from ⟨(by first | exact Or.inl rfl | exact Or.inr rfl | assumption), ?_⟩)
          have ea : rW2 b n (s, g, st, en, a, ah) = ((tkn b n 2 11 (nx s)), g, st, en, a, ah) := rW_no (show ah = 0 by omega) (show ¬ sW g = 4 by omega) (wh_1 hz3) hz3
          rw [ea] at k0; exact k0 _ ((Fq.tr q1 q3).mono sRc_L) ⟨cp3, (co_q co ((Fq.tr q1 q3).mono sRc_Q)), fun z => absurd z hz3⟩ hz3
    · skip
      have c2 : ¬ (sW g) < 4 := fun q => c2 ((nI_ltI (a := (sW g)) (b := 4) (by omega) (by omega)).mpr q)
      refine exf_go 3 (show wpC (d + 4) true 56 [.ref 16, .int 4] h (fun r h' => Go (d + 4) true 61 29 [.ref 16, mk_, mk_] [r] h' Q) from ?_)
      refine c_refuse (w := 4) cp (by omega) (by omega) (by omega) (fun h9 q9 cp9 => ?_)
      have hb9 := cp_b cp9
      have hz9 : ¬ qe (fl b n 4 s) = 0 := fl_ne (by omega)
      show Go (d + 4) true 61 29 [.ref 16, mk_, mk_] [.int 0] h9 Q
      refine exf_go 1 (show ((0 : Int32) = 0 ∨ (0 : Int32) = 1) ∧ Q (.int 0) h9 from ⟨(by first | exact Or.inl rfl | exact Or.inr rfl | assumption), ?_⟩)
      have ea : rW2 b n (s, g, st, en, a, ah) = ((fl b n 4 s), g, st, en, a, ah) := (if_pos (show ah = 0 by omega)).trans (if_pos (show sW g = 4 by omega))
      rw [ea] at k0; exact k0 _ (q9.mono sRc_L) ⟨cp9, (co_q co (q9.mono sRc_Q)), fun z => absurd z hz9⟩ hz9
  · skip
    have c1 : ¬ ah = 0 := fun q => c1 ((nI_eq (a := ah) (b := 0) (by omega) (by omega)).mpr q)
    refine exf_go 3 (show wpC (d + 4) true 56 [.ref 16, .int 2] h (fun r h' => Go (d + 4) true 61 12 [.ref 16, mk_, mk_] [r] h' Q) from ?_)
    refine c_refuse (w := 2) cp (by omega) (by omega) (by omega) (fun h10 q10 cp10 => ?_)
    have hb10 := cp_b cp10
    have hz10 : ¬ qe (fl b n 2 s) = 0 := fl_ne (by omega)
    show Go (d + 4) true 61 12 [.ref 16, mk_, mk_] [.int 0] h10 Q
    refine exf_go 1 (show ((0 : Int32) = 0 ∨ (0 : Int32) = 1) ∧ Q (.int 0) h10 from ⟨(by first | exact Or.inl rfl | exact Or.inr rfl | assumption), ?_⟩)
    have ea : rW2 b n (s, g, st, en, a, ah) = ((fl b n 2 s), g, st, en, a, ah) := if_neg (show ¬ ah = 0 by omega)
    rw [ea] at k0; exact k0 _ (q10.mono sRc_L) ⟨cp10, (co_q co (q10.mono sRc_Q)), fun z => absurd z hz10⟩ hz10
def sCF (a i : Nat) : Bool := Nat.beq a 28 || Nat.beq a 20 || (Nat.beq a 23 && Nat.beq i 6) || (Nat.beq a 17 && Nat.beq i 4)
def sMF (a i : Nat) : Bool := Nat.beq a 30 || (Nat.beq a 23 && Nat.beq i 13)
theorem c_readClue {d : Nat} {h : Hp} {b : Nat → Nat} {n N : Nat} {s : PsG} {Q : Po} {g : ShG} {st en : Nat → Nat} {a ah : Nat} (hg : ShW g) (hah : ah ≤ 1) (cp : CP b n N s h) (iv : IV b n 0 s) (he : qe s = 0) (hk : kd b n (qi s) = 3) (co : CO g en h) (cr : CR g a ah h) (k1 : ∀ h1, Fq sLn h h1 → CY b n N (rCl b n (s, g, st, en, a, ah)) h1 → qe (ys (rCl b n (s, g, st, en, a, ah))) = 0 → Q (.int 1) h1) (k0 : ∀ h1, Fq sLn h h1 → CY b n N (rCl b n (s, g, st, en, a, ah)) h1 → ¬ qe (ys (rCl b n (s, g, st, en, a, ah))) = 0 → Q (.int 0) h1) : wpC (d + 33) true 62 [.ref 16] h Q := by
  have hb0 := cp_b cp; have hW4 := hg.1; have hC8 := hg.2.2.2.1; have hM4 := hg.2.2.2.2.2.1
  refine go_in rfl ?_
  refine exf_go 6 (show ((1 : Int32) = 0 ∨ (1 : Int32) = 1) ∧ rN (uI h 16 3 1) 16 5 = true ∧ (Go (d + 32) true 62 12 [.ref 16, mk_] [.int (rI h 23 6)] (uI h 16 3 1) Q) from ⟨(by first | exact Or.inl rfl | exact Or.inr rfl | assumption), (cp.2.1.2.1), ?_⟩)
  rw [show (rI h 23 6 : Int32) = nI (sC g) from co.1.2.1]
  refine exf_go 2 (show ((nI (sC g)) < 8 → Go (d + 32) true 62 23 [.ref 16, mk_] [] (uI h 16 3 1) Q) ∧ (¬ ((nI (sC g)) < 8) → Go (d + 32) true 62 17 [.ref 16, mk_] [] (uI h 16 3 1) Q) from ⟨fun c1 => ?_, fun c1 => ?_⟩)
  · skip
    have c1 : (sC g) < 8 := (nI_ltI (a := (sC g)) (b := 8) (by omega) (by omega)).mp c1
    refine exf_go 3 (show Go (d + 32) true 62 28 [.ref 16, mk_] [.int (rI h 16 2), .ref 16] (uI h 16 3 1) Q from ?_)
    rw [show (rI h 16 2 : Int32) = nI (qi s) from cp.2.2.1.2.1]
    refine exf_go 2 (show Go (d + 32) true 62 30 [.ref 16, mk_] [.int ((nI (qi s)) + 1), .ref 16] (uI h 16 3 1) Q from ?_)
    rw [show ((nI (qi s)) + 1 : Int32) = nI ((qi s) + 1) from nI_add (qi s) 1]
    refine exf_go 5 (show wpC (d + 32) true 59 [.ref 16, .int 0, .int 10] (uI (uI h 16 3 1) 16 2 (nI ((qi s) + 1))) (fun r h' => Go (d + 32) true 62 40 [.ref 16, mk_] [r] h' Q) from ?_)
    have q1 : Fq sR3 h (uI h 16 3 1) := Fq.rfl'.uI' _ _ _ rfl
    have cp1 := cp_o1 cp (show Fq sO1 h (uI h 16 3 1) from Fq.rfl'.uI' _ _ _ rfl)
    have hx1 : rI (uI h 16 3 1) 16 3 = 1 := rfl
    generalize hg1 : uI h 16 3 1 = h1 at cp1 q1 hx1 ⊢
    have hb1 := cp_b cp1
    have cp2 := cp_nx cp1 (by omega) (by omega)
    have q2 : Fq sRc h1 (uI h1 16 2 (nI ((qi s) + 1))) := Fq.rfl'.uI' _ _ _ rfl
    have iv2 : IV b n 0 (nx s) := (iv_nx iv (by omega)).le (Nat.zero_le _); have hz2 := qe_nx s; have hi2 := qi_nx s
    generalize hg2 : uI h1 16 2 (nI ((qi s) + 1)) = h2 at cp2 q2 ⊢
    have hb2 := cp_b cp2
    refine c_takeN (lo := 0) (hh := 11) cp2 (by omega) (by decide) (by first | rfl | decide) (by omega) (fun e3 h3 q3 cp3 hlo3 hhi3 => ?_) (fun h4 q4 cp4 hz4 => ?_)
    · skip
      have hb3 := cp_b cp3
      have hz3 := qe_nx (nx s); have hi3 := qi_nx (nx s)
      have iv3 : IV b n 0 (nx (nx s)) := by rw [← e3]; exact (af_tkn (iv2.le (Nat.zero_le _))).1
      show Go (d + 32) true 62 40 [.ref 16, mk_] [.int (nI (vl b n (qi (nx s))))] h3 Q
      refine exf_go 4 (show ((nI (vl b n (qi (nx s)))) = (-1) → Go (d + 32) true 62 63 [.ref 16, .int (nI (vl b n (qi (nx s))))] [] h3 Q) ∧ (¬ ((nI (vl b n (qi (nx s)))) = (-1)) → Go (d + 32) true 62 46 [.ref 16, .int (nI (vl b n (qi (nx s))))] [] h3 Q) from ⟨fun c2 => ?_, fun c2 => ?_⟩)
      · skip
        exact absurd c2 (ng_eq (by omega) (by decide))
      · skip
        refine exf_go 3 (show wpC (d + 32) true 57 [.ref 16, .int 58] h3 (fun r h' => Go (d + 32) true 62 52 [.ref 16, .int (nI (vl b n (qi (nx s))))] [r] h' Q) from ?_)
        rw [ck26]
        refine c_take (kk := 26) cp3 (by omega) (by decide) (by decide) (by decide) (fun K52 h5 q5 cp5 => ?_) (fun K52 h6 q6 cp6 => ?_)
        · skip
          have K52e := isK_e K52
          have hb5 := cp_b cp5
          have hz5 := qe_nx (nx (nx s)); have hi5 := qi_nx (nx (nx s))
          have iv5 := iv_nx iv3 (by omega)
          show Go (d + 32) true 62 52 [.ref 16, .int (nI (vl b n (qi (nx s))))] [.int 1] h5 Q
          refine exf_go 1 (show ((1 : Int32) = 0 → Go (d + 32) true 62 63 [.ref 16, .int (nI (vl b n (qi (nx s))))] [] h5 Q) ∧ (¬ ((1 : Int32) = 0) → Go (d + 32) true 62 55 [.ref 16, .int (nI (vl b n (qi (nx s))))] [] h5 Q) from ⟨fun c3 => ?_, fun c3 => ?_⟩)
          · skip
            exact absurd c3 (by decide)
          · skip
            refine exf_go 3 (show wpC (d + 32) true 66 [.ref 16, .int 0] h5 (fun r h' => Go (d + 32) true 62 60 [.ref 16, .int (nI (vl b n (qi (nx s))))] [r] h' Q) from ?_)
            have gg7 := gd_trL b n (sW g) 6 _ _ iv5; have iv7 := gg7.1
            refine (c_trL hg.1 _) _ _ _ cp5 (iv5.le (Nat.zero_le _)) (by omega) ((co_q co ((Fq.tr (Fq.tr (Fq.tr q1 (q2.mono sRc_3)) (q3.mono sRc_3)) (q5.mono sRc_3)).mono sR3_Q)).1.1) (fun h7 q7 cp7 hz7 => ?_) (fun h8 q8 cp8 hz8 => ?_)
            · skip
              have hb7 := cp_b cp7
              show Go (d + 32) true 62 60 [.ref 16, .int (nI (vl b n (qi (nx s))))] [.int 1] h7 Q
              refine exf_go 1 (show (¬ (1 : Int32) = 0 → Go (d + 32) true 62 65 [.ref 16, .int (nI (vl b n (qi (nx s))))] [] h7 Q) ∧ (¬ (¬ (1 : Int32) = 0) → Go (d + 32) true 62 63 [.ref 16, .int (nI (vl b n (qi (nx s))))] [] h7 Q) from ⟨fun c4 => ?_, fun c4 => ?_⟩)
              · skip
                refine exf_go 6 (show rN h7 16 5 = true ∧ rN h7 16 5 = true ∧ (Go (d + 32) true 62 79 [.ref 16, .int (nI (vl b n (qi (nx s))))] [.int (rI h7 23 6), .ref 28] h7 Q) from ⟨(cp7.2.1.2.1), (cp7.2.1.2.1), ?_⟩)
                rw [show (rI h7 23 6 : Int32) = nI (sC g) from (co_q co ((Fq.tr (Fq.tr (Fq.tr (Fq.tr q1 (q2.mono sRc_3)) (q3.mono sRc_3)) (q5.mono sRc_3)) (q7.mono sRc_3)).mono sR3_Q)).1.2.1]
                refine exf_go 6 (show vp_in (nI (sC g)) 8 ∧ rN (uI h7 28 ((nI (sC g)).toNatClampNeg) (nI (vl b n (qi (nx s))))) 16 5 = true ∧ (Go (d + 32) true 62 89 [.ref 16, .int (nI (vl b n (qi (nx s))))] [.int (rI h7 23 6), .ref 23] (uI h7 28 ((nI (sC g)).toNatClampNeg) (nI (vl b n (qi (nx s))))) Q) from ⟨(vp_in_nI (by omega) (by omega)), (cp7.2.1.2.1), ?_⟩)
                rw [show (rI h7 23 6 : Int32) = nI (sC g) from (co_q co ((Fq.tr (Fq.tr (Fq.tr (Fq.tr q1 (q2.mono sRc_3)) (q3.mono sRc_3)) (q5.mono sRc_3)) (q7.mono sRc_3)).mono sR3_Q)).1.2.1]
                refine exf_go 2 (show Go (d + 32) true 62 91 [.ref 16, .int (nI (vl b n (qi (nx s))))] [.int ((nI (sC g)) + 1), .ref 23] (uI h7 28 ((nI (sC g)).toNatClampNeg) (nI (vl b n (qi (nx s))))) Q from ?_)
                rw [show ((nI (sC g)) + 1 : Int32) = nI ((sC g) + 1) from nI_add (sC g) 1]
                refine exf_go 4 (show rN (uI (uI h7 28 ((nI (sC g)).toNatClampNeg) (nI (vl b n (qi (nx s))))) 23 6 (nI ((sC g) + 1))) 16 6 = true ∧ (wpC (d + 32) true 4 [.ref 17] (uI (uI h7 28 ((nI (sC g)).toNatClampNeg) (nI (vl b n (qi (nx s))))) 23 6 (nI ((sC g) + 1))) (fun _ h' => Go (d + 32) true 62 101 [.ref 16, .int (nI (vl b n (qi (nx s))))] [] h' Q)) from ⟨(cp7.2.1.2.2), ?_⟩)
                refine c_endClue (c := sC g) (q := qn (trL b n (sW g) 6 (nx (nx (nx s))))) (show rI h7 17 4 = _ from (co_q co ((Fq.tr (Fq.tr (Fq.tr (Fq.tr q1 (q2.mono sRc_3)) (q3.mono sRc_3)) (q5.mono sRc_3)) (q7.mono sRc_3)).mono sR3_Q)).1.2.2.2) (show rI h7 17 2 = _ from cp7.2.2.2.1) (by omega) ?_
                show Go (d + 32) true 62 101 [.ref 16, .int (nI (vl b n (qi (nx s))))] [] (uI (uI (uI (uI h7 28 ((nI (sC g)).toNatClampNeg) (nI (vl b n (qi (nx s))))) 23 6 (nI ((sC g) + 1))) 20 (sC g) (nI (qn (trL b n (sW g) 6 (nx (nx (nx s))))))) 17 4 (nI (sC g + 1))) Q
                refine exf_go 2 (show ((1 : Int32) = 0 ∨ (1 : Int32) = 1) ∧ Q (.int 1) (uI (uI (uI (uI h7 28 ((nI (sC g)).toNatClampNeg) (nI (vl b n (qi (nx s))))) 23 6 (nI ((sC g) + 1))) 20 (sC g) (nI (qn (trL b n (sW g) 6 (nx (nx (nx s))))))) 17 4 (nI (sC g + 1))) from ⟨(by first | exact Or.inl rfl | exact Or.inr rfl | assumption), ?_⟩)
                have hcl : (nI (sC g)).toNatClampNeg = sC g := nI_clamp (by omega)
                rw [hcl]
                have ea : rCl b n (s, g, st, en, a, ah) = ((trL b n (sW g) 6 (nx (nx (nx s)))), gCl g (vl b n (qi s + 1)), va_up st (sC g) (qn s), va_up en (sC g) (qn (trL b n (sW g) 6 (nx (nx (nx s))))), a, 1) := rC_ok (show ¬ sC g = 8 by omega) (cl_3 e3 K52) hz7
                have coX := (co_q co ((Fq.tr (Fq.tr (Fq.tr (Fq.tr q1 (q2.mono sRc_3)) (q3.mono sRc_3)) (q5.mono sRc_3)) (q7.mono sRc_3)).mono sR3_Q))
                have qF : Fq sLn h7 (uI (uI (uI (uI h7 28 ((sC g)) (nI (vl b n (qi (nx s))))) 23 6 (nI ((sC g) + 1))) 20 (sC g) (nI (qn (trL b n (sW g) 6 (nx (nx (nx s))))))) 17 4 (nI (sC g + 1))) := (((Fq.rfl'.uI' _ _ _ rfl).uI' _ _ _ rfl).uI' _ _ _ rfl).uI' _ _ _ rfl
                have qC : Fq sCF h7 (uI (uI (uI (uI h7 28 ((sC g)) (nI (vl b n (qi (nx s))))) 23 6 (nI ((sC g) + 1))) 20 (sC g) (nI (qn (trL b n (sW g) 6 (nx (nx (nx s))))))) 17 4 (nI (sC g + 1))) := (((Fq.rfl'.uI' _ _ _ rfl).uI' _ _ _ rfl).uI' _ _ _ rfl).uI' _ _ _ rfl
                have crX := cr_3 (x := 1) cr (Fq.tr (Fq.tr (Fq.tr (Fq.tr q1 (q2.mono sRc_3)) (q3.mono sRc_3)) (q5.mono sRc_3)) (q7.mono sRc_3)) ((q7.1 16 3 rfl).1.trans ((q5.1 16 3 rfl).1.trans ((q3.1 16 3 rfl).1.trans ((q2.1 16 3 rfl).1.trans hx1))))
                have crZ := cr_o crX qC ⟨rfl, rfl, rfl, rfl, rfl, rfl, rfl, rfl⟩
                rw [ea] at k1; refine k1 _ (Fq.tr ((Fq.tr (Fq.tr (Fq.tr (Fq.tr q1 (q2.mono sRc_3)) (q3.mono sRc_3)) (q5.mono sRc_3)) (q7.mono sRc_3)).mono sR3_L) qF) ⟨cp_o cp7 qC (fun _ => ⟨rfl, rfl, rfl, rfl, rfl⟩) ⟨rfl, rfl, rfl, rfl, rfl⟩, ⟨⟨coX.1.1, rfl, coX.1.2.2.1, rfl⟩, fun w hw => coX.2.1 w hw, fun c hc => ?_, fun m hm => coX.2.2.2 m hm⟩, fun _ => ⟨crZ.1, crZ.2⟩⟩ hz7
                have hc : c < sC g + 1 := hc
                show _ = nI (va_up (sT g) (sC g) (vl b n (qi s + 1)) c) ∧ _ = nI (va_up en (sC g) (qn (trL b n (sW g) 6 (nx (nx (nx s))))) c)
                by_cases e : c = sC g
                · rw [e, va_up_s, va_up_s]; exact ⟨rI_uI_eq (a := 28), rI_uI_eq (a := 20)⟩
                · rw [va_up_n e, va_up_n e]; exact ⟨(rI_uI_at (a := 28) e).trans (coX.2.2.1 c (by omega)).1, (rI_uI_at (a := 20) e).trans (coX.2.2.1 c (by omega)).2⟩
              · skip
                exact absurd (by decide) c4
            · skip
              show Go (d + 32) true 62 60 [.ref 16, .int (nI (vl b n (qi (nx s))))] [.int 0] h8 Q
              refine exf_go 1 (show (¬ (0 : Int32) = 0 → Go (d + 32) true 62 65 [.ref 16, .int (nI (vl b n (qi (nx s))))] [] h8 Q) ∧ (¬ (¬ (0 : Int32) = 0) → Go (d + 32) true 62 63 [.ref 16, .int (nI (vl b n (qi (nx s))))] [] h8 Q) from ⟨fun c5 => ?_, fun c5 => ?_⟩)
              · skip
                exact absurd c5 (by decide)
              · skip
                refine exf_go 2 (show ((0 : Int32) = 0 ∨ (0 : Int32) = 1) ∧ Q (.int 0) h8 from ⟨(by first | exact Or.inl rfl | exact Or.inr rfl | assumption), ?_⟩)
                have ea : rCl b n (s, g, st, en, a, ah) = ((trL b n (sW g) 6 (nx (nx (nx s)))), g, st, en, a, ah) := rC_no (show ¬ sC g = 8 by omega) (cl_3 e3 K52) hz8
                rw [ea] at k0; exact k0 _ ((Fq.tr (Fq.tr (Fq.tr (Fq.tr q1 (q2.mono sRc_3)) (q3.mono sRc_3)) (q5.mono sRc_3)) (q8.mono sRc_3)).mono sR3_L) ⟨cp8, (co_q co ((Fq.tr (Fq.tr (Fq.tr (Fq.tr q1 (q2.mono sRc_3)) (q3.mono sRc_3)) (q5.mono sRc_3)) (q8.mono sRc_3)).mono sR3_Q)), fun z => absurd z hz8⟩ hz8
        · skip
          have hz6 : ¬ qe (fl b n 2 (nx (nx s))) = 0 := fl_ne (by decide)
          show Go (d + 32) true 62 52 [.ref 16, .int (nI (vl b n (qi (nx s))))] [.int 0] h6 Q
          refine exf_go 1 (show ((0 : Int32) = 0 → Go (d + 32) true 62 63 [.ref 16, .int (nI (vl b n (qi (nx s))))] [] h6 Q) ∧ (¬ ((0 : Int32) = 0) → Go (d + 32) true 62 55 [.ref 16, .int (nI (vl b n (qi (nx s))))] [] h6 Q) from ⟨fun c6 => ?_, fun c6 => ?_⟩)
          · skip
            refine exf_go 2 (show ((0 : Int32) = 0 ∨ (0 : Int32) = 1) ∧ Q (.int 0) h6 from ⟨(by first | exact Or.inl rfl | exact Or.inr rfl | assumption), ?_⟩)
            have ea : rCl b n (s, g, st, en, a, ah) = ((fl b n 2 (nx (nx s))), g, st, en, a, ah) := rC_no (show ¬ sC g = 8 by omega) (cl_2 e3 iv3 K52) hz6
            rw [ea] at k0; exact k0 _ ((Fq.tr (Fq.tr (Fq.tr q1 (q2.mono sRc_3)) (q3.mono sRc_3)) (q6.mono sRc_3)).mono sR3_L) ⟨cp6, (co_q co ((Fq.tr (Fq.tr (Fq.tr q1 (q2.mono sRc_3)) (q3.mono sRc_3)) (q6.mono sRc_3)).mono sR3_Q)), fun z => absurd z hz6⟩ hz6
          · skip
            exact absurd (by decide) c6
    · skip
      show Go (d + 32) true 62 40 [.ref 16, mk_] [.int (-1)] h4 Q
      refine exf_go 4 (show (((-1) : Int32) = (-1) → Go (d + 32) true 62 63 [.ref 16, .int (-1)] [] h4 Q) ∧ (¬ (((-1) : Int32) = (-1)) → Go (d + 32) true 62 46 [.ref 16, .int (-1)] [] h4 Q) from ⟨fun c7 => ?_, fun c7 => ?_⟩)
      · skip
        refine exf_go 2 (show ((0 : Int32) = 0 ∨ (0 : Int32) = 1) ∧ Q (.int 0) h4 from ⟨(by first | exact Or.inl rfl | exact Or.inr rfl | assumption), ?_⟩)
        have ea : rCl b n (s, g, st, en, a, ah) = ((tkn b n 0 11 (nx s)), g, st, en, a, ah) := rC_no (show ¬ sC g = 8 by omega) (cl_1 ((iv_nx iv (by omega)).le (Nat.zero_le _)) hz4) hz4
        rw [ea] at k0; exact k0 _ ((Fq.tr (Fq.tr q1 (q2.mono sRc_3)) (q4.mono sRc_3)).mono sR3_L) ⟨cp4, (co_q co ((Fq.tr (Fq.tr q1 (q2.mono sRc_3)) (q4.mono sRc_3)).mono sR3_Q)), fun z => absurd z hz4⟩ hz4
      · skip
        exact absurd (by decide) c7
  · skip
    have c1 : ¬ (sC g) < 8 := fun q => c1 ((nI_ltI (a := (sC g)) (b := 8) (by omega) (by omega)).mpr q)
    refine exf_go 3 (show wpC (d + 32) true 56 [.ref 16, .int 4] (uI h 16 3 1) (fun r h' => Go (d + 32) true 62 22 [.ref 16, mk_] [r] h' Q) from ?_)
    have q9 : Fq sR3 h (uI h 16 3 1) := Fq.rfl'.uI' _ _ _ rfl
    have cp9 := cp_o1 cp (show Fq sO1 h (uI h 16 3 1) from Fq.rfl'.uI' _ _ _ rfl)
    have hx9 : rI (uI h 16 3 1) 16 3 = 1 := rfl
    generalize hg9 : uI h 16 3 1 = h9 at cp9 q9 hx9 ⊢
    have hb9 := cp_b cp9
    refine c_refuse (w := 4) cp9 (by omega) (by omega) (by omega) (fun h10 q10 cp10 => ?_)
    have hb10 := cp_b cp10
    have hz10 : ¬ qe (fl b n 4 s) = 0 := fl_ne (by omega)
    show Go (d + 32) true 62 22 [.ref 16, mk_] [.int 0] h10 Q
    refine exf_go 1 (show ((0 : Int32) = 0 ∨ (0 : Int32) = 1) ∧ Q (.int 0) h10 from ⟨(by first | exact Or.inl rfl | exact Or.inr rfl | assumption), ?_⟩)
    have ea : rCl b n (s, g, st, en, a, ah) = ((fl b n 4 s), g, st, en, a, ah) := if_pos (show sC g = 8 by omega)
    rw [ea] at k0; exact k0 _ ((Fq.tr q9 (q10.mono sRc_3)).mono sR3_L) ⟨cp10, (co_q co ((Fq.tr q9 (q10.mono sRc_3)).mono sR3_Q)), fun z => absurd z hz10⟩ hz10
theorem c_readMate {d : Nat} {h : Hp} {b : Nat → Nat} {n N : Nat} {s : PsG} {Q : Po} {g : ShG} {st en : Nat → Nat} {a ah : Nat} (hg : ShW g) (hah : ah ≤ 1) (cp : CP b n N s h) (iv : IV b n 0 s) (he : qe s = 0) (hk : kd b n (qi s) = 7) (co : CO g en h) (cr : CR g a ah h) (k1 : ∀ h1, Fq sLn h h1 → CY b n N (rMt b n (s, g, st, en, a, ah)) h1 → qe (ys (rMt b n (s, g, st, en, a, ah))) = 0 → Q (.int 1) h1) (k0 : ∀ h1, Fq sLn h h1 → CY b n N (rMt b n (s, g, st, en, a, ah)) h1 → ¬ qe (ys (rMt b n (s, g, st, en, a, ah))) = 0 → Q (.int 0) h1) : wpC (d + 5) true 64 [.ref 16] h Q := by
  have hb0 := cp_b cp; have hW4 := hg.1; have hC8 := hg.2.2.2.1; have hM4 := hg.2.2.2.2.2.1
  refine go_in rfl ?_
  refine exf_go 3 (show rN h 16 5 = true ∧ (Go (d + 4) true 64 7 [.ref 16, mk_, mk_, mk_] [.int (rI h 23 13)] h Q) from ⟨(cp.2.1.2.1), ?_⟩)
  rw [show (rI h 23 13 : Int32) = nI (sM g) from co.1.2.2.1]
  refine exf_go 2 (show ((nI (sM g)) < 4 → Go (d + 4) true 64 17 [.ref 16, mk_, mk_, mk_] [] h Q) ∧ (¬ ((nI (sM g)) < 4) → Go (d + 4) true 64 11 [.ref 16, mk_, mk_, mk_] [] h Q) from ⟨fun c1 => ?_, fun c1 => ?_⟩)
  · skip
    have c1 : (sM g) < 4 := (nI_ltI (a := (sM g)) (b := 4) (by omega) (by omega)).mp c1
    refine exf_go 3 (show Go (d + 4) true 64 22 [.ref 16, mk_, mk_, mk_] [.int (rI h 16 2), .ref 16] h Q from ?_)
    rw [show (rI h 16 2 : Int32) = nI (qi s) from cp.2.2.1.2.1]
    refine exf_go 2 (show Go (d + 4) true 64 24 [.ref 16, mk_, mk_, mk_] [.int ((nI (qi s)) + 1), .ref 16] h Q from ?_)
    rw [show ((nI (qi s)) + 1 : Int32) = nI ((qi s) + 1) from nI_add (qi s) 1]
    refine exf_go 5 (show Go (d + 4) true 64 31 [.ref 16, .int 0, .int 0, mk_] [] (uI h 16 2 (nI ((qi s) + 1))) Q from ?_)
    have L31 : ∀ (k31 : Nat) (z3 : Value) (j x : Nat) (s1 : PsG) (hL : Hp), (900 - j) < k31 → (j ≤ 900) → (Fq sRc h hL) → (CP b n N s1 hL) → (IV b n 0 s1) → (qe s1 = 0) → (mtA b n g s = mtL b n (sC g) (900 - j) s1 x) → Go (d + 4) true 64 31 [.ref 16, .int (nI x), .int (nI j), z3] [] hL Q := by
      intro k31
      induction k31 with
      | zero => intro z3 j x s1 hL hk; exact absurd hk (Nat.not_lt_zero _)
      | succ k31 ih31 =>
        intro z3 j x s1 hL hk hj qL cpL ivL heL hwh
        have hbL := cp_b cpL
        refine exf_go 3 (show (900 ≤ (nI j) → Go (d + 4) true 64 80 [.ref 16, .int (nI x), .int (nI j), z3] [] hL Q) ∧ (¬ (900 ≤ (nI j)) → Go (d + 4) true 64 38 [.ref 16, .int (nI x), .int (nI j), z3] [] hL Q) from ⟨fun c2 => ?_, fun c2 => ?_⟩)
        · skip
          have c2 : 900 ≤ j := (nI_leI (a := 900) (b := j) (by omega) (by omega)).mp c2
          refine exf_go 6 (show rN hL 16 5 = true ∧ rN hL 16 5 = true ∧ (Go (d + 4) true 64 94 [.ref 16, .int (nI x), .int (nI j), z3] [.int (rI hL 23 13), .ref 30] hL Q) from ⟨(cpL.2.1.2.1), (cpL.2.1.2.1), ?_⟩)
          rw [show (rI hL 23 13 : Int32) = nI (sM g) from (co_q co (qL.mono sRc_Q)).1.2.2.1]
          refine exf_go 6 (show vp_in (nI (sM g)) 4 ∧ rN (uI hL 30 ((nI (sM g)).toNatClampNeg) (nI x)) 16 5 = true ∧ (Go (d + 4) true 64 104 [.ref 16, .int (nI x), .int (nI j), z3] [.int (rI hL 23 13), .ref 23] (uI hL 30 ((nI (sM g)).toNatClampNeg) (nI x)) Q) from ⟨(vp_in_nI (by omega) (by omega)), (cpL.2.1.2.1), ?_⟩)
          rw [show (rI hL 23 13 : Int32) = nI (sM g) from (co_q co (qL.mono sRc_Q)).1.2.2.1]
          refine exf_go 2 (show Go (d + 4) true 64 106 [.ref 16, .int (nI x), .int (nI j), z3] [.int ((nI (sM g)) + 1), .ref 23] (uI hL 30 ((nI (sM g)).toNatClampNeg) (nI x)) Q from ?_)
          rw [show ((nI (sM g)) + 1 : Int32) = nI ((sM g) + 1) from nI_add (sM g) 1]
          refine exf_go 3 (show ((1 : Int32) = 0 ∨ (1 : Int32) = 1) ∧ Q (.int 1) (uI (uI hL 30 ((nI (sM g)).toNatClampNeg) (nI x)) 23 13 (nI ((sM g) + 1))) from ⟨(by first | exact Or.inl rfl | exact Or.inr rfl | assumption), ?_⟩)
          have hcl : (nI (sM g)).toNatClampNeg = sM g := nI_clamp (by omega)
          rw [hcl]
          have ea : rMt b n (s, g, st, en, a, ah) = (s1, gMt g x, st, en, a, ah) := rM_ok (show ¬ sM g = 4 by omega) (hwh.trans (mt_n (by omega))) heL
          have coX := (co_q co (qL.mono sRc_Q))
          have qF : Fq sLn hL (uI (uI hL 30 ((sM g)) (nI x)) 23 13 (nI ((sM g) + 1))) := (Fq.rfl'.uI' _ _ _ rfl).uI' _ _ _ rfl
          have qC : Fq sMF hL (uI (uI hL 30 ((sM g)) (nI x)) 23 13 (nI ((sM g) + 1))) := (Fq.rfl'.uI' _ _ _ rfl).uI' _ _ _ rfl
          have crZ := cr_o (cr_rc cr qL) qC ⟨rfl, rfl, rfl, rfl, rfl, rfl, rfl, rfl⟩
          rw [ea] at k1; refine k1 _ (Fq.tr (qL.mono sRc_L) qF) ⟨cp_o cpL qC (fun _ => ⟨rfl, rfl, rfl, rfl, rfl⟩) ⟨rfl, rfl, rfl, rfl, rfl⟩, ⟨⟨coX.1.1, coX.1.2.1, rfl, coX.1.2.2.2⟩, fun w hw => coX.2.1 w hw, fun c hc => coX.2.2.1 c hc, fun m hm => ?_⟩, fun _ => ⟨crZ.1, crZ.2⟩⟩ heL
          have hm : m < sM g + 1 := hm
          show _ = nI (va_up (sK g) (sM g) x m)
          by_cases e : m = sM g
          · rw [e, va_up_s]; exact rI_uI_eq (a := 30)
          · rw [va_up_n e]; exact (rI_uI_at (a := 30) e).trans (coX.2.2.2 m (by omega))
        · skip
          have c2 : ¬ 900 ≤ j := fun q => c2 ((nI_leI (a := 900) (b := j) (by omega) (by omega)).mpr q)
          refine exf_go 2 (show wpC (d + 4) true 55 [.ref 16] hL (fun r h' => Go (d + 4) true 64 42 [.ref 16, .int (nI x), .int (nI j), z3] [r] h' Q) from ?_)
          refine c_kind cpL ?_
          show Go (d + 4) true 64 42 [.ref 16, .int (nI x), .int (nI j), z3] [.int (nI (ckd (kd b n (qi s1))))] hL Q
          refine exf_go 2 (show (¬ (nI (ckd (kd b n (qi s1)))) = 2 → Go (d + 4) true 64 80 [.ref 16, .int (nI x), .int (nI j), z3] [] hL Q) ∧ (¬ (¬ (nI (ckd (kd b n (qi s1)))) = 2) → Go (d + 4) true 64 46 [.ref 16, .int (nI x), .int (nI j), z3] [] hL Q) from ⟨fun c3 => ?_, fun c3 => ?_⟩)
          · skip
            have c3 : ¬ (ckd (kd b n (qi s1))) = 2 := fun q => c3 ((nI_eq (a := (ckd (kd b n (qi s1)))) (b := 2) (by omega) (by omega)).mpr q)
            have c3 : ¬ kd b n (qi s1) = 21 := fun z => absurd (show ckd (kd b n (qi s1)) = 2 from by rw [z]; rfl) (by omega)
            refine exf_go 6 (show rN hL 16 5 = true ∧ rN hL 16 5 = true ∧ (Go (d + 4) true 64 94 [.ref 16, .int (nI x), .int (nI j), z3] [.int (rI hL 23 13), .ref 30] hL Q) from ⟨(cpL.2.1.2.1), (cpL.2.1.2.1), ?_⟩)
            rw [show (rI hL 23 13 : Int32) = nI (sM g) from (co_q co (qL.mono sRc_Q)).1.2.2.1]
            refine exf_go 6 (show vp_in (nI (sM g)) 4 ∧ rN (uI hL 30 ((nI (sM g)).toNatClampNeg) (nI x)) 16 5 = true ∧ (Go (d + 4) true 64 104 [.ref 16, .int (nI x), .int (nI j), z3] [.int (rI hL 23 13), .ref 23] (uI hL 30 ((nI (sM g)).toNatClampNeg) (nI x)) Q) from ⟨(vp_in_nI (by omega) (by omega)), (cpL.2.1.2.1), ?_⟩)
            rw [show (rI hL 23 13 : Int32) = nI (sM g) from (co_q co (qL.mono sRc_Q)).1.2.2.1]
            refine exf_go 2 (show Go (d + 4) true 64 106 [.ref 16, .int (nI x), .int (nI j), z3] [.int ((nI (sM g)) + 1), .ref 23] (uI hL 30 ((nI (sM g)).toNatClampNeg) (nI x)) Q from ?_)
            rw [show ((nI (sM g)) + 1 : Int32) = nI ((sM g) + 1) from nI_add (sM g) 1]
            refine exf_go 3 (show ((1 : Int32) = 0 ∨ (1 : Int32) = 1) ∧ Q (.int 1) (uI (uI hL 30 ((nI (sM g)).toNatClampNeg) (nI x)) 23 13 (nI ((sM g) + 1))) from ⟨(by first | exact Or.inl rfl | exact Or.inr rfl | assumption), ?_⟩)
            have hcl : (nI (sM g)).toNatClampNeg = sM g := nI_clamp (by omega)
            rw [hcl]
            have ea : rMt b n (s, g, st, en, a, ah) = (s1, gMt g x, st, en, a, ah) := rM_ok (show ¬ sM g = 4 by omega) (hwh.trans (mt_n (by omega))) heL
            have coX := (co_q co (qL.mono sRc_Q))
            have qF : Fq sLn hL (uI (uI hL 30 ((sM g)) (nI x)) 23 13 (nI ((sM g) + 1))) := (Fq.rfl'.uI' _ _ _ rfl).uI' _ _ _ rfl
            have qC : Fq sMF hL (uI (uI hL 30 ((sM g)) (nI x)) 23 13 (nI ((sM g) + 1))) := (Fq.rfl'.uI' _ _ _ rfl).uI' _ _ _ rfl
            have crZ := cr_o (cr_rc cr qL) qC ⟨rfl, rfl, rfl, rfl, rfl, rfl, rfl, rfl⟩
            rw [ea] at k1; refine k1 _ (Fq.tr (qL.mono sRc_L) qF) ⟨cp_o cpL qC (fun _ => ⟨rfl, rfl, rfl, rfl, rfl⟩) ⟨rfl, rfl, rfl, rfl, rfl⟩, ⟨⟨coX.1.1, coX.1.2.1, rfl, coX.1.2.2.2⟩, fun w hw => coX.2.1 w hw, fun c hc => coX.2.2.1 c hc, fun m hm => ?_⟩, fun _ => ⟨crZ.1, crZ.2⟩⟩ heL
            have hm : m < sM g + 1 := hm
            show _ = nI (va_up (sK g) (sM g) x m)
            by_cases e : m = sM g
            · rw [e, va_up_s]; exact rI_uI_eq (a := 30)
            · rw [va_up_n e]; exact (rI_uI_at (a := 30) e).trans (coX.2.2.2 m (by omega))
          · skip
            have c3 : (ckd (kd b n (qi s1))) = 2 := (nI_eq (a := (ckd (kd b n (qi s1)))) (b := 2) (by omega) (by omega)).mp (Classical.not_not.mp c3)
            have c3 : kd b n (qi s1) = 21 := (ckd_inj _ (by omega) 21 (by decide)).mp (show _ = 2 from by omega)
            refine exf_go 5 (show rN hL 16 5 = true ∧ (Go (d + 4) true 64 55 [.ref 16, .int (nI x), .int (nI j), z3] [.int (rI hL 23 6), .int 0, .ref 16] hL Q) from ⟨(cpL.2.1.2.1), ?_⟩)
            rw [show (rI hL 23 6 : Int32) = nI (sC g) from (co_q co (qL.mono sRc_Q)).1.2.1]
            refine exf_go 3 (show wpC (d + 4) true 59 [.ref 16, .int 0, .int ((nI (sC g)) - 1)] hL (fun r h' => Go (d + 4) true 64 60 [.ref 16, .int (nI x), .int (nI j), z3] [r] h' Q) from ?_)
            refine c_takeN (lo := 0) (hh := sC g) cpL (by omega) (by decide) rfl (by omega) (fun e1 h1 q1 cp1 hlo1 hhi1 => ?_) (fun h2 q2 cp2 hz2 => ?_)
            · skip
              have hb1 := cp_b cp1
              have hz1 := qe_nx s1; have hi1 := qi_nx s1
              have iv1 : IV b n 0 (nx s1) := by rw [← e1]; exact (af_tkn (ivL.le (Nat.zero_le _))).1
              show Go (d + 4) true 64 60 [.ref 16, .int (nI x), .int (nI j), z3] [.int (nI (vl b n (qi s1)))] h1 Q
              refine exf_go 4 (show (¬ (nI (vl b n (qi s1))) = (-1) → Go (d + 4) true 64 68 [.ref 16, .int (nI x), .int (nI j), .int (nI (vl b n (qi s1)))] [] h1 Q) ∧ (¬ (¬ (nI (vl b n (qi s1))) = (-1)) → Go (d + 4) true 64 66 [.ref 16, .int (nI x), .int (nI j), .int (nI (vl b n (qi s1)))] [] h1 Q) from ⟨fun c4 => ?_, fun c4 => ?_⟩)
              · skip
                refine exf_go 4 (show Go (d + 4) true 64 72 [.ref 16, .int (nI x), .int (nI j), .int (nI (vl b n (qi s1)))] [.int (1 <<< ((nI (vl b n (qi s1))) &&& 31)), .int (nI x)] h1 Q from ?_)
                rw [show (1 <<< ((nI (vl b n (qi s1))) &&& 31) : Int32) = nI (2 ^ (vl b n (qi s1))) from nI_1shl (k := (vl b n (qi s1))) (by omega)]
                refine exf_go 1 (show Go (d + 4) true 64 73 [.ref 16, .int (nI x), .int (nI j), .int (nI (vl b n (qi s1)))] [.int ((nI x) ||| (nI (2 ^ (vl b n (qi s1)))))] h1 Q from ?_)
                rw [show ((nI x) ||| (nI (2 ^ (vl b n (qi s1)))) : Int32) = nI (x ||| (2 ^ (vl b n (qi s1)))) from nI_or x (2 ^ (vl b n (qi s1)))]
                refine exf_go 2 (show Go (d + 4) true 64 77 [.ref 16, .int (nI (x ||| (2 ^ (vl b n (qi s1))))), .int ((nI j) + 1), .int (nI (vl b n (qi s1)))] [] h1 Q from ?_)
                rw [show ((nI j) + 1 : Int32) = nI (j + 1) from nI_add j 1]
                refine exf_go 1 (show Go (d + 4) true 64 31 [.ref 16, .int (nI (x ||| (2 ^ (vl b n (qi s1))))), .int (nI (j + 1)), .int (nI (vl b n (qi s1)))] [] h1 Q from ?_)
                exact ih31 (.int (nI (vl b n (qi s1)))) (j + 1) _ _ h1 (by omega) (by omega) (Fq.tr qL q1) cp1 iv1 (by omega) (by rw [hwh]; exact mt_y (by omega) heL (by omega) e1)
              · skip
                exact absurd (ng_eq (by omega) (by decide)) c4
            · skip
              show Go (d + 4) true 64 60 [.ref 16, .int (nI x), .int (nI j), z3] [.int (-1)] h2 Q
              refine exf_go 4 (show (¬ ((-1) : Int32) = (-1) → Go (d + 4) true 64 68 [.ref 16, .int (nI x), .int (nI j), .int (-1)] [] h2 Q) ∧ (¬ (¬ ((-1) : Int32) = (-1)) → Go (d + 4) true 64 66 [.ref 16, .int (nI x), .int (nI j), .int (-1)] [] h2 Q) from ⟨fun c5 => ?_, fun c5 => ?_⟩)
              · skip
                exact absurd c5 (by decide)
              · skip
                refine exf_go 2 (show ((0 : Int32) = 0 ∨ (0 : Int32) = 1) ∧ Q (.int 0) h2 from ⟨(by first | exact Or.inl rfl | exact Or.inr rfl | assumption), ?_⟩)
                have ea : rMt b n (s, g, st, en, a, ah) = ((tkn b n 0 (sC g) s1), g, st, en, a, ah) := rM_no (show ¬ sM g = 4 by omega) (hwh.trans (mt_f (by omega) heL (by omega) hz2)) hz2
                rw [ea] at k0; exact k0 _ ((Fq.tr qL q2).mono sRc_L) ⟨cp2, (co_q co ((Fq.tr qL q2).mono sRc_Q)), fun z => absurd z hz2⟩ hz2
    have cp3 := cp_nx cp (by omega) (by omega)
    have q3 : Fq sRc h (uI h 16 2 (nI ((qi s) + 1))) := Fq.rfl'.uI' _ _ _ rfl
    have iv3 : IV b n 0 (nx s) := (iv_nx iv (by omega)).le (Nat.zero_le _); have hz3 := qe_nx s; have hi3 := qi_nx s
    generalize hg3 : uI h 16 2 (nI ((qi s) + 1)) = h3 at cp3 q3 ⊢
    have hb3 := cp_b cp3
    exact L31 (900 + 1) mk_ 0 0 _ h3 (by omega) (by omega) q3 cp3 iv3 (by omega) rfl
  · skip
    have c1 : ¬ (sM g) < 4 := fun q => c1 ((nI_ltI (a := (sM g)) (b := 4) (by omega) (by omega)).mpr q)
    refine exf_go 3 (show wpC (d + 4) true 56 [.ref 16, .int 4] h (fun r h' => Go (d + 4) true 64 16 [.ref 16, mk_, mk_, mk_] [r] h' Q) from ?_)
    refine c_refuse (w := 4) cp (by omega) (by omega) (by omega) (fun h4 q4 cp4 => ?_)
    have hb4 := cp_b cp4
    have hz4 : ¬ qe (fl b n 4 s) = 0 := fl_ne (by omega)
    show Go (d + 4) true 64 16 [.ref 16, mk_, mk_, mk_] [.int 0] h4 Q
    refine exf_go 1 (show ((0 : Int32) = 0 ∨ (0 : Int32) = 1) ∧ Q (.int 0) h4 from ⟨(by first | exact Or.inl rfl | exact Or.inr rfl | assumption), ?_⟩)
    have ea : rMt b n (s, g, st, en, a, ah) = ((fl b n 4 s), g, st, en, a, ah) := if_pos (show sM g = 4 by omega)
    rw [ea] at k0; exact k0 _ (q4.mono sRc_L) ⟨cp4, (co_q co (q4.mono sRc_Q)), fun z => absurd z hz4⟩ hz4
