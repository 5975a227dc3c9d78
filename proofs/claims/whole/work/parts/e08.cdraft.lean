/-! The class: the draft of a shed. -/
def CO (g : ShG) (en : Nat → Nat) (h : Hp) : Prop := (rI h 23 0 = nI (sW g) ∧ rI h 23 6 = nI (sC g) ∧ rI h 23 13 = nI (sM g) ∧ rI h 17 4 = nI (sC g)) ∧ (∀ w, w < 4 → rI h 24 w = nI (sF g w) ∧ rI h 25 w = nI (sS g w) ∧ rI h 26 w = nI (sR g w)) ∧ (∀ c, c < sC g → rI h 28 c = nI (sT g c) ∧ rI h 20 c = nI (en c)) ∧ ∀ m, m < sM g → rI h 30 m = nI (sK g m)
def CR (g : ShG) (a ah : Nat) (h : Hp) : Prop := (rI h 23 9 = nI (sP g) ∧ rI h 23 10 = nI (sBA g) ∧ rI h 23 11 = nI (sBS g) ∧ rI h 23 12 = nI (sSw g)) ∧ rI h 23 15 = oI (sO g) ∧ rI h 23 16 = nI a ∧ rI h 23 17 = nI (sL g) ∧ rI h 16 3 = nI ah
def CY (b : Nat → Nat) (n N : Nat) (y : LnG) (h : Hp) : Prop := CP b n N (ys y) h ∧ CO (yg y) (ye y) h ∧ (qe (ys y) = 0 → CR (yg y) (ya y) (yh y) h)
def sLn (a i : Nat) : Bool := sRc a i || (Nat.ble 23 a && Nat.ble a 30) || Nat.beq a 20 || (Nat.beq a 17 && Nat.beq i 4) || (Nat.beq a 16 && Nat.beq i 3)
/-- what a line writes ahead of its end -/
def sQ (a i : Nat) : Bool := sRc a i || (Nat.beq a 23 && Nat.ble 9 i && Nat.ble i 12) || (Nat.beq a 23 && Nat.ble 15 i && Nat.ble i 17) || (Nat.beq a 16 && Nat.beq i 3)
def sO1 (a i : Nat) : Bool := (Nat.beq a 23 && Nat.ble 9 i && Nat.ble i 12) || (Nat.beq a 23 && Nat.ble 15 i && Nat.ble i 17) || (Nat.beq a 16 && Nat.beq i 3)
theorem sRc_L (a i : Nat) (e : sLn a i = false) : sRc a i = false := by
  unfold sLn at e
  simp only [Bool.or_eq_false_iff] at e
  exact e.1.1.1.1
theorem sRc_Q (a i : Nat) (e : sQ a i = false) : sRc a i = false := by
  unfold sQ at e
  simp only [Bool.or_eq_false_iff] at e
  exact e.1.1.1
theorem sO1_Q (a i : Nat) (e : sQ a i = false) : sO1 a i = false := by
  unfold sQ at e
  unfold sO1
  simp only [Bool.or_eq_false_iff] at e ⊢
  exact ⟨⟨e.1.1.2, e.1.2⟩, e.2⟩
theorem sLn_23 (i : Nat) : sLn 23 i = true := by
  unfold sLn sRc
  rfl
theorem sQ_L (a i : Nat) (e : sLn a i = false) : sQ a i = false := by
  by_cases ha : a = 23
  · subst ha; exact absurd (e.symm.trans (sLn_23 i)) (by decide)
  · have hb : Nat.beq a 23 = false := beq_no ha
    unfold sLn at e
    unfold sQ
    simp only [Bool.or_eq_false_iff] at e ⊢
    rw [hb]
    exact ⟨⟨⟨e.1.1.1.1, rfl⟩, rfl⟩, e.2⟩
theorem co_q {g : ShG} {en : Nat → Nat} {h h1 : Hp} (co : CO g en h) (q : Fq sQ h h1) : CO g en h1 := ⟨⟨(q.1 23 0 rfl).1.trans co.1.1, (q.1 23 6 rfl).1.trans co.1.2.1, (q.1 23 13 rfl).1.trans co.1.2.2.1, (q.1 17 4 rfl).1.trans co.1.2.2.2⟩, fun w hw => ⟨(q.1 24 w rfl).1.trans (co.2.1 w hw).1, (q.1 25 w rfl).1.trans (co.2.1 w hw).2.1, (q.1 26 w rfl).1.trans (co.2.1 w hw).2.2⟩, fun c hc => ⟨(q.1 28 c rfl).1.trans (co.2.2.1 c hc).1, (q.1 20 c rfl).1.trans (co.2.2.1 c hc).2⟩, fun m hm => (q.1 30 m rfl).1.trans (co.2.2.2 m hm)⟩
theorem cr_rc {g : ShG} {a ah : Nat} {h h1 : Hp} (cr : CR g a ah h) (q : Fq sRc h h1) : CR g a ah h1 := ⟨⟨(q.1 23 9 rfl).1.trans cr.1.1, (q.1 23 10 rfl).1.trans cr.1.2.1, (q.1 23 11 rfl).1.trans cr.1.2.2.1, (q.1 23 12 rfl).1.trans cr.1.2.2.2⟩, (q.1 23 15 rfl).1.trans cr.2.1, (q.1 23 16 rfl).1.trans cr.2.2.1, (q.1 23 17 rfl).1.trans cr.2.2.2.1, (q.1 16 3 rfl).1.trans cr.2.2.2.2⟩
theorem Fq.N {s : Nat → Nat → Bool} {h h1 : Hp} (p : Fq s h h1) (a k : Nat) : rN h1 a k = rN h a k := by unfold rN; rw [p.2]
theorem cp_o {s1 : Nat → Nat → Bool} {b : Nat → Nat} {n N : Nat} {s : PsG} {h h1 : Hp} (cp : CP b n N s h) (q : Fq s1 h h1) (h1' : ∀ i, s1 13 i = false ∧ s1 14 i = false ∧ s1 15 i = false ∧ s1 18 i = false ∧ s1 19 i = false) (h2 : s1 12 3 = false ∧ s1 16 0 = false ∧ s1 16 1 = false ∧ s1 16 2 = false ∧ s1 17 2 = false) : CP b n N s h1 := by
  obtain ⟨⟨⟨⟨t1, t2⟩, t3, t4⟩, c2⟩, ⟨n1, n2, n3⟩, ⟨r1, r2, r3, r4⟩, r5, r6⟩ := cp
  exact ⟨⟨⟨⟨t1, (q.1 12 3 h2.1).1.trans t2⟩, fun i hi => ⟨(q.1 13 i (h1' i).1).1.trans (t3 i hi).1, (q.1 15 i (h1' i).2.2.1).1.trans (t3 i hi).2.1, fun e => (q.1 14 i (h1' i).2.1).1.trans ((t3 i hi).2.2 e)⟩, t4⟩, c2⟩, ⟨(q.N 16 4).trans n1, (q.N 16 5).trans n2, (q.N 16 6).trans n3⟩, ⟨(q.1 16 0 h2.2.1).1.trans r1, (q.1 16 2 h2.2.2.2.1).1.trans r2, fun e => (q.1 16 1 h2.2.2.1).1.trans (r3 e), fun e => (q.1 16 1 h2.2.2.1).1.trans (r4 e)⟩, (q.1 17 2 h2.2.2.2.2).1.trans r5, fun j hj => ⟨(q.1 18 j (h1' j).2.2.2.1).1.trans (r6 j hj).1, (q.1 19 j (h1' j).2.2.2.2).1.trans (r6 j hj).2⟩⟩
theorem cp_o1 {b : Nat → Nat} {n N : Nat} {s : PsG} {h h1 : Hp} (cp : CP b n N s h) (q : Fq sO1 h h1) : CP b n N s h1 := cp_o cp q (fun _ => ⟨rfl, rfl, rfl, rfl, rfl⟩) ⟨rfl, rfl, rfl, rfl, rfl⟩
def sWl (a i : Nat) : Bool := Nat.beq a 24 || Nat.beq a 25 || Nat.beq a 26 || (Nat.beq a 23 && Nat.beq i 0)
theorem c_addWheel {d : Nat} {h : Hp} {g : ShG} {en : Nat → Nat} {f st r : Nat} {Q : Po} (co : CO g en h) (hw4 : sW g < 4) (k : ∀ h1, Fq sWl h h1 → CO (gWh g f st r) en h1 → Q mk_ h1) : wpC (d + 1) true 77 [.ref 23, .int (nI f), .int (nI st), .int (nI r)] h Q := by
  refine go_in rfl ?_
  refine exf_go 2 (show Go d true 77 4 [.ref 23, .int (nI f), .int (nI st), .int (nI r)] [.int (rI h 23 0)] h Q from ?_)
  rw [show (rI h 23 0 : Int32) = nI (sW g) from co.1.1]
  refine exf_go 2 (show (4 ≤ (nI (sW g)) → Go d true 77 48 [.ref 23, .int (nI f), .int (nI st), .int (nI r)] [] h Q) ∧ (¬ (4 ≤ (nI (sW g))) → Go d true 77 8 [.ref 23, .int (nI f), .int (nI st), .int (nI r)] [] h Q) from ⟨fun c1 => ?_, fun c1 => ?_⟩)
  · skip
    have c1 : 4 ≤ (sW g) := (nI_leI (a := 4) (b := (sW g)) (by omega) (by omega)).mp c1
    refine exf_go 1 (show Q (mk_) h from ?_)
    exfalso; omega
  · skip
    have c1 : ¬ 4 ≤ (sW g) := fun q => c1 ((nI_leI (a := 4) (b := (sW g)) (by omega) (by omega)).mpr q)
    refine exf_go 4 (show Go d true 77 16 [.ref 23, .int (nI f), .int (nI st), .int (nI r)] [.int (rI h 23 0), .ref 24] h Q from ?_)
    rw [show (rI h 23 0 : Int32) = nI (sW g) from co.1.1]
    refine exf_go 6 (show vp_in (nI (sW g)) 4 ∧ (Go d true 77 26 [.ref 23, .int (nI f), .int (nI st), .int (nI r)] [.int (rI h 23 0), .ref 25] (uI h 24 ((nI (sW g)).toNatClampNeg) (nI f)) Q) from ⟨(vp_in_nI (by omega) (by omega)), ?_⟩)
    rw [show (rI h 23 0 : Int32) = nI (sW g) from co.1.1]
    refine exf_go 6 (show vp_in (nI (sW g)) 4 ∧ (Go d true 77 36 [.ref 23, .int (nI f), .int (nI st), .int (nI r)] [.int (rI h 23 0), .ref 26] (uI (uI h 24 ((nI (sW g)).toNatClampNeg) (nI f)) 25 ((nI (sW g)).toNatClampNeg) (nI st)) Q) from ⟨(vp_in_nI (by omega) (by omega)), ?_⟩)
    rw [show (rI h 23 0 : Int32) = nI (sW g) from co.1.1]
    refine exf_go 5 (show vp_in (nI (sW g)) 4 ∧ (Go d true 77 43 [.ref 23, .int (nI f), .int (nI st), .int (nI r)] [.int (rI h 23 0), .ref 23] (uI (uI (uI h 24 ((nI (sW g)).toNatClampNeg) (nI f)) 25 ((nI (sW g)).toNatClampNeg) (nI st)) 26 ((nI (sW g)).toNatClampNeg) (nI r)) Q) from ⟨(vp_in_nI (by omega) (by omega)), ?_⟩)
    rw [show (rI h 23 0 : Int32) = nI (sW g) from co.1.1]
    refine exf_go 2 (show Go d true 77 45 [.ref 23, .int (nI f), .int (nI st), .int (nI r)] [.int ((nI (sW g)) + 1), .ref 23] (uI (uI (uI h 24 ((nI (sW g)).toNatClampNeg) (nI f)) 25 ((nI (sW g)).toNatClampNeg) (nI st)) 26 ((nI (sW g)).toNatClampNeg) (nI r)) Q from ?_)
    rw [show ((nI (sW g)) + 1 : Int32) = nI ((sW g) + 1) from nI_add (sW g) 1]
    refine exf_go 2 (show Q (mk_) (uI (uI (uI (uI h 24 ((nI (sW g)).toNatClampNeg) (nI f)) 25 ((nI (sW g)).toNatClampNeg) (nI st)) 26 ((nI (sW g)).toNatClampNeg) (nI r)) 23 0 (nI ((sW g) + 1))) from ?_)
    have hcl : (nI (sW g)).toNatClampNeg = sW g := nI_clamp (by omega)
    rw [hcl]
    refine k _ ((((Fq.rfl'.uI' _ _ _ rfl).uI' _ _ _ rfl).uI' _ _ _ rfl).uI' _ _ _ rfl) ⟨⟨rfl, co.1.2.1, co.1.2.2.1, co.1.2.2.2⟩, fun w hw => ?_, co.2.2.1, co.2.2.2⟩
    show _ = nI (va_up (sF g) (sW g) f w) ∧ _ = nI (va_up (sS g) (sW g) st w) ∧ _ = nI (va_up (sR g) (sW g) r w)
    by_cases e : w = sW g
    · subst e
      rw [va_up_s, va_up_s, va_up_s]; exact ⟨rI_uI_eq (a := 24), rI_uI_eq (a := 25), rI_uI_eq (a := 26)⟩
    · rw [va_up_n e, va_up_n e, va_up_n e]; exact ⟨(rI_uI_at (a := 24) e).trans (co.2.1 w hw).1, (rI_uI_at (a := 25) e).trans (co.2.1 w hw).2.1, (rI_uI_at (a := 26) e).trans (co.2.1 w hw).2.2⟩
theorem c_endClue {d : Nat} {h : Hp} {c q : Nat} {Q : Po} (h4 : rI h 17 4 = nI c) (h2 : rI h 17 2 = nI q) (hc : c < 8) (k : Q mk_ (uI (uI h 20 c (nI q)) 17 4 (nI (c + 1)))) : wpC (d + 1) true 4 [.ref 17] h Q := by
  refine go_in rfl ?_
  refine exf_go 2 (show Go d true 4 4 [.ref 17] [.int (rI h 17 4)] h Q from ?_)
  rw [show (rI h 17 4 : Int32) = nI c from h4]
  refine exf_go 2 (show (8 ≤ (nI c) → Go d true 4 32 [.ref 17] [] h Q) ∧ (¬ (8 ≤ (nI c)) → Go d true 4 9 [.ref 17] [] h Q) from ⟨fun c1 => ?_, fun c1 => ?_⟩)
  · skip
    have c1 : 8 ≤ c := (nI_leI (a := 8) (b := c) (by omega) (by omega)).mp c1
    refine exf_go 1 (show Q (mk_) h from ?_)
    exfalso; omega
  · skip
    have c1 : ¬ 8 ≤ c := fun q => c1 ((nI_leI (a := 8) (b := c) (by omega) (by omega)).mpr q)
    refine exf_go 4 (show Go d true 4 17 [.ref 17] [.int (rI h 17 4), .ref 20] h Q from ?_)
    rw [show (rI h 17 4 : Int32) = nI c from h4]
    refine exf_go 2 (show Go d true 4 21 [.ref 17] [.int (rI h 17 2), .int (nI c), .ref 20] h Q from ?_)
    rw [show (rI h 17 2 : Int32) = nI q from h2]
    refine exf_go 4 (show vp_in (nI c) 8 ∧ (Go d true 4 27 [.ref 17] [.int (rI h 17 4), .ref 17] (uI h 20 ((nI c).toNatClampNeg) (nI q)) Q) from ⟨(vp_in_nI (by omega) (by omega)), ?_⟩)
    rw [show (rI h 17 4 : Int32) = nI c from h4]
    refine exf_go 2 (show Go d true 4 29 [.ref 17] [.int ((nI c) + 1), .ref 17] (uI h 20 ((nI c).toNatClampNeg) (nI q)) Q from ?_)
    rw [show ((nI c) + 1 : Int32) = nI (c + 1) from nI_add c 1]
    refine exf_go 2 (show Q (mk_) (uI (uI h 20 ((nI c).toNatClampNeg) (nI q)) 17 4 (nI (c + 1))) from ?_)
    rw [nI_clamp (by omega)]; exact k
theorem c_fill24 {d : Nat} {h : Hp} {Q : Po} (k : ∀ h1, Fq (sAt 24) h h1 → (∀ i, i < 4 → rI h1 24 i = 1) → Q mk_ h1) : wpC (d + 1) true 318 [.ref 24, .int 1] h Q := by
  refine go_in rfl ?_
  refine exf_go 4 (show Go d true 318 4 [.ref 24, .int 1, .int 0, mk_] [.int (nI 4)] h Q from ?_)
  rw [show (nI 4 : Int32) = nI 4 from rfl]
  refine exf_go 1 (show Go d true 318 5 [.ref 24, .int 1, .int 0, .int (nI 4)] [] h Q from ?_)
  have L5 : ∀ (k5 : Nat) (j : Nat) (h1 : Hp), (4 - j) < k5 → (j ≤ 4) → (Fq (sAt 24) h h1) → (∀ i, i < j → rI h1 24 i = 1) → Go d true 318 5 [.ref 24, .int 1, .int (nI j), .int (nI 4)] [] h1 Q := by
    intro k5
    induction k5 with
    | zero => intro j h1 hk; exact absurd hk (Nat.not_lt_zero _)
    | succ k5 ih5 =>
      intro j h1 hk hj q1 hv
      refine exf_go 3 (show ((nI 4) ≤ (nI j) → Go d true 318 20 [.ref 24, .int 1, .int (nI j), .int (nI 4)] [] h1 Q) ∧ (¬ ((nI 4) ≤ (nI j)) → Go d true 318 10 [.ref 24, .int 1, .int (nI j), .int (nI 4)] [] h1 Q) from ⟨fun c1 => ?_, fun c1 => ?_⟩)
      · skip
        have c1 : 4 ≤ j := (nI_leI (a := 4) (b := j) (by omega) (by omega)).mp c1
        refine exf_go 1 (show Q (mk_) h1 from ?_)
        exact k h1 q1 (fun i hi => hv i (by omega))
      · skip
        have c1 : ¬ 4 ≤ j := fun q => c1 ((nI_leI (a := 4) (b := j) (by omega) (by omega)).mpr q)
        refine exf_go 5 (show vp_in (nI j) 4 ∧ (Go d true 318 17 [.ref 24, .int 1, .int ((nI j) + 1), .int (nI 4)] [] (uI h1 24 ((nI j).toNatClampNeg) 1) Q) from ⟨(vp_in_nI (by omega) (by omega)), ?_⟩)
        rw [show ((nI j) + 1 : Int32) = nI (j + 1) from nI_add j 1]
        refine exf_go 1 (show Go d true 318 5 [.ref 24, .int 1, .int (nI (j + 1)), .int (nI 4)] [] (uI h1 24 ((nI j).toNatClampNeg) 1) Q from ?_)
        exact ih5 (j + 1) _ (by omega) (by omega) (q1.uI' _ _ _ rfl) (fun i hi => by rw [nI_clamp (by omega)]; exact (Decidable.em (i = j)).elim (fun e => by rw [e, rI_uI_eq]) (fun e => by rw [rI_uI_at e]; exact hv i (by omega)))
  exact L5 (4 + 1) 0 h (by omega) (by omega) Fq.rfl' (fun i hi => absurd hi (Nat.not_lt_zero _))
theorem c_fill25 {d : Nat} {h : Hp} {Q : Po} (k : ∀ h1, Fq (sAt 25) h h1 → (∀ i, i < 4 → rI h1 25 i = 1) → Q mk_ h1) : wpC (d + 1) true 318 [.ref 25, .int 1] h Q := by
  refine go_in rfl ?_
  refine exf_go 4 (show Go d true 318 4 [.ref 25, .int 1, .int 0, mk_] [.int (nI 4)] h Q from ?_)
  rw [show (nI 4 : Int32) = nI 4 from rfl]
  refine exf_go 1 (show Go d true 318 5 [.ref 25, .int 1, .int 0, .int (nI 4)] [] h Q from ?_)
  have L5 : ∀ (k5 : Nat) (j : Nat) (h1 : Hp), (4 - j) < k5 → (j ≤ 4) → (Fq (sAt 25) h h1) → (∀ i, i < j → rI h1 25 i = 1) → Go d true 318 5 [.ref 25, .int 1, .int (nI j), .int (nI 4)] [] h1 Q := by
    intro k5
    induction k5 with
    | zero => intro j h1 hk; exact absurd hk (Nat.not_lt_zero _)
    | succ k5 ih5 =>
      intro j h1 hk hj q1 hv
      refine exf_go 3 (show ((nI 4) ≤ (nI j) → Go d true 318 20 [.ref 25, .int 1, .int (nI j), .int (nI 4)] [] h1 Q) ∧ (¬ ((nI 4) ≤ (nI j)) → Go d true 318 10 [.ref 25, .int 1, .int (nI j), .int (nI 4)] [] h1 Q) from ⟨fun c1 => ?_, fun c1 => ?_⟩)
      · skip
        have c1 : 4 ≤ j := (nI_leI (a := 4) (b := j) (by omega) (by omega)).mp c1
        refine exf_go 1 (show Q (mk_) h1 from ?_)
        exact k h1 q1 (fun i hi => hv i (by omega))
      · skip
        have c1 : ¬ 4 ≤ j := fun q => c1 ((nI_leI (a := 4) (b := j) (by omega) (by omega)).mpr q)
        refine exf_go 5 (show vp_in (nI j) 4 ∧ (Go d true 318 17 [.ref 25, .int 1, .int ((nI j) + 1), .int (nI 4)] [] (uI h1 25 ((nI j).toNatClampNeg) 1) Q) from ⟨(vp_in_nI (by omega) (by omega)), ?_⟩)
        rw [show ((nI j) + 1 : Int32) = nI (j + 1) from nI_add j 1]
        refine exf_go 1 (show Go d true 318 5 [.ref 25, .int 1, .int (nI (j + 1)), .int (nI 4)] [] (uI h1 25 ((nI j).toNatClampNeg) 1) Q from ?_)
        exact ih5 (j + 1) _ (by omega) (by omega) (q1.uI' _ _ _ rfl) (fun i hi => by rw [nI_clamp (by omega)]; exact (Decidable.em (i = j)).elim (fun e => by rw [e, rI_uI_eq]) (fun e => by rw [rI_uI_at e]; exact hv i (by omega)))
  exact L5 (4 + 1) 0 h (by omega) (by omega) Fq.rfl' (fun i hi => absurd hi (Nat.not_lt_zero _))
theorem c_fill26 {d : Nat} {h : Hp} {Q : Po} (k : ∀ h1, Fq (sAt 26) h h1 → (∀ i, i < 4 → rI h1 26 i = 0) → Q mk_ h1) : wpC (d + 1) true 318 [.ref 26, .int 0] h Q := by
  refine go_in rfl ?_
  refine exf_go 4 (show Go d true 318 4 [.ref 26, .int 0, .int 0, mk_] [.int (nI 4)] h Q from ?_)
  rw [show (nI 4 : Int32) = nI 4 from rfl]
  refine exf_go 1 (show Go d true 318 5 [.ref 26, .int 0, .int 0, .int (nI 4)] [] h Q from ?_)
  have L5 : ∀ (k5 : Nat) (j : Nat) (h1 : Hp), (4 - j) < k5 → (j ≤ 4) → (Fq (sAt 26) h h1) → (∀ i, i < j → rI h1 26 i = 0) → Go d true 318 5 [.ref 26, .int 0, .int (nI j), .int (nI 4)] [] h1 Q := by
    intro k5
    induction k5 with
    | zero => intro j h1 hk; exact absurd hk (Nat.not_lt_zero _)
    | succ k5 ih5 =>
      intro j h1 hk hj q1 hv
      refine exf_go 3 (show ((nI 4) ≤ (nI j) → Go d true 318 20 [.ref 26, .int 0, .int (nI j), .int (nI 4)] [] h1 Q) ∧ (¬ ((nI 4) ≤ (nI j)) → Go d true 318 10 [.ref 26, .int 0, .int (nI j), .int (nI 4)] [] h1 Q) from ⟨fun c1 => ?_, fun c1 => ?_⟩)
      · skip
        have c1 : 4 ≤ j := (nI_leI (a := 4) (b := j) (by omega) (by omega)).mp c1
        refine exf_go 1 (show Q (mk_) h1 from ?_)
        exact k h1 q1 (fun i hi => hv i (by omega))
      · skip
        have c1 : ¬ 4 ≤ j := fun q => c1 ((nI_leI (a := 4) (b := j) (by omega) (by omega)).mpr q)
        refine exf_go 5 (show vp_in (nI j) 4 ∧ (Go d true 318 17 [.ref 26, .int 0, .int ((nI j) + 1), .int (nI 4)] [] (uI h1 26 ((nI j).toNatClampNeg) 0) Q) from ⟨(vp_in_nI (by omega) (by omega)), ?_⟩)
        rw [show ((nI j) + 1 : Int32) = nI (j + 1) from nI_add j 1]
        refine exf_go 1 (show Go d true 318 5 [.ref 26, .int 0, .int (nI (j + 1)), .int (nI 4)] [] (uI h1 26 ((nI j).toNatClampNeg) 0) Q from ?_)
        exact ih5 (j + 1) _ (by omega) (by omega) (q1.uI' _ _ _ rfl) (fun i hi => by rw [nI_clamp (by omega)]; exact (Decidable.em (i = j)).elim (fun e => by rw [e, rI_uI_eq]) (fun e => by rw [rI_uI_at e]; exact hv i (by omega)))
  exact L5 (4 + 1) 0 h (by omega) (by omega) Fq.rfl' (fun i hi => absurd hi (Nat.not_lt_zero _))
def sCl (a _i : Nat) : Bool := Nat.beq a 23 || Nat.beq a 24 || Nat.beq a 25 || Nat.beq a 26
def CL0 (h : Hp) : Prop := (rI h 23 0 = nI 0 ∧ rI h 23 6 = nI 0 ∧ rI h 23 13 = nI 0) ∧ (∀ w, w < 4 → rI h 24 w = nI 1 ∧ rI h 25 w = nI 1 ∧ rI h 26 w = nI 0) ∧ (rI h 23 9 = nI 3 ∧ rI h 23 10 = nI 0 ∧ rI h 23 11 = nI 0 ∧ rI h 23 12 = nI 0) ∧ rI h 23 15 = -1 ∧ rI h 23 16 = nI 0 ∧ rI h 23 17 = nI 0
theorem at_Cl {z : Nat} (hz : sCl z 0 = true) (a i : Nat) (h : sCl a i = false) : sAt z a i = false := by
  unfold sAt
  cases e : Nat.beq a z with
  | false => rfl
  | true => rw [Nat.eq_of_beq_eq_true e] at h; exact Bool.noConfusion (h.symm.trans (show sCl z i = true from hz))
theorem c_clear {d : Nat} {h : Hp} {Q : Po} (k : ∀ h1, Fq sCl h h1 → CL0 h1 → Q mk_ h1) : wpC (d + 2) true 76 [.ref 23] h Q := by
  refine go_in rfl ?_
  refine exf_go 12 (show Go (d + 1) true 76 20 [.ref 23] [] (uI (uI (uI (uI h 23 0 0) 23 6 0) 23 9 3) 23 10 0) Q from ?_)
  refine exf_go 12 (show Go (d + 1) true 76 40 [.ref 23] [] (uI (uI (uI (uI (uI (uI (uI (uI h 23 0 0) 23 6 0) 23 9 3) 23 10 0) 23 11 0) 23 12 0) 23 13 0) 23 15 (-1)) Q from ?_)
  refine exf_go 10 (show wpC (d + 1) true 318 [.ref 24, .int 1] (uI (uI (uI (uI (uI (uI (uI (uI (uI (uI h 23 0 0) 23 6 0) 23 9 3) 23 10 0) 23 11 0) 23 12 0) 23 13 0) 23 15 (-1)) 23 16 0) 23 17 0) (fun _ h' => Go (d + 1) true 76 58 [.ref 23] [] h' Q) from ?_)
  refine c_fill24 (fun h1 q1 hv1 => ?_)
  have g1 : Fq sCl h h1 := Fq.tr (((((((((((Fq.rfl'.uI' _ _ _ rfl).uI' _ _ _ rfl).uI' _ _ _ rfl).uI' _ _ _ rfl).uI' _ _ _ rfl).uI' _ _ _ rfl).uI' _ _ _ rfl).uI' _ _ _ rfl).uI' _ _ _ rfl).uI' _ _ _ rfl)) (q1.mono (at_Cl rfl))
  show Go (d + 1) true 76 58 [.ref 23] [] h1 Q
  refine exf_go 4 (show wpC (d + 1) true 318 [.ref 25, .int 1] h1 (fun _ h' => Go (d + 1) true 76 66 [.ref 23] [] h' Q) from ?_)
  refine c_fill25 (fun h2 q2 hv2 => ?_)
  have g2 : Fq sCl h h2 := g1.tr (q2.mono (at_Cl rfl))
  show Go (d + 1) true 76 66 [.ref 23] [] h2 Q
  refine exf_go 4 (show wpC (d + 1) true 318 [.ref 26, .int 0] h2 (fun _ h' => Go (d + 1) true 76 74 [.ref 23] [] h' Q) from ?_)
  refine c_fill26 (fun h3 q3 hv3 => ?_)
  have g3 : Fq sCl h h3 := g2.tr (q3.mono (at_Cl rfl))
  show Go (d + 1) true 76 74 [.ref 23] [] h3 Q
  refine exf_go 1 (show Q (mk_) h3 from ?_)
  have u : ∀ i, rI h3 23 i = _ := fun i => ((q3.1 23 i rfl).1.trans (q2.1 23 i rfl).1).trans (q1.1 23 i rfl).1
  exact k _ g3 ⟨⟨u 0, u 6, u 13⟩, fun w hw => ⟨((q3.1 24 w rfl).1.trans (q2.1 24 w rfl).1).trans (hv1 w hw), (q3.1 25 w rfl).1.trans (hv2 w hw), hv3 w hw⟩, ⟨u 9, u 10, u 11, u 12⟩, u 15, u 16, u 17⟩
theorem c_clearC {d : Nat} {h : Hp} {Q : Po} (k : Q mk_ (uI (uI h 17 2 0) 17 4 0)) : wpC (d + 1) true 2 [.ref 17] h Q := by
  refine go_in rfl ?_
  refine exf_go 7 (show Q (mk_) (uI (uI h 17 2 0) 17 4 0) from ?_)
  exact k
theorem co_29 {g : ShG} {en : Nat → Nat} {h h1 : Hp} (co : CO g en h) (q : Fq (sAt 29) h h1) : CO g en h1 := ⟨⟨(q.1 23 0 rfl).1.trans co.1.1, (q.1 23 6 rfl).1.trans co.1.2.1, (q.1 23 13 rfl).1.trans co.1.2.2.1, (q.1 17 4 rfl).1.trans co.1.2.2.2⟩, fun w hw => ⟨(q.1 24 w rfl).1.trans (co.2.1 w hw).1, (q.1 25 w rfl).1.trans (co.2.1 w hw).2.1, (q.1 26 w rfl).1.trans (co.2.1 w hw).2.2⟩, fun c hc => ⟨(q.1 28 c rfl).1.trans (co.2.2.1 c hc).1, (q.1 20 c rfl).1.trans (co.2.2.1 c hc).2⟩, fun m hm => (q.1 30 m rfl).1.trans (co.2.2.2 m hm)⟩
theorem c_fillW29 {d : Nat} {h : Hp} {g : ShG} {en : Nat → Nat} {kn : Nat} {Q : Po} (hg : ShW g) (co : CO g en h) (hk0 : kn < 256) (k : ∀ h1, Fq (sAt 29) h h1 → WT 29 g kn h1 → Q mk_ h1) : wpC (d + 1) true 80 [.ref 23, .int (nI kn), .ref 29] h Q := by
  have he := evr_b hg
  have h8 := hg.2.2.2.1
  refine go_in rfl ?_
  refine exf_go 2 (show Go d true 80 2 [.ref 23, .int (nI kn), .ref 29, .int 0, mk_, mk_] [] h Q from ?_)
  have L2 : ∀ (k2 : Nat) (z4 z5 : Value) (m : Nat) (h1 : Hp), (257 - m) < k2 → (m ≤ 2 ^ sC g) → (Fq (sAt 29) h h1) → (∀ j, j < m → rI h1 29 j = nI (wtK g kn j)) → Go d true 80 2 [.ref 23, .int (nI kn), .ref 29, .int (nI m), z4, z5] [] h1 Q := by
    intro k2
    induction k2 with
    | zero => intro z4 z5 m h1 hk; exact absurd hk (Nat.not_lt_zero _)
    | succ k2 ih2 =>
      intro z4 z5 m h1 hk hm q1 hv
      have co1 := co_29 co q1
      refine exf_go 4 (show Go d true 80 8 [.ref 23, .int (nI kn), .ref 29, .int (nI m), z4, z5] [.int (rI h1 23 6), .int 1, .int (nI m)] h1 Q from ?_)
      rw [show (rI h1 23 6 : Int32) = nI (sC g) from co1.1.2.1]
      refine exf_go 1 (show Go d true 80 9 [.ref 23, .int (nI kn), .ref 29, .int (nI m), z4, z5] [.int (1 <<< ((nI (sC g)) &&& 31)), .int (nI m)] h1 Q from ?_)
      rw [show (1 <<< ((nI (sC g)) &&& 31) : Int32) = nI (2 ^ (sC g)) from nI_1shl (k := (sC g)) (by omega)]
      refine exf_go 1 (show ((nI (2 ^ (sC g))) ≤ (nI m) → Go d true 80 95 [.ref 23, .int (nI kn), .ref 29, .int (nI m), z4, z5] [] h1 Q) ∧ (¬ ((nI (2 ^ (sC g))) ≤ (nI m)) → Go d true 80 12 [.ref 23, .int (nI kn), .ref 29, .int (nI m), z4, z5] [] h1 Q) from ⟨fun c1 => ?_, fun c1 => ?_⟩)
      · skip
        have c1 : (2 ^ (sC g)) ≤ m := (nI_leI (a := (2 ^ (sC g))) (b := m) (by omega) (by omega)).mp c1
        refine exf_go 1 (show Q (mk_) h1 from ?_)
        first | exact k h1 q1 (fun j hj => hv j (by omega)) | (exfalso; omega)
      · skip
        have c1 : ¬ (2 ^ (sC g)) ≤ m := fun q => c1 ((nI_leI (a := (2 ^ (sC g))) (b := m) (by omega) (by omega)).mpr q)
        refine exf_go 3 (show Go d true 80 15 [.ref 23, .int (nI kn), .ref 29, .int (nI m), z4, z5] [.int (nI 256), .int (nI m)] h1 Q from ?_)
        rw [show (nI 256 : Int32) = nI 256 from rfl]
        refine exf_go 1 (show ((nI 256) ≤ (nI m) → Go d true 80 95 [.ref 23, .int (nI kn), .ref 29, .int (nI m), z4, z5] [] h1 Q) ∧ (¬ ((nI 256) ≤ (nI m)) → Go d true 80 18 [.ref 23, .int (nI kn), .ref 29, .int (nI m), z4, z5] [] h1 Q) from ⟨fun c2 => ?_, fun c2 => ?_⟩)
        · skip
          have c2 : 256 ≤ m := (nI_leI (a := 256) (b := m) (by omega) (by omega)).mp c2
          refine exf_go 1 (show Q (mk_) h1 from ?_)
          first | exact k h1 q1 (fun j hj => hv j (by omega)) | (exfalso; omega)
        · skip
          have c2 : ¬ 256 ≤ m := fun q => c2 ((nI_leI (a := 256) (b := m) (by omega) (by omega)).mpr q)
          refine exf_go 4 (show Go d true 80 24 [.ref 23, .int (nI kn), .ref 29, .int (nI m), .int 1, .int 0] [] h1 Q from ?_)
          have L24 : ∀ (k24 : Nat) (c x : Nat), (sC g - c) < k24 → (c ≤ sC g) → (x = wt g kn m c) → Go d true 80 24 [.ref 23, .int (nI kn), .ref 29, .int (nI m), .int (nI x), .int (nI c)] [] h1 Q := by
            intro k24
            induction k24 with
            | zero => intro c x hk; exact absurd hk (Nat.not_lt_zero _)
            | succ k24 ih24 =>
              intro c x hk hc hx
              have ht := hg.2.2.2.2.1 c; have hb1 := btn_le kn c; have hb2 := btn_le m c
              refine exf_go 3 (show Go d true 80 30 [.ref 23, .int (nI kn), .ref 29, .int (nI m), .int (nI x), .int (nI c)] [.int (rI h1 23 6), .int (nI c)] h1 Q from ?_)
              rw [show (rI h1 23 6 : Int32) = nI (sC g) from co1.1.2.1]
              refine exf_go 1 (show ((nI (sC g)) ≤ (nI c) → Go d true 80 84 [.ref 23, .int (nI kn), .ref 29, .int (nI m), .int (nI x), .int (nI c)] [] h1 Q) ∧ (¬ ((nI (sC g)) ≤ (nI c)) → Go d true 80 33 [.ref 23, .int (nI kn), .ref 29, .int (nI m), .int (nI x), .int (nI c)] [] h1 Q) from ⟨fun c3 => ?_, fun c3 => ?_⟩)
              · skip
                have c3 : (sC g) ≤ c := (nI_leI (a := (sC g)) (b := c) (by omega) (by omega)).mp c3
                refine exf_go 5 (show vp_in (nI m) 256 ∧ (Go d true 80 92 [.ref 23, .int (nI kn), .ref 29, .int ((nI m) + 1), .int (nI x), .int (nI c)] [] (uI h1 29 ((nI m).toNatClampNeg) (nI x)) Q) from ⟨(vp_in_nI (by omega) (by omega)), ?_⟩)
                rw [show ((nI m) + 1 : Int32) = nI (m + 1) from nI_add m 1]
                refine exf_go 1 (show Go d true 80 2 [.ref 23, .int (nI kn), .ref 29, .int (nI (m + 1)), .int (nI x), .int (nI c)] [] (uI h1 29 ((nI m).toNatClampNeg) (nI x)) Q from ?_)
                exact ih2 (.int (nI x)) (.int (nI c)) (m + 1) _ (by omega) (by omega) (q1.uI' _ _ _ rfl) (fun j hj => by rw [nI_clamp (by omega)]; exact (Decidable.em (j = m)).elim (fun e => by rw [e, rI_uI_eq, hx, show c = sC g from by omega]; rfl) (fun e => by rw [rI_uI_at e]; exact hv j (by omega)))
              · skip
                have c3 : ¬ (sC g) ≤ c := fun q => c3 ((nI_leI (a := (sC g)) (b := c) (by omega) (by omega)).mpr q)
                refine exf_go 3 (show Go d true 80 37 [.ref 23, .int (nI kn), .ref 29, .int (nI m), .int (nI x), .int (nI c)] [.int ((nI kn) >>> ((nI c) &&& 31))] h1 Q from ?_)
                rw [show ((nI kn) >>> ((nI c) &&& 31) : Int32) = nI (kn / 2 ^ c) from nI_shr (a := kn) (k := c) (by omega) (by omega)]
                refine exf_go 2 (show Go d true 80 39 [.ref 23, .int (nI kn), .ref 29, .int (nI m), .int (nI x), .int (nI c)] [.int ((nI (kn / 2 ^ c)) &&& 1)] h1 Q from ?_)
                rw [show ((nI (kn / 2 ^ c)) &&& 1 : Int32) = nI (btn kn c) from nI_low1 (Nat.lt_of_le_of_lt (Nat.div_le_self _ _) (by omega))]
                refine exf_go 2 (show (¬ (nI (btn kn c)) = 1 → Go d true 80 78 [.ref 23, .int (nI kn), .ref 29, .int (nI m), .int (nI x), .int (nI c)] [] h1 Q) ∧ (¬ (¬ (nI (btn kn c)) = 1) → Go d true 80 43 [.ref 23, .int (nI kn), .ref 29, .int (nI m), .int (nI x), .int (nI c)] [] h1 Q) from ⟨fun c4 => ?_, fun c4 => ?_⟩)
                · skip
                  have c4 : ¬ (btn kn c) = 1 := fun q => c4 ((nI_eq (a := (btn kn c)) (b := 1) (by omega) (by omega)).mpr q)
                  refine exf_go 1 (show Go d true 80 81 [.ref 23, .int (nI kn), .ref 29, .int (nI m), .int (nI x), .int ((nI c) + 1)] [] h1 Q from ?_)
                  rw [show ((nI c) + 1 : Int32) = nI (c + 1) from nI_add c 1]
                  refine exf_go 1 (show Go d true 80 24 [.ref 23, .int (nI kn), .ref 29, .int (nI m), .int (nI x), .int (nI (c + 1))] [] h1 Q from ?_)
                  exact ih24 (c + 1) x (by omega) (by omega) (by rw [hx, wt, wtf]; first | (rw [if_pos (by assumption), if_pos (by assumption)]; done) | (rw [if_pos (by assumption), if_neg (by assumption)]; done) | (rw [if_neg (by assumption), Nat.mul_one]; done))
                · skip
                  have c4 : (btn kn c) = 1 := (nI_eq (a := (btn kn c)) (b := 1) (by omega) (by omega)).mp (Classical.not_not.mp c4)
                  refine exf_go 4 (show Go d true 80 49 [.ref 23, .int (nI kn), .ref 29, .int (nI m), .int (nI x), .int (nI c)] [.int ((nI m) >>> ((nI c) &&& 31)), .int (nI x)] h1 Q from ?_)
                  rw [show ((nI m) >>> ((nI c) &&& 31) : Int32) = nI (m / 2 ^ c) from nI_shr (a := m) (k := c) (by omega) (by omega)]
                  refine exf_go 2 (show Go d true 80 51 [.ref 23, .int (nI kn), .ref 29, .int (nI m), .int (nI x), .int (nI c)] [.int ((nI (m / 2 ^ c)) &&& 1), .int (nI x)] h1 Q from ?_)
                  rw [show ((nI (m / 2 ^ c)) &&& 1 : Int32) = nI (btn m c) from nI_low1 (Nat.lt_of_le_of_lt (Nat.div_le_self _ _) (by omega))]
                  refine exf_go 2 (show (¬ (nI (btn m c)) = 1 → Go d true 80 65 [.ref 23, .int (nI kn), .ref 29, .int (nI m), .int (nI x), .int (nI c)] [.int (nI x)] h1 Q) ∧ (¬ (¬ (nI (btn m c)) = 1) → Go d true 80 55 [.ref 23, .int (nI kn), .ref 29, .int (nI m), .int (nI x), .int (nI c)] [.int (nI x)] h1 Q) from ⟨fun c5 => ?_, fun c5 => ?_⟩)
                  · skip
                    have c5 : ¬ (btn m c) = 1 := fun q => c5 ((nI_eq (a := (btn m c)) (b := 1) (by omega) (by omega)).mpr q)
                    refine exf_go 5 (show vp_in (nI c) 8 ∧ (Go d true 80 74 [.ref 23, .int (nI kn), .ref 29, .int (nI m), .int (nI x), .int (nI c)] [.int (rI h1 28 ((nI c).toNatClampNeg)), .int 10, .int (nI x)] h1 Q) from ⟨(vp_in_nI (by omega) (by omega)), ?_⟩)
                    rw [show (rI h1 28 ((nI c).toNatClampNeg) : Int32) = nI (sT g c) from by rw [nI_clamp (by omega)]; exact (co1.2.2.1 _ (by omega)).1]
                    refine exf_go 1 (show Go d true 80 75 [.ref 23, .int (nI kn), .ref 29, .int (nI m), .int (nI x), .int (nI c)] [.int (10 - (nI (sT g c))), .int (nI x)] h1 Q from ?_)
                    rw [show (10 - (nI (sT g c)) : Int32) = nI (10 - (sT g c)) from pk_sub (a := 10) (b := (sT g c)) (by omega)]
                    refine exf_go 1 (show Go d true 80 76 [.ref 23, .int (nI kn), .ref 29, .int (nI m), .int (nI x), .int (nI c)] [.int ((nI x) * (nI (10 - (sT g c))))] h1 Q from ?_)
                    rw [show ((nI x) * (nI (10 - (sT g c))) : Int32) = nI (x * (10 - (sT g c))) from pk_mul x (10 - (sT g c))]
                    refine exf_go 2 (show Go d true 80 81 [.ref 23, .int (nI kn), .ref 29, .int (nI m), .int (nI (x * (10 - (sT g c)))), .int ((nI c) + 1)] [] h1 Q from ?_)
                    rw [show ((nI c) + 1 : Int32) = nI (c + 1) from nI_add c 1]
                    refine exf_go 1 (show Go d true 80 24 [.ref 23, .int (nI kn), .ref 29, .int (nI m), .int (nI (x * (10 - (sT g c)))), .int (nI (c + 1))] [] h1 Q from ?_)
                    exact ih24 (c + 1) (x * (10 - (sT g c))) (by omega) (by omega) (by rw [hx, wt, wtf]; first | (rw [if_pos (by assumption), if_pos (by assumption)]; done) | (rw [if_pos (by assumption), if_neg (by assumption)]; done) | (rw [if_neg (by assumption), Nat.mul_one]; done))
                  · skip
                    have c5 : (btn m c) = 1 := (nI_eq (a := (btn m c)) (b := 1) (by omega) (by omega)).mp (Classical.not_not.mp c5)
                    refine exf_go 4 (show vp_in (nI c) 8 ∧ (Go d true 80 62 [.ref 23, .int (nI kn), .ref 29, .int (nI m), .int (nI x), .int (nI c)] [.int (rI h1 28 ((nI c).toNatClampNeg)), .int (nI x)] h1 Q) from ⟨(vp_in_nI (by omega) (by omega)), ?_⟩)
                    rw [show (rI h1 28 ((nI c).toNatClampNeg) : Int32) = nI (sT g c) from by rw [nI_clamp (by omega)]; exact (co1.2.2.1 _ (by omega)).1]
                    refine exf_go 2 (show Go d true 80 76 [.ref 23, .int (nI kn), .ref 29, .int (nI m), .int (nI x), .int (nI c)] [.int ((nI x) * (nI (sT g c)))] h1 Q from ?_)
                    rw [show ((nI x) * (nI (sT g c)) : Int32) = nI (x * (sT g c)) from pk_mul x (sT g c)]
                    refine exf_go 2 (show Go d true 80 81 [.ref 23, .int (nI kn), .ref 29, .int (nI m), .int (nI (x * (sT g c))), .int ((nI c) + 1)] [] h1 Q from ?_)
                    rw [show ((nI c) + 1 : Int32) = nI (c + 1) from nI_add c 1]
                    refine exf_go 1 (show Go d true 80 24 [.ref 23, .int (nI kn), .ref 29, .int (nI m), .int (nI (x * (sT g c))), .int (nI (c + 1))] [] h1 Q from ?_)
                    exact ih24 (c + 1) (x * (sT g c)) (by omega) (by omega) (by rw [hx, wt, wtf]; first | (rw [if_pos (by assumption), if_pos (by assumption)]; done) | (rw [if_pos (by assumption), if_neg (by assumption)]; done) | (rw [if_neg (by assumption), Nat.mul_one]; done))
          exact L24 (sC g + 1) 0 1 (by omega) (by omega) rfl
  exact L2 (257 + 1) mk_ mk_ 0 h (by omega) (by omega) Fq.rfl' (fun i hi => absurd hi (Nat.not_lt_zero _))
def sSe (a i : Nat) : Bool := Nat.beq a 27 || Nat.beq a 29 || (Nat.beq a 23 && Nat.beq i 5)
theorem at_Se (a i : Nat) (h : sSe a i = false) : sAt 29 a i = false := by
  unfold sSe at h
  simp only [Bool.or_eq_false_iff] at h
  exact h.1.2
theorem c_settle {d : Nat} {h : Hp} {g : ShG} {en : Nat → Nat} {Q : Po} (hg : ShW g) (co : CO g en h) (k : ∀ h1, Fq sSe h h1 → rI h1 23 5 = nI (tot g) → (∀ w, w < 4 → rI h1 27 w = nI (wor g w)) → WT 29 g (evr g) h1 → Q mk_ h1) : wpC (d + 2) true 78 [.ref 23] h Q := by
  have he := evr_b hg
  have h8 := hg.2.2.2.1
  refine go_in rfl ?_
  refine exf_go 7 (show ((3 : Int32) < 0 → Go (d + 1) true 78 42 [.ref 23, .int 3] [] (uI h 23 5 1) Q) ∧ (¬ ((3 : Int32) < 0) → Go (d + 1) true 78 11 [.ref 23, .int 3] [] (uI h 23 5 1) Q) from ⟨fun c1 => ?_, fun c1 => ?_⟩)
  · skip
    exact absurd c1 (by decide)
  · skip
    refine exf_go 13 (show vp_in 3 4 ∧ vp_in 3 4 ∧ (Go (d + 1) true 78 32 [.ref 23, .int 3] [.int (rI h 24 3), .int 1, .ref 23] (uI (uI h 23 5 1) 27 3 1) Q) from ⟨(vp_in_nI (n := 3) (by decide) (by decide)), (vp_in_nI (n := 3) (by decide) (by decide)), ?_⟩)
    rw [show (rI h 24 3 : Int32) = nI (sF g 3) from (co.2.1 3 (by decide)).1]
    refine exf_go 1 (show Go (d + 1) true 78 33 [.ref 23, .int 3] [.int (1 * (nI (sF g 3))), .ref 23] (uI (uI h 23 5 1) 27 3 1) Q from ?_)
    rw [show (1 * (nI (sF g 3)) : Int32) = nI (wor g 2) from (pk_mul 1 (sF g 3)).trans (congrArg nI (Nat.one_mul _))]
    refine exf_go 2 (show Go (d + 1) true 78 39 [.ref 23, .int (3 + (-1))] [] (uI (uI (uI h 23 5 1) 27 3 1) 23 5 (nI (wor g 2))) Q from ?_)
    rw [show (3 + (-1) : Int32) = 2 from by decide]
    refine exf_go 3 (show ((2 : Int32) < 0 → Go (d + 1) true 78 42 [.ref 23, .int 2] [] (uI (uI (uI h 23 5 1) 27 3 1) 23 5 (nI (wor g 2))) Q) ∧ (¬ ((2 : Int32) < 0) → Go (d + 1) true 78 11 [.ref 23, .int 2] [] (uI (uI (uI h 23 5 1) 27 3 1) 23 5 (nI (wor g 2))) Q) from ⟨fun c2 => ?_, fun c2 => ?_⟩)
    · skip
      exact absurd c2 (by decide)
    · skip
      refine exf_go 13 (show vp_in 2 4 ∧ vp_in 2 4 ∧ (Go (d + 1) true 78 32 [.ref 23, .int 2] [.int (rI h 24 2), .int (nI (wor g 2)), .ref 23] (uI (uI (uI (uI h 23 5 1) 27 3 1) 23 5 (nI (wor g 2))) 27 2 (nI (wor g 2))) Q) from ⟨(vp_in_nI (n := 2) (by decide) (by decide)), (vp_in_nI (n := 2) (by decide) (by decide)), ?_⟩)
      rw [show (rI h 24 2 : Int32) = nI (sF g 2) from (co.2.1 2 (by decide)).1]
      refine exf_go 1 (show Go (d + 1) true 78 33 [.ref 23, .int 2] [.int ((nI (wor g 2)) * (nI (sF g 2))), .ref 23] (uI (uI (uI (uI h 23 5 1) 27 3 1) 23 5 (nI (wor g 2))) 27 2 (nI (wor g 2))) Q from ?_)
      rw [show ((nI (wor g 2)) * (nI (sF g 2)) : Int32) = nI (wor g 1) from (pk_mul (wor g 2) (sF g 2)).trans (congrArg nI (Nat.mul_comm _ _))]
      refine exf_go 2 (show Go (d + 1) true 78 39 [.ref 23, .int (2 + (-1))] [] (uI (uI (uI (uI (uI h 23 5 1) 27 3 1) 23 5 (nI (wor g 2))) 27 2 (nI (wor g 2))) 23 5 (nI (wor g 1))) Q from ?_)
      rw [show (2 + (-1) : Int32) = 1 from by decide]
      refine exf_go 3 (show ((1 : Int32) < 0 → Go (d + 1) true 78 42 [.ref 23, .int 1] [] (uI (uI (uI (uI (uI h 23 5 1) 27 3 1) 23 5 (nI (wor g 2))) 27 2 (nI (wor g 2))) 23 5 (nI (wor g 1))) Q) ∧ (¬ ((1 : Int32) < 0) → Go (d + 1) true 78 11 [.ref 23, .int 1] [] (uI (uI (uI (uI (uI h 23 5 1) 27 3 1) 23 5 (nI (wor g 2))) 27 2 (nI (wor g 2))) 23 5 (nI (wor g 1))) Q) from ⟨fun c3 => ?_, fun c3 => ?_⟩)
      · skip
        exact absurd c3 (by decide)
      · skip
        refine exf_go 13 (show vp_in 1 4 ∧ vp_in 1 4 ∧ (Go (d + 1) true 78 32 [.ref 23, .int 1] [.int (rI h 24 1), .int (nI (wor g 1)), .ref 23] (uI (uI (uI (uI (uI (uI h 23 5 1) 27 3 1) 23 5 (nI (wor g 2))) 27 2 (nI (wor g 2))) 23 5 (nI (wor g 1))) 27 1 (nI (wor g 1))) Q) from ⟨(vp_in_nI (n := 1) (by decide) (by decide)), (vp_in_nI (n := 1) (by decide) (by decide)), ?_⟩)
        rw [show (rI h 24 1 : Int32) = nI (sF g 1) from (co.2.1 1 (by decide)).1]
        refine exf_go 1 (show Go (d + 1) true 78 33 [.ref 23, .int 1] [.int ((nI (wor g 1)) * (nI (sF g 1))), .ref 23] (uI (uI (uI (uI (uI (uI h 23 5 1) 27 3 1) 23 5 (nI (wor g 2))) 27 2 (nI (wor g 2))) 23 5 (nI (wor g 1))) 27 1 (nI (wor g 1))) Q from ?_)
        rw [show ((nI (wor g 1)) * (nI (sF g 1)) : Int32) = nI (wor g 0) from (pk_mul (wor g 1) (sF g 1)).trans (congrArg nI (Nat.mul_comm _ _))]
        refine exf_go 2 (show Go (d + 1) true 78 39 [.ref 23, .int (1 + (-1))] [] (uI (uI (uI (uI (uI (uI (uI h 23 5 1) 27 3 1) 23 5 (nI (wor g 2))) 27 2 (nI (wor g 2))) 23 5 (nI (wor g 1))) 27 1 (nI (wor g 1))) 23 5 (nI (wor g 0))) Q from ?_)
        rw [show (1 + (-1) : Int32) = 0 from by decide]
        refine exf_go 3 (show ((0 : Int32) < 0 → Go (d + 1) true 78 42 [.ref 23, .int 0] [] (uI (uI (uI (uI (uI (uI (uI h 23 5 1) 27 3 1) 23 5 (nI (wor g 2))) 27 2 (nI (wor g 2))) 23 5 (nI (wor g 1))) 27 1 (nI (wor g 1))) 23 5 (nI (wor g 0))) Q) ∧ (¬ ((0 : Int32) < 0) → Go (d + 1) true 78 11 [.ref 23, .int 0] [] (uI (uI (uI (uI (uI (uI (uI h 23 5 1) 27 3 1) 23 5 (nI (wor g 2))) 27 2 (nI (wor g 2))) 23 5 (nI (wor g 1))) 27 1 (nI (wor g 1))) 23 5 (nI (wor g 0))) Q) from ⟨fun c4 => ?_, fun c4 => ?_⟩)
        · skip
          exact absurd c4 (by decide)
        · skip
          refine exf_go 13 (show vp_in 0 4 ∧ vp_in 0 4 ∧ (Go (d + 1) true 78 32 [.ref 23, .int 0] [.int (rI h 24 0), .int (nI (wor g 0)), .ref 23] (uI (uI (uI (uI (uI (uI (uI (uI h 23 5 1) 27 3 1) 23 5 (nI (wor g 2))) 27 2 (nI (wor g 2))) 23 5 (nI (wor g 1))) 27 1 (nI (wor g 1))) 23 5 (nI (wor g 0))) 27 0 (nI (wor g 0))) Q) from ⟨(vp_in_nI (n := 0) (by decide) (by decide)), (vp_in_nI (n := 0) (by decide) (by decide)), ?_⟩)
          rw [show (rI h 24 0 : Int32) = nI (sF g 0) from (co.2.1 0 (by decide)).1]
          refine exf_go 1 (show Go (d + 1) true 78 33 [.ref 23, .int 0] [.int ((nI (wor g 0)) * (nI (sF g 0))), .ref 23] (uI (uI (uI (uI (uI (uI (uI (uI h 23 5 1) 27 3 1) 23 5 (nI (wor g 2))) 27 2 (nI (wor g 2))) 23 5 (nI (wor g 1))) 27 1 (nI (wor g 1))) 23 5 (nI (wor g 0))) 27 0 (nI (wor g 0))) Q from ?_)
          rw [show ((nI (wor g 0)) * (nI (sF g 0)) : Int32) = nI (tot g) from (pk_mul (wor g 0) (sF g 0)).trans (congrArg nI (Nat.mul_comm _ _))]
          refine exf_go 2 (show Go (d + 1) true 78 39 [.ref 23, .int (0 + (-1))] [] (uI (uI (uI (uI (uI (uI (uI (uI (uI h 23 5 1) 27 3 1) 23 5 (nI (wor g 2))) 27 2 (nI (wor g 2))) 23 5 (nI (wor g 1))) 27 1 (nI (wor g 1))) 23 5 (nI (wor g 0))) 27 0 (nI (wor g 0))) 23 5 (nI (tot g))) Q from ?_)
          rw [show (0 + (-1) : Int32) = (-1) from by decide]
          refine exf_go 3 (show (((-1) : Int32) < 0 → Go (d + 1) true 78 42 [.ref 23, .int (-1)] [] (uI (uI (uI (uI (uI (uI (uI (uI (uI h 23 5 1) 27 3 1) 23 5 (nI (wor g 2))) 27 2 (nI (wor g 2))) 23 5 (nI (wor g 1))) 27 1 (nI (wor g 1))) 23 5 (nI (wor g 0))) 27 0 (nI (wor g 0))) 23 5 (nI (tot g))) Q) ∧ (¬ (((-1) : Int32) < 0) → Go (d + 1) true 78 11 [.ref 23, .int (-1)] [] (uI (uI (uI (uI (uI (uI (uI (uI (uI h 23 5 1) 27 3 1) 23 5 (nI (wor g 2))) 27 2 (nI (wor g 2))) 23 5 (nI (wor g 1))) 27 1 (nI (wor g 1))) 23 5 (nI (wor g 0))) 27 0 (nI (wor g 0))) 23 5 (nI (tot g))) Q) from ⟨fun c5 => ?_, fun c5 => ?_⟩)
          · skip
            refine exf_go 4 (show Go (d + 1) true 78 48 [.ref 23, .int (-1)] [.int (rI h 23 6), .int 1, .ref 23] (uI (uI (uI (uI (uI (uI (uI (uI (uI h 23 5 1) 27 3 1) 23 5 (nI (wor g 2))) 27 2 (nI (wor g 2))) 23 5 (nI (wor g 1))) 27 1 (nI (wor g 1))) 23 5 (nI (wor g 0))) 27 0 (nI (wor g 0))) 23 5 (nI (tot g))) Q from ?_)
            rw [show (rI h 23 6 : Int32) = nI (sC g) from co.1.2.1]
            refine exf_go 1 (show Go (d + 1) true 78 49 [.ref 23, .int (-1)] [.int (1 <<< ((nI (sC g)) &&& 31)), .ref 23] (uI (uI (uI (uI (uI (uI (uI (uI (uI h 23 5 1) 27 3 1) 23 5 (nI (wor g 2))) 27 2 (nI (wor g 2))) 23 5 (nI (wor g 1))) 27 1 (nI (wor g 1))) 23 5 (nI (wor g 0))) 27 0 (nI (wor g 0))) 23 5 (nI (tot g))) Q from ?_)
            rw [show (1 <<< ((nI (sC g)) &&& 31) : Int32) = nI (2 ^ (sC g)) from nI_1shl (k := (sC g)) (by omega)]
            refine exf_go 2 (show Go (d + 1) true 78 51 [.ref 23, .int (-1)] [.int ((nI (2 ^ (sC g))) - 1), .ref 23] (uI (uI (uI (uI (uI (uI (uI (uI (uI h 23 5 1) 27 3 1) 23 5 (nI (wor g 2))) 27 2 (nI (wor g 2))) 23 5 (nI (wor g 1))) 27 1 (nI (wor g 1))) 23 5 (nI (wor g 0))) 27 0 (nI (wor g 0))) 23 5 (nI (tot g))) Q from ?_)
            rw [show ((nI (2 ^ (sC g))) - 1 : Int32) = nI ((2 ^ (sC g)) - 1) from pk_sub (a := (2 ^ (sC g))) (b := 1) (by omega)]
            refine exf_go 3 (show wpC (d + 1) true 80 [.ref 23, .int (nI ((2 ^ (sC g)) - 1)), .ref 29] (uI (uI (uI (uI (uI (uI (uI (uI (uI h 23 5 1) 27 3 1) 23 5 (nI (wor g 2))) 27 2 (nI (wor g 2))) 23 5 (nI (wor g 1))) 27 1 (nI (wor g 1))) 23 5 (nI (wor g 0))) 27 0 (nI (wor g 0))) 23 5 (nI (tot g))) (fun _ h' => Go (d + 1) true 78 58 [.ref 23, .int (-1)] [] h' Q) from ?_)
            have q0 : Fq sSe h (uI (uI (uI (uI (uI (uI (uI (uI (uI h 23 5 1) 27 3 1) 23 5 (nI (wor g 2))) 27 2 (nI (wor g 2))) 23 5 (nI (wor g 1))) 27 1 (nI (wor g 1))) 23 5 (nI (wor g 0))) 27 0 (nI (wor g 0))) 23 5 (nI (tot g))) := (((((((((Fq.rfl'.uI' _ _ _ rfl).uI' _ _ _ rfl).uI' _ _ _ rfl).uI' _ _ _ rfl).uI' _ _ _ rfl).uI' _ _ _ rfl).uI' _ _ _ rfl).uI' _ _ _ rfl).uI' _ _ _ rfl)
            have co0 : CO g en (uI (uI (uI (uI (uI (uI (uI (uI (uI h 23 5 1) 27 3 1) 23 5 (nI (wor g 2))) 27 2 (nI (wor g 2))) 23 5 (nI (wor g 1))) 27 1 (nI (wor g 1))) 23 5 (nI (wor g 0))) 27 0 (nI (wor g 0))) 23 5 (nI (tot g))) := ⟨⟨co.1.1, co.1.2.1, co.1.2.2.1, co.1.2.2.2⟩, fun w hw => co.2.1 w hw, fun c hc => co.2.2.1 c hc, fun m hm => co.2.2.2 m hm⟩
            refine c_fillW29 hg co0 (by omega) (fun h1 q1 wt1 => ?_)
            show Go (d + 1) true 78 58 [.ref 23, .int (-1)] [] h1 Q
            refine exf_go 1 (show Q (mk_) h1 from ?_)
            refine k _ (q0.tr (q1.mono at_Se)) ((q1.1 23 5 rfl).1) (fun w hw => ?_) wt1
            rcases (show w = 0 ∨ w = 1 ∨ w = 2 ∨ w = 3 by omega) with e | e | e | e <;> subst e <;> exact (q1.1 27 _ rfl).1
          · skip
            exact absurd (by decide) c5
