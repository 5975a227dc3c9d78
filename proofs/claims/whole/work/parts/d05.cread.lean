/-! The class: the small words of reading. -/
def dop (c : Nat) : Nat := if c < 1000 then 0 else if c < 1010 then 1 else if c < 1013 then c - 1007 else if c < 3000 then 2 else if c < 3008 then c - 2993 else 6
def dod (c : Nat) : Nat := if c < 1000 then c else if c < 1010 then c - 1000 else if c < 2000 then 0 else if c < 3000 then c - 2000 else 0
def CP (b : Nat → Nat) (n N : Nat) (s : PsG) (h : Hp) : Prop := (TK b n N h ∧ qi s ≤ N ∧ n ≤ 900 ∧ qe s ≤ 4) ∧ (rN h 16 4 = true ∧ rN h 16 5 = true ∧ rN h 16 6 = true) ∧ (rI h 16 0 = nI (qe s) ∧ rI h 16 2 = nI (qi s) ∧ (qe s = 0 → rI h 16 1 = -1) ∧ (¬ qe s = 0 → rI h 16 1 = nI (qx s))) ∧ rI h 17 2 = nI (qn s) ∧ ∀ j, j < qn s → rI h 18 j = nI (dop (qc s j)) ∧ rI h 19 j = nI (dod (qc s j))
def sRc (a i : Nat) : Bool := (Nat.beq a 16 && Nat.ble i 2) || (Nat.beq a 17 && Nat.beq i 2) || Nat.beq a 18 || Nat.beq a 19
theorem tk_fq {b : Nat → Nat} {n N : Nat} {h h1 : Hp} (tk : TK b n N h) (q : Fq sRc h h1) : TK b n N h1 := ⟨⟨tk.1.1, (q.1 12 3 rfl).1.trans tk.1.2⟩, fun i hi => ⟨(q.1 13 i rfl).1.trans (tk.2.1 i hi).1, (q.1 15 i rfl).1.trans (tk.2.1 i hi).2.1, fun e => (q.1 14 i rfl).1.trans ((tk.2.1 i hi).2.2 e)⟩, tk.2.2⟩
theorem cp_b {b : Nat → Nat} {n N : Nat} {s : PsG} {h : Hp} (cp : CP b n N s h) : qi s ≤ N ∧ N ≤ n ∧ n ≤ 900 ∧ kd b n (qi s) < 37 ∧ ckd (kd b n (qi s)) < 256 ∧ qe s ≤ 4 ∧ tkP b n (qi s) ≤ n := ⟨cp.1.2.1, cp.1.1.1.1, cp.1.2.2.1, kd_b b n _, ckd_b _ (kd_b b n _), cp.1.2.2.2, tkP_b b n _⟩
theorem cp_N {b : Nat → Nat} {n N : Nat} {s : PsG} {h : Hp} (cp : CP b n N s h) (h2 : ¬ kd b n (qi s) = 22) (h3 : ¬ kd b n (qi s) = 23) : qi s + 1 ≤ N := by
  rcases Nat.eq_or_lt_of_le cp.1.2.1 with e | e
  · have := cp.1.1.2.2.2; rw [← e] at this; omega
  · exact e
theorem cp_nx {b : Nat → Nat} {n N : Nat} {s : PsG} {h : Hp} (cp : CP b n N s h) (h2 : ¬ kd b n (qi s) = 22) (h3 : ¬ kd b n (qi s) = 23) : CP b n N (nx s) (uI h 16 2 (nI (qi s + 1))) := ⟨⟨tk_fq cp.1.1 (Fq.rfl'.uI' _ _ _ rfl), cp_N cp h2 h3, cp.1.2.2⟩, cp.2.1, ⟨cp.2.2.1.1, rfl, cp.2.2.1.2.2⟩, cp.2.2.2⟩
theorem hi_le {x : Int32} {hh v : Nat} (hx : x = nI hh - 1) (h1 : hh < 2 ^ 30) (h2 : v < 2 ^ 30) : nI v ≤ x ↔ v < hh := by
  subst hx
  cases hh with
  | zero =>
    have e : (nI 0 - 1).toInt = -1 := by decide
    rw [Int32.le_iff_toInt_le, e, nI_toInt (by omega)]
    omega
  | succ q => rw [nI_pred, nI_leI (by omega) (by omega)]; omega
theorem vl_9 {b : Nat → Nat} {n i : Nat} (hb : ∀ i, b i < 256) : vl b n i < 40000 := Nat.lt_of_le_of_lt (vl_b2 hb _ _) (by decide)
theorem vlF_9 {b : Nat → Nat} {a : Nat} : ∀ i, i ≤ 3 → (∀ j, j < i → dgt (b (a + j)) = true) → vlF b a i + 1 ≤ 10 ^ i
  | 0, _, _ => by rw [vlF]; decide
  | i + 1, hi, h => by
    have h1 := vlF_9 i (by omega) (fun j hj => h j (by omega))
    have h2 := dgt_b (h i (by omega))
    rw [vlF, if_pos (by omega), Nat.pow_succ]
    omega
theorem vl_999 {b : Nat → Nat} {n i : Nat} (h : kd b n i = 21) : vl b n i ≤ 999 := by
  obtain ⟨h1, h2, h3⟩ := tK_21 (a := tkP b n i) h (kd_lt (by omega))
  have h5 := tE_lt (b := b) (kd_lt (b := b) (n := n) (i := i) (by omega))
  have h4 := vlF_9 (b := b) (a := tkP b n i) (tE b n (tkP b n i) - tkP b n i) h2 (fun j hj => h3 _ (by omega) (by omega))
  have h6 : 10 ^ (tE b n (tkP b n i) - tkP b n i) ≤ 10 ^ 3 := Nat.pow_le_pow_right (by decide) h2
  show vlF b (tkP b n i) (tE b n (tkP b n i) - tkP b n i) ≤ 999
  omega
theorem c_kindAt {d : Nat} {h : Hp} {b : Nat → Nat} {n N i : Nat} {Q : Po} (tk : TK b n N h) (hi : i ≤ N) (hn : n ≤ 900) (k : Q (.int (nI (ckd (kd b n i)))) h) : wpC (d + 1) true 90 [.ref 12, .int (nI i)] h Q := by
  have hNn := tk.1.1
  refine go_in rfl ?_
  refine exf_go 2 (show ((nI i) < 0 → Go d true 90 21 [.ref 12, .int (nI i)] [] h Q) ∧ (¬ ((nI i) < 0) → Go d true 90 4 [.ref 12, .int (nI i)] [] h Q) from ⟨fun c1 => ?_, fun c1 => ?_⟩)
  · skip
    have c1 : i < 0 := (nI_ltI (a := i) (b := 0) (by omega) (by omega)).mp c1
    refine exf_go 2 (show Q (.int 0) h from ?_)
    exfalso; omega
  · skip
    have c1 : ¬ i < 0 := fun q => c1 ((nI_ltI (a := i) (b := 0) (by omega) (by omega)).mpr q)
    refine exf_go 3 (show Go d true 90 9 [.ref 12, .int (nI i)] [.int (rI h 12 3), .int (nI i)] h Q from ?_)
    rw [show (rI h 12 3 : Int32) = nI (N + 1) from tk.1.2]
    refine exf_go 1 (show ((nI (N + 1)) ≤ (nI i) → Go d true 90 21 [.ref 12, .int (nI i)] [] h Q) ∧ (¬ ((nI (N + 1)) ≤ (nI i)) → Go d true 90 12 [.ref 12, .int (nI i)] [] h Q) from ⟨fun c2 => ?_, fun c2 => ?_⟩)
    · skip
      have c2 : (N + 1) ≤ i := (nI_leI (a := (N + 1)) (b := i) (by omega) (by omega)).mp c2
      refine exf_go 2 (show Q (.int 0) h from ?_)
      exfalso; omega
    · skip
      have c2 : ¬ (N + 1) ≤ i := fun q => c2 ((nI_leI (a := (N + 1)) (b := i) (by omega) (by omega)).mpr q)
      refine exf_go 4 (show vp_in (nI i) 901 ∧ (Go d true 90 18 [.ref 12, .int (nI i)] [.int (rI h 13 ((nI i).toNatClampNeg))] h Q) from ⟨(vp_in_nI (by omega) (by omega)), ?_⟩)
      rw [show (rI h 13 ((nI i).toNatClampNeg) : Int32) = nI (ckd (kd b n i)) from by rw [nI_clamp (by omega)]; exact (tk.2.1 i hi).1]
      refine exf_go 2 (show Q (.int (nI (ckd (kd b n i)))) h from ?_)
      exact k
theorem c_placeAt {d : Nat} {h : Hp} {b : Nat → Nat} {n N i : Nat} {Q : Po} (tk : TK b n N h) (hi : i ≤ N) (hn : n ≤ 900) (k : Q (.int (nI (tkP b n i))) h) : wpC (d + 1) true 92 [.ref 12, .int (nI i)] h Q := by
  have hNn := tk.1.1
  refine go_in rfl ?_
  refine exf_go 2 (show ((nI i) < 0 → Go d true 92 21 [.ref 12, .int (nI i)] [] h Q) ∧ (¬ ((nI i) < 0) → Go d true 92 4 [.ref 12, .int (nI i)] [] h Q) from ⟨fun c1 => ?_, fun c1 => ?_⟩)
  · skip
    have c1 : i < 0 := (nI_ltI (a := i) (b := 0) (by omega) (by omega)).mp c1
    refine exf_go 2 (show Q (.int 0) h from ?_)
    exfalso; omega
  · skip
    have c1 : ¬ i < 0 := fun q => c1 ((nI_ltI (a := i) (b := 0) (by omega) (by omega)).mpr q)
    refine exf_go 3 (show Go d true 92 9 [.ref 12, .int (nI i)] [.int (rI h 12 3), .int (nI i)] h Q from ?_)
    rw [show (rI h 12 3 : Int32) = nI (N + 1) from tk.1.2]
    refine exf_go 1 (show ((nI (N + 1)) ≤ (nI i) → Go d true 92 21 [.ref 12, .int (nI i)] [] h Q) ∧ (¬ ((nI (N + 1)) ≤ (nI i)) → Go d true 92 12 [.ref 12, .int (nI i)] [] h Q) from ⟨fun c2 => ?_, fun c2 => ?_⟩)
    · skip
      have c2 : (N + 1) ≤ i := (nI_leI (a := (N + 1)) (b := i) (by omega) (by omega)).mp c2
      refine exf_go 2 (show Q (.int 0) h from ?_)
      exfalso; omega
    · skip
      have c2 : ¬ (N + 1) ≤ i := fun q => c2 ((nI_leI (a := (N + 1)) (b := i) (by omega) (by omega)).mpr q)
      refine exf_go 4 (show vp_in (nI i) 901 ∧ (Go d true 92 18 [.ref 12, .int (nI i)] [.int (rI h 15 ((nI i).toNatClampNeg))] h Q) from ⟨(vp_in_nI (by omega) (by omega)), ?_⟩)
      rw [show (rI h 15 ((nI i).toNatClampNeg) : Int32) = nI (tkP b n i) from by rw [nI_clamp (by omega)]; exact (tk.2.1 i hi).2.1]
      refine exf_go 2 (show Q (.int (nI (tkP b n i))) h from ?_)
      exact k
theorem c_valueAt {d : Nat} {h : Hp} {b : Nat → Nat} {n N i : Nat} {Q : Po} (tk : TK b n N h) (hi : i ≤ N) (hn : n ≤ 900) (h21 : kd b n i = 21) (k : Q (.int (nI (vl b n i))) h) : wpC (d + 1) true 91 [.ref 12, .int (nI i)] h Q := by
  have hNn := tk.1.1
  refine go_in rfl ?_
  refine exf_go 2 (show ((nI i) < 0 → Go d true 91 21 [.ref 12, .int (nI i)] [] h Q) ∧ (¬ ((nI i) < 0) → Go d true 91 4 [.ref 12, .int (nI i)] [] h Q) from ⟨fun c1 => ?_, fun c1 => ?_⟩)
  · skip
    have c1 : i < 0 := (nI_ltI (a := i) (b := 0) (by omega) (by omega)).mp c1
    refine exf_go 2 (show Q (.int 0) h from ?_)
    exfalso; omega
  · skip
    have c1 : ¬ i < 0 := fun q => c1 ((nI_ltI (a := i) (b := 0) (by omega) (by omega)).mpr q)
    refine exf_go 3 (show Go d true 91 9 [.ref 12, .int (nI i)] [.int (rI h 12 3), .int (nI i)] h Q from ?_)
    rw [show (rI h 12 3 : Int32) = nI (N + 1) from tk.1.2]
    refine exf_go 1 (show ((nI (N + 1)) ≤ (nI i) → Go d true 91 21 [.ref 12, .int (nI i)] [] h Q) ∧ (¬ ((nI (N + 1)) ≤ (nI i)) → Go d true 91 12 [.ref 12, .int (nI i)] [] h Q) from ⟨fun c2 => ?_, fun c2 => ?_⟩)
    · skip
      have c2 : (N + 1) ≤ i := (nI_leI (a := (N + 1)) (b := i) (by omega) (by omega)).mp c2
      refine exf_go 2 (show Q (.int 0) h from ?_)
      exfalso; omega
    · skip
      have c2 : ¬ (N + 1) ≤ i := fun q => c2 ((nI_leI (a := (N + 1)) (b := i) (by omega) (by omega)).mpr q)
      refine exf_go 4 (show vp_in (nI i) 901 ∧ (Go d true 91 18 [.ref 12, .int (nI i)] [.int (rI h 14 ((nI i).toNatClampNeg))] h Q) from ⟨(vp_in_nI (by omega) (by omega)), ?_⟩)
      rw [show (rI h 14 ((nI i).toNatClampNeg) : Int32) = nI (vl b n i) from by rw [nI_clamp (by omega)]; exact (tk.2.1 i hi).2.2 h21]
      refine exf_go 2 (show Q (.int (nI (vl b n i))) h from ?_)
      exact k
theorem c_kind {d : Nat} {h : Hp} {b : Nat → Nat} {n N : Nat} {s : PsG} {Q : Po} (cp : CP b n N s h) (k : Q (.int (nI (ckd (kd b n (qi s))))) h) : wpC (d + 2) true 55 [.ref 16] h Q := by
  have hb := cp_b cp
  refine go_in rfl ?_
  refine exf_go 4 (show rN h 16 4 = true ∧ (Go (d + 1) true 55 8 [.ref 16] [.int (rI h 16 2), .ref 12] h Q) from ⟨(cp.2.1.1), ?_⟩)
  rw [show (rI h 16 2 : Int32) = nI (qi s) from cp.2.2.1.2.1]
  refine exf_go 1 (show wpC (d + 1) true 90 [.ref 12, .int (nI (qi s))] h (fun r h' => Go (d + 1) true 55 11 [.ref 16] [r] h' Q) from ?_)
  refine c_kindAt cp.1.1 cp.1.2.1 cp.1.2.2.1 ?_
  show Go (d + 1) true 55 11 [.ref 16] [.int (nI (ckd (kd b n (qi s))))] h Q
  refine exf_go 1 (show Q (.int (nI (ckd (kd b n (qi s))))) h from ?_)
  exact k
theorem c_refuse {d : Nat} {h : Hp} {b : Nat → Nat} {n N : Nat} {s : PsG} {Q : Po} {w : Nat} (cp : CP b n N s h) (he : qe s = 0) (hw : w ≤ 4) (hw0 : ¬ w = 0) (k : ∀ h1, Fq sRc h h1 → CP b n N (fl b n w s) h1 → Q (.int 0) h1) : wpC (d + 3) true 56 [.ref 16, .int (nI w)] h Q := by
  have hb := cp_b cp
  refine go_in rfl ?_
  refine exf_go 5 (show rN h 16 4 = true ∧ (Go (d + 2) true 56 9 [.ref 16, .int (nI w)] [.int (rI h 16 2), .ref 12, .ref 16] h Q) from ⟨(cp.2.1.1), ?_⟩)
  rw [show (rI h 16 2 : Int32) = nI (qi s) from cp.2.2.1.2.1]
  refine exf_go 1 (show wpC (d + 2) true 90 [.ref 12, .int (nI (qi s))] h (fun r h' => Go (d + 2) true 56 12 [.ref 16, .int (nI w)] [r, .ref 16] h' Q) from ?_)
  refine c_kindAt cp.1.1 cp.1.2.1 cp.1.2.2.1 ?_
  show Go (d + 2) true 56 12 [.ref 16, .int (nI w)] [.int (nI (ckd (kd b n (qi s)))), .ref 16] h Q
  refine exf_go 2 (show (¬ (nI (ckd (kd b n (qi s)))) = 1 → Go (d + 2) true 56 20 [.ref 16, .int (nI w)] [.ref 16] h Q) ∧ (¬ (¬ (nI (ckd (kd b n (qi s)))) = 1) → Go (d + 2) true 56 16 [.ref 16, .int (nI w)] [.ref 16] h Q) from ⟨fun c1 => ?_, fun c1 => ?_⟩)
  · skip
    have c1 : ¬ (ckd (kd b n (qi s))) = 1 := fun q => c1 ((nI_eq (a := (ckd (kd b n (qi s)))) (b := 1) (by omega) (by omega)).mpr q)
    have c1 : ¬ kd b n (qi s) = 23 := fun z => absurd (show ckd (kd b n (qi s)) = 1 from by rw [z]; rfl) (by omega)
    refine exf_go 7 (show rN (uI h 16 0 (nI w)) 16 4 = true ∧ (Go (d + 2) true 56 33 [.ref 16, .int (nI w)] [.int (rI h 16 2), .ref 12, .ref 16] (uI h 16 0 (nI w)) Q) from ⟨(cp.2.1.1), ?_⟩)
    rw [show (rI h 16 2 : Int32) = nI (qi s) from cp.2.2.1.2.1]
    refine exf_go 1 (show wpC (d + 2) true 92 [.ref 12, .int (nI (qi s))] (uI h 16 0 (nI w)) (fun r h' => Go (d + 2) true 56 36 [.ref 16, .int (nI w)] [r, .ref 16] h' Q) from ?_)
    refine c_placeAt (tk_fq cp.1.1 (Fq.rfl'.uI' _ _ _ rfl)) cp.1.2.1 cp.1.2.2.1 ?_
    show Go (d + 2) true 56 36 [.ref 16, .int (nI w)] [.int (nI (tkP b n (qi s))), .ref 16] (uI h 16 0 (nI w)) Q
    refine exf_go 3 (show ((0 : Int32) = 0 ∨ (0 : Int32) = 1) ∧ Q (.int 0) (uI (uI h 16 0 (nI w)) 16 1 (nI (tkP b n (qi s)))) from ⟨(by first | exact Or.inl rfl | exact Or.inr rfl | assumption), ?_⟩)
    have e : fl b n w s = (qi s, w, tkP b n (qi s), qn s, qc s) := by unfold fl; rw [if_pos he, if_neg (by omega)]
    rw [e] at k
    have q1 : Fq sRc h (uI (uI h 16 0 (nI w)) 16 1 (nI (tkP b n (qi s)))) := (Fq.rfl'.uI' _ _ _ rfl).uI' _ _ _ rfl
    exact k _ q1 ⟨⟨tk_fq cp.1.1 q1, cp.1.2.1, cp.1.2.2.1, by show w ≤ 4; omega⟩, cp.2.1, ⟨rfl, cp.2.2.1.2.1, fun z => absurd (show w = 0 from z) (by omega), fun _ => rfl⟩, cp.2.2.2⟩
  · skip
    have c1 : (ckd (kd b n (qi s))) = 1 := (nI_eq (a := (ckd (kd b n (qi s)))) (b := 1) (by omega) (by omega)).mp (Classical.not_not.mp c1)
    have c1 : kd b n (qi s) = 23 := (ckd_inj _ (by omega) 23 (by decide)).mp (show _ = 1 from by omega)
    refine exf_go 8 (show rN (uI h 16 0 1) 16 4 = true ∧ (Go (d + 2) true 56 33 [.ref 16, .int (nI w)] [.int (rI h 16 2), .ref 12, .ref 16] (uI h 16 0 1) Q) from ⟨(cp.2.1.1), ?_⟩)
    rw [show (rI h 16 2 : Int32) = nI (qi s) from cp.2.2.1.2.1]
    refine exf_go 1 (show wpC (d + 2) true 92 [.ref 12, .int (nI (qi s))] (uI h 16 0 1) (fun r h' => Go (d + 2) true 56 36 [.ref 16, .int (nI w)] [r, .ref 16] h' Q) from ?_)
    refine c_placeAt (tk_fq cp.1.1 (Fq.rfl'.uI' _ _ _ rfl)) cp.1.2.1 cp.1.2.2.1 ?_
    show Go (d + 2) true 56 36 [.ref 16, .int (nI w)] [.int (nI (tkP b n (qi s))), .ref 16] (uI h 16 0 1) Q
    refine exf_go 3 (show ((0 : Int32) = 0 ∨ (0 : Int32) = 1) ∧ Q (.int 0) (uI (uI h 16 0 1) 16 1 (nI (tkP b n (qi s)))) from ⟨(by first | exact Or.inl rfl | exact Or.inr rfl | assumption), ?_⟩)
    have e : fl b n w s = (qi s, 1, tkP b n (qi s), qn s, qc s) := by unfold fl; rw [if_pos he, if_pos (by omega)]
    rw [e] at k
    have q1 : Fq sRc h (uI (uI h 16 0 1) 16 1 (nI (tkP b n (qi s)))) := (Fq.rfl'.uI' _ _ _ rfl).uI' _ _ _ rfl
    exact k _ q1 ⟨⟨tk_fq cp.1.1 q1, cp.1.2.1, cp.1.2.2.1, by show 1 ≤ 4; omega⟩, cp.2.1, ⟨rfl, cp.2.2.1.2.1, fun z => absurd (show 1 = 0 from z) (by omega), fun _ => rfl⟩, cp.2.2.2⟩
theorem c_take {d : Nat} {h : Hp} {b : Nat → Nat} {n N : Nat} {s : PsG} {Q : Po} {kk : Nat} (cp : CP b n N s h) (he : qe s = 0) (hk : kk < 37) (hk2 : ¬ kk = 22) (hk3 : ¬ kk = 23) (k1 : isK b n kk s = true → ∀ h1, Fq sRc h h1 → CP b n N (nx s) h1 → Q (.int 1) h1) (k0 : isK b n kk s = false → ∀ h1, Fq sRc h h1 → CP b n N (fl b n 2 s) h1 → Q (.int 0) h1) : wpC (d + 4) true 57 [.ref 16, .int (nI (ckd kk))] h Q := by
  have hb := cp_b cp
  have hkc := ckd_b kk hk
  refine go_in rfl ?_
  refine exf_go 2 (show wpC (d + 3) true 55 [.ref 16] h (fun r h' => Go (d + 3) true 57 4 [.ref 16, .int (nI (ckd kk))] [r] h' Q) from ?_)
  refine c_kind cp ?_
  show Go (d + 3) true 57 4 [.ref 16, .int (nI (ckd kk))] [.int (nI (ckd (kd b n (qi s))))] h Q
  refine exf_go 2 (show ((nI (ckd (kd b n (qi s)))) = (nI (ckd kk)) → Go (d + 3) true 57 14 [.ref 16, .int (nI (ckd kk))] [] h Q) ∧ (¬ ((nI (ckd (kd b n (qi s)))) = (nI (ckd kk))) → Go (d + 3) true 57 8 [.ref 16, .int (nI (ckd kk))] [] h Q) from ⟨fun c1 => ?_, fun c1 => ?_⟩)
  · skip
    have c1 : (ckd (kd b n (qi s))) = (ckd kk) := (nI_eq (a := (ckd (kd b n (qi s)))) (b := (ckd kk)) (by omega) (by omega)).mp c1
    have c1 : kd b n (qi s) = kk := (ckd_inj _ (by omega) kk (by omega)).mp (by omega)
    refine exf_go 3 (show Go (d + 3) true 57 19 [.ref 16, .int (nI (ckd kk))] [.int (rI h 16 2), .ref 16] h Q from ?_)
    rw [show (rI h 16 2 : Int32) = nI (qi s) from cp.2.2.1.2.1]
    refine exf_go 2 (show Go (d + 3) true 57 21 [.ref 16, .int (nI (ckd kk))] [.int ((nI (qi s)) + 1), .ref 16] h Q from ?_)
    rw [show ((nI (qi s)) + 1 : Int32) = nI ((qi s) + 1) from nI_add (qi s) 1]
    refine exf_go 3 (show ((1 : Int32) = 0 ∨ (1 : Int32) = 1) ∧ Q (.int 1) (uI h 16 2 (nI ((qi s) + 1))) from ⟨(by first | exact Or.inl rfl | exact Or.inr rfl | assumption), ?_⟩)
    exact k1 (isK_y he (by omega)) _ (Fq.rfl'.uI' _ _ _ rfl) (cp_nx cp (by omega) (by omega))
  · skip
    have c1 : ¬ (ckd (kd b n (qi s))) = (ckd kk) := fun q => c1 ((nI_eq (a := (ckd (kd b n (qi s)))) (b := (ckd kk)) (by omega) (by omega)).mpr q)
    have c1 : ¬ kd b n (qi s) = kk := fun z => absurd (show ckd (kd b n (qi s)) = ckd kk from by rw [z]) (by omega)
    refine exf_go 3 (show wpC (d + 3) true 56 [.ref 16, .int 2] h (fun r h' => Go (d + 3) true 57 13 [.ref 16, .int (nI (ckd kk))] [r] h' Q) from ?_)
    refine c_refuse (w := 2) cp (by omega) (by omega) (by omega) (fun h1 q1 cp1 => ?_)
    have hb1 := cp_b cp1
    have hz1 : ¬ qe (fl b n 2 s) = 0 := fl_ne (by omega)
    show Go (d + 3) true 57 13 [.ref 16, .int (nI (ckd kk))] [.int 0] h1 Q
    refine exf_go 1 (show ((0 : Int32) = 0 ∨ (0 : Int32) = 1) ∧ Q (.int 0) h1 from ⟨(by first | exact Or.inl rfl | exact Or.inr rfl | assumption), ?_⟩)
    exact k0 (isK_n (by omega)) h1 q1 cp1
theorem c_takeIf {d : Nat} {h : Hp} {b : Nat → Nat} {n N : Nat} {s : PsG} {Q : Po} {kk : Nat} (cp : CP b n N s h) (he : qe s = 0) (hk : kk < 37) (hk2 : ¬ kk = 22) (hk3 : ¬ kk = 23) (k1 : isK b n kk s = true → ∀ h1, Fq sRc h h1 → CP b n N (nx s) h1 → Q (.int 1) h1) (k0 : isK b n kk s = false → Q (.int 0) h) : wpC (d + 3) true 58 [.ref 16, .int (nI (ckd kk))] h Q := by
  have hb := cp_b cp
  have hkc := ckd_b kk hk
  refine go_in rfl ?_
  refine exf_go 2 (show wpC (d + 2) true 55 [.ref 16] h (fun r h' => Go (d + 2) true 58 4 [.ref 16, .int (nI (ckd kk))] [r] h' Q) from ?_)
  refine c_kind cp ?_
  show Go (d + 2) true 58 4 [.ref 16, .int (nI (ckd kk))] [.int (nI (ckd (kd b n (qi s))))] h Q
  refine exf_go 2 (show ((nI (ckd (kd b n (qi s)))) = (nI (ckd kk)) → Go (d + 2) true 58 10 [.ref 16, .int (nI (ckd kk))] [] h Q) ∧ (¬ ((nI (ckd (kd b n (qi s)))) = (nI (ckd kk))) → Go (d + 2) true 58 8 [.ref 16, .int (nI (ckd kk))] [] h Q) from ⟨fun c1 => ?_, fun c1 => ?_⟩)
  · skip
    have c1 : (ckd (kd b n (qi s))) = (ckd kk) := (nI_eq (a := (ckd (kd b n (qi s)))) (b := (ckd kk)) (by omega) (by omega)).mp c1
    have c1 : kd b n (qi s) = kk := (ckd_inj _ (by omega) kk (by omega)).mp (by omega)
    refine exf_go 3 (show Go (d + 2) true 58 15 [.ref 16, .int (nI (ckd kk))] [.int (rI h 16 2), .ref 16] h Q from ?_)
    rw [show (rI h 16 2 : Int32) = nI (qi s) from cp.2.2.1.2.1]
    refine exf_go 2 (show Go (d + 2) true 58 17 [.ref 16, .int (nI (ckd kk))] [.int ((nI (qi s)) + 1), .ref 16] h Q from ?_)
    rw [show ((nI (qi s)) + 1 : Int32) = nI ((qi s) + 1) from nI_add (qi s) 1]
    refine exf_go 3 (show ((1 : Int32) = 0 ∨ (1 : Int32) = 1) ∧ Q (.int 1) (uI h 16 2 (nI ((qi s) + 1))) from ⟨(by first | exact Or.inl rfl | exact Or.inr rfl | assumption), ?_⟩)
    exact k1 (isK_y he (by omega)) _ (Fq.rfl'.uI' _ _ _ rfl) (cp_nx cp (by omega) (by omega))
  · skip
    have c1 : ¬ (ckd (kd b n (qi s))) = (ckd kk) := fun q => c1 ((nI_eq (a := (ckd (kd b n (qi s)))) (b := (ckd kk)) (by omega) (by omega)).mpr q)
    have c1 : ¬ kd b n (qi s) = kk := fun z => absurd (show ckd (kd b n (qi s)) = ckd kk from by rw [z]) (by omega)
    refine exf_go 2 (show ((0 : Int32) = 0 ∨ (0 : Int32) = 1) ∧ Q (.int 0) h from ⟨(by first | exact Or.inl rfl | exact Or.inr rfl | assumption), ?_⟩)
    exact k0 (isK_n (by omega))
theorem c_takeN {d : Nat} {h : Hp} {b : Nat → Nat} {n N : Nat} {s : PsG} {Q : Po} {lo hh : Nat} {x : Int32} (cp : CP b n N s h) (he : qe s = 0) (hlb : lo < 1000) (hx : x = nI hh - 1) (hhb : hh < 100000) (k1 : tkn b n lo hh s = nx s → ∀ h1, Fq sRc h h1 → CP b n N (nx s) h1 → lo ≤ vl b n (qi s) → vl b n (qi s) < hh → Q (.int (nI (vl b n (qi s)))) h1) (k0 : ∀ h1, Fq sRc h h1 → CP b n N (tkn b n lo hh s) h1 → ¬ qe (tkn b n lo hh s) = 0 → Q (.int (-1)) h1) : wpC (d + 4) true 59 [.ref 16, .int (nI lo), .int x] h Q := by
  have hb := cp_b cp
  refine go_in rfl ?_
  refine exf_go 2 (show wpC (d + 3) true 55 [.ref 16] h (fun r h' => Go (d + 3) true 59 4 [.ref 16, .int (nI lo), .int x, mk_] [r] h' Q) from ?_)
  refine c_kind cp ?_
  show Go (d + 3) true 59 4 [.ref 16, .int (nI lo), .int x, mk_] [.int (nI (ckd (kd b n (qi s))))] h Q
  refine exf_go 2 (show ((nI (ckd (kd b n (qi s)))) = 2 → Go (d + 3) true 59 16 [.ref 16, .int (nI lo), .int x, mk_] [] h Q) ∧ (¬ ((nI (ckd (kd b n (qi s)))) = 2) → Go (d + 3) true 59 8 [.ref 16, .int (nI lo), .int x, mk_] [] h Q) from ⟨fun c1 => ?_, fun c1 => ?_⟩)
  · skip
    have c1 : (ckd (kd b n (qi s))) = 2 := (nI_eq (a := (ckd (kd b n (qi s)))) (b := 2) (by omega) (by omega)).mp c1
    have c1 : kd b n (qi s) = 21 := (ckd_inj _ (by omega) 21 (by decide)).mp (show _ = 2 from by omega)
    refine exf_go 4 (show rN h 16 4 = true ∧ (Go (d + 3) true 59 24 [.ref 16, .int (nI lo), .int x, mk_] [.int (rI h 16 2), .ref 12] h Q) from ⟨(cp.2.1.1), ?_⟩)
    rw [show (rI h 16 2 : Int32) = nI (qi s) from cp.2.2.1.2.1]
    refine exf_go 1 (show wpC (d + 3) true 91 [.ref 12, .int (nI (qi s))] h (fun r h' => Go (d + 3) true 59 27 [.ref 16, .int (nI lo), .int x, mk_] [r] h' Q) from ?_)
    have hv9 := vl_999 (b := b) (n := n) (i := qi s) (by omega)
    refine c_valueAt cp.1.1 cp.1.2.1 cp.1.2.2.1 (by omega) ?_
    show Go (d + 3) true 59 27 [.ref 16, .int (nI lo), .int x, mk_] [.int (nI (vl b n (qi s)))] h Q
    refine exf_go 4 (show ((nI (vl b n (qi s))) < (nI lo) → Go (d + 3) true 59 38 [.ref 16, .int (nI lo), .int x, .int (nI (vl b n (qi s)))] [] h Q) ∧ (¬ ((nI (vl b n (qi s))) < (nI lo)) → Go (d + 3) true 59 33 [.ref 16, .int (nI lo), .int x, .int (nI (vl b n (qi s)))] [] h Q) from ⟨fun c2 => ?_, fun c2 => ?_⟩)
    · skip
      have c2 : (vl b n (qi s)) < lo := (nI_ltI (a := (vl b n (qi s))) (b := lo) (by omega) (by omega)).mp c2
      refine exf_go 3 (show wpC (d + 3) true 56 [.ref 16, .int 3] h (fun r h' => Go (d + 3) true 59 43 [.ref 16, .int (nI lo), .int x, .int (nI (vl b n (qi s)))] [r] h' Q) from ?_)
      refine c_refuse (w := 3) cp (by omega) (by omega) (by omega) (fun h1 q1 cp1 => ?_)
      have hb1 := cp_b cp1
      have hz1 : ¬ qe (fl b n 3 s) = 0 := fl_ne (by omega)
      show Go (d + 3) true 59 43 [.ref 16, .int (nI lo), .int x, .int (nI (vl b n (qi s)))] [.int 0] h1 Q
      refine exf_go 3 (show Q (.int (-1)) h1 from ?_)
      have e : tkn b n lo hh s = fl b n 3 s := by unfold tkn; rw [if_pos (isK_y he (by omega)), if_neg (by omega)]
      rw [e] at k0; exact k0 h1 q1 cp1 (by omega)
    · skip
      have c2 : ¬ (vl b n (qi s)) < lo := fun q => c2 ((nI_ltI (a := (vl b n (qi s))) (b := lo) (by omega) (by omega)).mpr q)
      refine exf_go 3 (show ((nI (vl b n (qi s))) ≤ x → Go (d + 3) true 59 46 [.ref 16, .int (nI lo), .int x, .int (nI (vl b n (qi s)))] [] h Q) ∧ (¬ ((nI (vl b n (qi s))) ≤ x) → Go (d + 3) true 59 38 [.ref 16, .int (nI lo), .int x, .int (nI (vl b n (qi s)))] [] h Q) from ⟨fun c3 => ?_, fun c3 => ?_⟩)
      · skip
        have c3 : vl b n (qi s) < hh := (hi_le hx (by omega) (by omega)).mp c3
        refine exf_go 3 (show Go (d + 3) true 59 51 [.ref 16, .int (nI lo), .int x, .int (nI (vl b n (qi s)))] [.int (rI h 16 2), .ref 16] h Q from ?_)
        rw [show (rI h 16 2 : Int32) = nI (qi s) from cp.2.2.1.2.1]
        refine exf_go 2 (show Go (d + 3) true 59 53 [.ref 16, .int (nI lo), .int x, .int (nI (vl b n (qi s)))] [.int ((nI (qi s)) + 1), .ref 16] h Q from ?_)
        rw [show ((nI (qi s)) + 1 : Int32) = nI ((qi s) + 1) from nI_add (qi s) 1]
        refine exf_go 3 (show Q (.int (nI (vl b n (qi s)))) (uI h 16 2 (nI ((qi s) + 1))) from ?_)
        have e : tkn b n lo hh s = nx s := by unfold tkn; rw [if_pos (isK_y he (by omega)), if_pos ⟨by omega, by omega⟩]
        exact k1 e _ (Fq.rfl'.uI' _ _ _ rfl) (cp_nx cp (by omega) (by omega)) (by omega) (by omega)
      · skip
        have c3 : ¬ vl b n (qi s) < hh := fun z => c3 ((hi_le hx (by omega) (by omega)).mpr z)
        refine exf_go 3 (show wpC (d + 3) true 56 [.ref 16, .int 3] h (fun r h' => Go (d + 3) true 59 43 [.ref 16, .int (nI lo), .int x, .int (nI (vl b n (qi s)))] [r] h' Q) from ?_)
        refine c_refuse (w := 3) cp (by omega) (by omega) (by omega) (fun h2 q2 cp2 => ?_)
        have hb2 := cp_b cp2
        have hz2 : ¬ qe (fl b n 3 s) = 0 := fl_ne (by omega)
        show Go (d + 3) true 59 43 [.ref 16, .int (nI lo), .int x, .int (nI (vl b n (qi s)))] [.int 0] h2 Q
        refine exf_go 3 (show Q (.int (-1)) h2 from ?_)
        have e : tkn b n lo hh s = fl b n 3 s := by unfold tkn; rw [if_pos (isK_y he (by omega)), if_neg (by omega)]
        rw [e] at k0; exact k0 h2 q2 cp2 (by omega)
  · skip
    have c1 : ¬ (ckd (kd b n (qi s))) = 2 := fun q => c1 ((nI_eq (a := (ckd (kd b n (qi s)))) (b := 2) (by omega) (by omega)).mpr q)
    have c1 : ¬ kd b n (qi s) = 21 := fun z => absurd (show ckd (kd b n (qi s)) = 2 from by rw [z]; rfl) (by omega)
    refine exf_go 3 (show wpC (d + 3) true 56 [.ref 16, .int 2] h (fun r h' => Go (d + 3) true 59 13 [.ref 16, .int (nI lo), .int x, mk_] [r] h' Q) from ?_)
    refine c_refuse (w := 2) cp (by omega) (by omega) (by omega) (fun h3 q3 cp3 => ?_)
    have hb3 := cp_b cp3
    have hz3 : ¬ qe (fl b n 2 s) = 0 := fl_ne (by omega)
    show Go (d + 3) true 59 13 [.ref 16, .int (nI lo), .int x, mk_] [.int 0] h3 Q
    refine exf_go 3 (show Q (.int (-1)) h3 from ?_)
    have e : tkn b n lo hh s = fl b n 2 s := by unfold tkn; rw [if_neg (by rw [isK_n (by omega)]; decide)]
    rw [e] at k0; exact k0 h3 q3 cp3 (by omega)
theorem c_emit {d : Nat} {h : Hp} {b : Nat → Nat} {n N : Nat} {s : PsG} {Q : Po} {c : Nat} {x y : Int32} (cp : CP b n N s h) (he : qe s = 0) (hq : qn s < 900) (hop : x = nI (dop c)) (hod : y = nI (dod c)) (k : ∀ h1, Fq sRc h h1 → CP b n N (em c s) h1 → Q mk_ h1) : wpC (d + 1) true 3 [.ref 17, .int x, .int y] h Q := by
  have hb := cp_b cp
  refine go_in rfl ?_
  refine exf_go 2 (show Go d true 3 4 [.ref 17, .int x, .int y] [.int (rI h 17 2)] h Q from ?_)
  rw [show (rI h 17 2 : Int32) = nI (qn s) from cp.2.2.2.1]
  refine exf_go 2 (show (900 ≤ (nI (qn s)) → Go d true 3 40 [.ref 17, .int x, .int y] [] h Q) ∧ (¬ (900 ≤ (nI (qn s))) → Go d true 3 10 [.ref 17, .int x, .int y] [] h Q) from ⟨fun c1 => ?_, fun c1 => ?_⟩)
  · skip
    have c1 : 900 ≤ (qn s) := (nI_leI (a := 900) (b := (qn s)) (by omega) (by omega)).mp c1
    refine exf_go 1 (show Q (mk_) h from ?_)
    exfalso; omega
  · skip
    have c1 : ¬ 900 ≤ (qn s) := fun q => c1 ((nI_leI (a := 900) (b := (qn s)) (by omega) (by omega)).mpr q)
    refine exf_go 4 (show Go d true 3 18 [.ref 17, .int x, .int y] [.int (rI h 17 2), .ref 18] h Q from ?_)
    rw [show (rI h 17 2 : Int32) = nI (qn s) from cp.2.2.2.1]
    refine exf_go 6 (show vp_in (nI (qn s)) 900 ∧ (Go d true 3 28 [.ref 17, .int x, .int y] [.int (rI h 17 2), .ref 19] (uI h 18 ((nI (qn s)).toNatClampNeg) x) Q) from ⟨(vp_in_nI (n := qn s) (by omega) (by omega)), ?_⟩)
    rw [show (rI h 17 2 : Int32) = nI (qn s) from cp.2.2.2.1]
    refine exf_go 5 (show vp_in (nI (qn s)) 900 ∧ (Go d true 3 35 [.ref 17, .int x, .int y] [.int (rI h 17 2), .ref 17] (uI (uI h 18 ((nI (qn s)).toNatClampNeg) x) 19 ((nI (qn s)).toNatClampNeg) y) Q) from ⟨(vp_in_nI (n := qn s) (by omega) (by omega)), ?_⟩)
    rw [show (rI h 17 2 : Int32) = nI (qn s) from cp.2.2.2.1]
    refine exf_go 2 (show Go d true 3 37 [.ref 17, .int x, .int y] [.int ((nI (qn s)) + 1), .ref 17] (uI (uI h 18 ((nI (qn s)).toNatClampNeg) x) 19 ((nI (qn s)).toNatClampNeg) y) Q from ?_)
    rw [show ((nI (qn s)) + 1 : Int32) = nI ((qn s) + 1) from nI_add (qn s) 1]
    refine exf_go 2 (show Q (mk_) (uI (uI (uI h 18 ((nI (qn s)).toNatClampNeg) x) 19 ((nI (qn s)).toNatClampNeg) y) 17 2 (nI ((qn s) + 1))) from ?_)
    have hcl : (nI (qn s)).toNatClampNeg = qn s := nI_clamp (by omega)
    rw [hcl]
    have e : em c s = (qi s, qe s, qx s, qn s + 1, va_up (qc s) (qn s) c) := if_pos he
    rw [e] at k
    have q1 : Fq sRc h (uI (uI (uI h 18 ((qn s)) x) 19 ((qn s)) y) 17 2 (nI ((qn s) + 1))) := ((Fq.rfl'.uI' _ _ _ rfl).uI' _ _ _ rfl).uI' _ _ _ rfl
    refine k _ q1 ⟨⟨tk_fq cp.1.1 q1, cp.1.2⟩, cp.2.1, cp.2.2.1, rfl, fun j hj => ?_⟩
    have hj : j < qn s + 1 := hj
    rcases Nat.lt_or_ge j (qn s) with z | z
    · have e2 : va_up (qc s) (qn s) c j = qc s j := va_up_n (by omega)
      exact ⟨(rI_uI_at (a := 18) (by omega)).trans (((cp.2.2.2.2 j z).1).trans (by show _ = nI (dop (va_up (qc s) (qn s) c j)); rw [e2])), (rI_uI_at (a := 19) (by omega)).trans (((cp.2.2.2.2 j z).2).trans (by show _ = nI (dod (va_up (qc s) (qn s) c j)); rw [e2]))⟩
    · have ej : j = qn s := by omega
      subst ej
      have e2 : va_up (qc s) (qn s) c (qn s) = c := va_up_s
      exact ⟨(rI_uI_eq (a := 18)).trans (hop.trans (by show _ = nI (dop (va_up (qc s) (qn s) c (qn s))); rw [e2])), (rI_uI_eq (a := 19)).trans (hod.trans (by show _ = nI (dod (va_up (qc s) (qn s) c (qn s))); rw [e2]))⟩
