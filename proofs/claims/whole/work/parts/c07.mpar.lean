/-! The state of reading, and the model's small words on it. -/
/-- which token, fault, its place, how many codes, codes -/
abbrev PsG : Type := Nat × Nat × Nat × Nat × (Nat → Nat)
def qi (s : PsG) : Nat := s.1
def qe (s : PsG) : Nat := s.2.1
def qx (s : PsG) : Nat := s.2.2.1
def qn (s : PsG) : Nat := s.2.2.2.1
def qc (s : PsG) : Nat → Nat := s.2.2.2.2
def kd (b : Nat → Nat) (n i : Nat) : Nat := tK b n (tkP b n i)
def vl (b : Nat → Nat) (n i : Nat) : Nat := tV b n (tkP b n i)
def fl (b : Nat → Nat) (n w : Nat) (s : PsG) : PsG := if qe s = 0 then (qi s, if kd b n (qi s) = 23 then 1 else w, tkP b n (qi s), qn s, qc s) else s
def isK (b : Nat → Nat) (n k : Nat) (s : PsG) : Bool := decide (qe s = 0 ∧ kd b n (qi s) = k)
def nx (s : PsG) : PsG := (qi s + 1, qe s, qx s, qn s, qc s)
def em (c : Nat) (s : PsG) : PsG := if qe s = 0 then (qi s, qe s, qx s, qn s + 1, va_up (qc s) (qn s) c) else s
def eat (b : Nat → Nat) (n k : Nat) (s : PsG) : PsG := if isK b n k s = true then nx s else fl b n 2 s
def tkn (b : Nat → Nat) (n lo hx : Nat) (s : PsG) : PsG := if isK b n 21 s = true then (if lo ≤ vl b n (qi s) ∧ vl b n (qi s) < hx then nx s else fl b n 3 s) else fl b n 2 s
def whl (c : PsG → Bool) (f : PsG → PsG) : Nat → PsG → PsG
  | 0, s => s
  | k + 1, s => if c s = true then whl c f k (f s) else s
theorem skF_b {b : Nat → Nat} {n p : Nat} (h : p ≤ n) : p ≤ skF b n p ∧ skF b n p ≤ n := scF_b _ h
theorem tE_b {b : Nat → Nat} {n a : Nat} (h : a ≤ n) : a ≤ tE b n a ∧ tE b n a ≤ n := by
  unfold tE
  split
  · omega
  · split
    · exact scF_b _ h
    · split
      · exact scF_b _ h
      · omega
theorem tE_lt {b : Nat → Nat} {n a : Nat} (h : a < n) : a < tE b n a := by
  unfold tE
  rw [if_neg (by omega)]
  split
  · rename_i c
    rw [scF_y (q := fun i => sml (b i)) h c]; have := scF_b (fun i => sml (b i)) (n := n) (p := a + 1) (by omega); omega
  · split
    · rename_i c
      rw [scF_y (q := fun i => dgt (b i)) h c]; have := scF_b (fun i => dgt (b i)) (n := n) (p := a + 1) (by omega); omega
    · omega
theorem tkP_b (b : Nat → Nat) (n : Nat) : ∀ i, tkP b n i ≤ n
  | 0 => (skF_b (Nat.zero_le _)).2
  | i + 1 => (skF_b (tE_b (tkP_b b n i)).2).2
theorem tK_b (b : Nat → Nat) (n a : Nat) : tK b n a ≤ 36 := by
  unfold tK
  split
  · omega
  · split
    · have := wk_b b a (tE b n a) 18 (by omega); omega
    · split
      · split <;> omega
      · exact (sg_b (b a) 12 (by omega)).2
theorem kd_lt {b : Nat → Nat} {n i : Nat} (h : ¬ kd b n i = 22) : tkP b n i < n := by
  have := tkP_b b n i
  rcases Nat.lt_or_ge (tkP b n i) n with c | c
  · exact c
  · exact absurd (if_pos c) h
theorem tkP_s {b : Nat → Nat} {n i : Nat} (h : ¬ kd b n i = 22) : tkP b n i < tkP b n (i + 1) := by
  have h1 := tE_lt (b := b) (kd_lt h)
  have h2 := (skF_b (b := b) (tE_b (b := b) (tkP_b b n i)).2).1
  show _ < skF b n (tE b n (tkP b n i))
  omega
/-- what reading uses up -/
def sRd (a i : Nat) : Bool := (Nat.beq a 130 && (Nat.ble 6 i && Nat.ble i 12 && !(Nat.beq i 8))) || (Nat.beq a 134 && (Nat.ble 2940 i && Nat.ble i 5000))
theorem sNx_R (a i : Nat) (e : sRd a i = false) : sNx a i = false := by
  unfold sNx
  rw [Bool.eq_false_iff]
  intro q
  rw [Bool.and_eq_true, Bool.or_eq_true, Bool.or_eq_true, Bool.or_eq_true] at q
  obtain ⟨q1, q2⟩ := q
  have := Nat.eq_of_beq_eq_true q1; subst this
  rcases q2 with ((q2 | q2) | q2) | q2 <;> (have := Nat.eq_of_beq_eq_true q2; subst this; exact Bool.noConfusion e)
/-- the model reads: its heap -/
def MP (b : Nat → Nat) (n : Nat) (s : PsG) (h : Hp) : Prop := (MX b n h ∧ qe s ≤ 4) ∧ (rI h 130 6 = nI (tkP b n (qi s)) ∧ rI h 130 7 = nI (tE b n (tkP b n (qi s))) ∧ rI h 130 9 = nI (kd b n (qi s)) ∧ (kd b n (qi s) = 21 → rI h 130 10 = nI (vl b n (qi s)))) ∧ (rI h 130 11 = nI (qe s) ∧ (¬ qe s = 0 → rI h 130 12 = nI (qx s))) ∧ rI h 134 2940 = nI (qn s) ∧ ∀ j, j < qn s → rI h 134 (2941 + j) = nI (qc s j)
theorem mx_rd {b : Nat → Nat} {n : Nat} {h h1 : Hp} (mx : MX b n h) (q : Fq sRd h h1) : MX b n h1 := ⟨mx.1, (q.1 130 8 rfl).1.trans mx.2.1, fun i hi => ((q.1 133 i rfl).1).trans (mx.2.2 i hi)⟩
theorem isK_y {b : Nat → Nat} {n k : Nat} {s : PsG} (h1 : qe s = 0) (h2 : kd b n (qi s) = k) : isK b n k s = true := decide_eq_true ⟨h1, h2⟩
theorem isK_n {b : Nat → Nat} {n k : Nat} {s : PsG} (h : ¬ (qe s = 0 ∧ kd b n (qi s) = k)) : isK b n k s = false := decide_eq_false h
theorem isK_e {b : Nat → Nat} {n k : Nat} {s : PsG} (h : isK b n k s = true) : qe s = 0 ∧ kd b n (qi s) = k := of_decide_eq_true h
theorem m_fails {d : Nat} {h : Hp} {b : Nat → Nat} {n : Nat} {s : PsG} {w : Nat} {Q : Po} (mp : MP b n s h) (hw : w ≤ 4) (k : ∀ h1, Fq sRd h h1 → MP b n (fl b n w s) h1 → Q mk_ h1) : wpC (d + 1) true 192 [.ref 130, .int (nI w)] h Q := by
  have hn9 := mp.1.1.1.1; have he4 := mp.1.2; have hkb := tK_b b n (tkP b n (qi s)); have hpb := tkP_b b n (qi s)
  have hkd : kd b n (qi s) = tK b n (tkP b n (qi s)) := rfl
  refine go_in rfl ?_
  refine exf_go 2 (show Go d true 192 4 [.ref 130, .int (nI w)] [.int (rI h 130 11)] h Q from ?_)
  rw [show (rI h 130 11 : Int32) = nI (qe s) from mp.2.2.1.1]
  refine exf_go 1 (show ((nI (qe s)) = 0 → Go d true 192 8 [.ref 130, .int (nI w)] [] h Q) ∧ (¬ ((nI (qe s)) = 0) → Go d true 192 7 [.ref 130, .int (nI w)] [] h Q) from ⟨fun c1 => ?_, fun c1 => ?_⟩)
  · skip
    have c1 : (qe s) = 0 := (nI_eq (a := (qe s)) (b := 0) (by omega) (by omega)).mp c1
    refine exf_go 3 (show Go d true 192 13 [.ref 130, .int (nI w)] [.int (rI h 130 9), .ref 130] h Q from ?_)
    rw [show (rI h 130 9 : Int32) = nI (kd b n (qi s)) from mp.2.1.2.2.1]
    refine exf_go 2 (show (¬ (nI (kd b n (qi s))) = 23 → Go d true 192 22 [.ref 130, .int (nI w)] [.ref 130] h Q) ∧ (¬ (¬ (nI (kd b n (qi s))) = 23) → Go d true 192 18 [.ref 130, .int (nI w)] [.ref 130] h Q) from ⟨fun c2 => ?_, fun c2 => ?_⟩)
    · skip
      have c2 : ¬ (kd b n (qi s)) = 23 := fun q => c2 ((nI_eq (a := (kd b n (qi s))) (b := 23) (by omega) (by omega)).mpr q)
      refine exf_go 5 (show Go d true 192 31 [.ref 130, .int (nI w)] [.int (rI h 130 6), .ref 130] (uI h 130 11 (nI w)) Q from ?_)
      rw [show (rI h 130 6 : Int32) = nI (tkP b n (qi s)) from mp.2.1.1]
      refine exf_go 2 (show Q (mk_) (uI (uI h 130 11 (nI w)) 130 12 (nI (tkP b n (qi s)))) from ?_)
      have e : fl b n w s = (qi s, w, tkP b n (qi s), qn s, qc s) := by unfold fl; rw [if_pos (by omega), if_neg (by omega)]
      rw [e] at k
      exact k _ ((Fq.rfl'.uI' _ _ _ rfl).uI' _ _ _ rfl) ⟨⟨mx_rd mp.1.1 ((Fq.rfl'.uI' _ _ _ rfl).uI' _ _ _ rfl), by show w ≤ 4; omega⟩, mp.2.1, ⟨rfl, fun _ => rfl⟩, mp.2.2.2⟩
    · skip
      have c2 : (kd b n (qi s)) = 23 := (nI_eq (a := (kd b n (qi s))) (b := 23) (by omega) (by omega)).mp (Classical.not_not.mp c2)
      refine exf_go 6 (show Go d true 192 31 [.ref 130, .int (nI w)] [.int (rI h 130 6), .ref 130] (uI h 130 11 1) Q from ?_)
      rw [show (rI h 130 6 : Int32) = nI (tkP b n (qi s)) from mp.2.1.1]
      refine exf_go 2 (show Q (mk_) (uI (uI h 130 11 1) 130 12 (nI (tkP b n (qi s)))) from ?_)
      have e : fl b n w s = (qi s, 1, tkP b n (qi s), qn s, qc s) := by unfold fl; rw [if_pos (by omega), if_pos (by omega)]
      rw [e] at k
      exact k _ ((Fq.rfl'.uI' _ _ _ rfl).uI' _ _ _ rfl) ⟨⟨mx_rd mp.1.1 ((Fq.rfl'.uI' _ _ _ rfl).uI' _ _ _ rfl), by show 1 ≤ 4; omega⟩, mp.2.1, ⟨rfl, fun _ => rfl⟩, mp.2.2.2⟩
  · skip
    have c1 : ¬ (qe s) = 0 := fun q => c1 ((nI_eq (a := (qe s)) (b := 0) (by omega) (by omega)).mpr q)
    refine exf_go 1 (show Q (mk_) h from ?_)
    have e : fl b n w s = s := if_neg (by omega)
    rw [e] at k; exact k h Fq.rfl' mp
theorem m_is {d : Nat} {h : Hp} {b : Nat → Nat} {n : Nat} {s : PsG} {k : Nat} {Q : Po} (mp : MP b n s h) (hk : k < 100) (k1 : isK b n k s = true → Q (.int 1) h) (k0 : isK b n k s = false → Q (.int 0) h) : wpC (d + 1) true 193 [.ref 130, .int (nI k)] h Q := by
  have hn9 := mp.1.1.1.1; have he4 := mp.1.2; have hkb := tK_b b n (tkP b n (qi s)); have hpb := tkP_b b n (qi s)
  have hkd : kd b n (qi s) = tK b n (tkP b n (qi s)) := rfl
  refine go_in rfl ?_
  refine exf_go 2 (show Go d true 193 4 [.ref 130, .int (nI k)] [.int (rI h 130 11)] h Q from ?_)
  rw [show (rI h 130 11 : Int32) = nI (qe s) from mp.2.2.1.1]
  refine exf_go 1 (show (¬ (nI (qe s)) = 0 → Go d true 193 19 [.ref 130, .int (nI k)] [] h Q) ∧ (¬ (¬ (nI (qe s)) = 0) → Go d true 193 7 [.ref 130, .int (nI k)] [] h Q) from ⟨fun c1 => ?_, fun c1 => ?_⟩)
  · skip
    have c1 : ¬ (qe s) = 0 := fun q => c1 ((nI_eq (a := (qe s)) (b := 0) (by omega) (by omega)).mpr q)
    refine exf_go 2 (show ((0 : Int32) = 0 ∨ (0 : Int32) = 1) ∧ Q (.int 0) h from ⟨(by first | exact Or.inl rfl | exact Or.inr rfl | assumption), ?_⟩)
    exact k0 (isK_n (by omega))
  · skip
    have c1 : (qe s) = 0 := (nI_eq (a := (qe s)) (b := 0) (by omega) (by omega)).mp (Classical.not_not.mp c1)
    refine exf_go 2 (show Go d true 193 11 [.ref 130, .int (nI k)] [.int (rI h 130 9)] h Q from ?_)
    rw [show (rI h 130 9 : Int32) = nI (kd b n (qi s)) from mp.2.1.2.2.1]
    refine exf_go 2 (show (¬ (nI (kd b n (qi s))) = (nI k) → Go d true 193 19 [.ref 130, .int (nI k)] [] h Q) ∧ (¬ (¬ (nI (kd b n (qi s))) = (nI k)) → Go d true 193 15 [.ref 130, .int (nI k)] [] h Q) from ⟨fun c2 => ?_, fun c2 => ?_⟩)
    · skip
      have c2 : ¬ (kd b n (qi s)) = k := fun q => c2 ((nI_eq (a := (kd b n (qi s))) (b := k) (by omega) (by omega)).mpr q)
      refine exf_go 2 (show ((0 : Int32) = 0 ∨ (0 : Int32) = 1) ∧ Q (.int 0) h from ⟨(by first | exact Or.inl rfl | exact Or.inr rfl | assumption), ?_⟩)
      exact k0 (isK_n (by omega))
    · skip
      have c2 : (kd b n (qi s)) = k := (nI_eq (a := (kd b n (qi s))) (b := k) (by omega) (by omega)).mp (Classical.not_not.mp c2)
      refine exf_go 3 (show ((1 : Int32) = 0 ∨ (1 : Int32) = 1) ∧ Q (.int 1) h from ⟨(by first | exact Or.inl rfl | exact Or.inr rfl | assumption), ?_⟩)
      exact k1 (isK_y (by omega) (by omega))
theorem m_nx {d : Nat} {h : Hp} {b : Nat → Nat} {n : Nat} {s : PsG} {Q : Po} (mp : MP b n s h) (k : ∀ h1, Fq sRd h h1 → MP b n (nx s) h1 → Q mk_ h1) : wpC (d + 6) true 191 [.ref 130] h Q := by
  have hp := tkP_b b n (qi s)
  refine m_next mp.1.1 mp.2.1.2.1 (tE_b hp).2 (fun h1 q a1 a2 a3 a4 => k h1 (q.mono sNx_R) ⟨⟨mx_fq mp.1.1 q, mp.1.2⟩, ⟨a1, a2, a3, a4⟩, ⟨(q.1 130 11 rfl).1.trans mp.2.2.1.1, fun e => (q.1 130 12 rfl).1.trans (mp.2.2.1.2 e)⟩, (q.1 134 2940 rfl).1.trans mp.2.2.2.1, fun j hj => (q.1 134 _ rfl).1.trans (mp.2.2.2.2 j hj)⟩)
