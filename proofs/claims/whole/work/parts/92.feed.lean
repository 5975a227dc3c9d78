/-! Bytes are fed. -/
theorem by_b (x : Int32) : x.toInt8.toInt32 &&& 255 = x &&& 255 := by
  apply Int32.toBitVec_inj.mp
  rw [Int32.toBitVec_and, Int32.toBitVec_and, Int8.toBitVec_toInt32, Int32.toBitVec_toInt8]
  apply BitVec.eq_of_getLsbD_eq
  intro i hi
  rw [BitVec.getLsbD_and, BitVec.getLsbD_and]
  have hm : ∀ i < 32, 8 ≤ i → (255 : Int32).toBitVec.getLsbD i = false := by decide
  rcases Nat.lt_or_ge i 8 with z | z
  · rw [BitVec.getLsbD_signExtend, BitVec.getLsbD_signExtend, if_pos z, if_pos hi]
    simp only [z, hi, decide_true, Bool.true_and]
  · rw [hm i hi z]; simp
/-- so many bytes -/
abbrev TpG : Type := Nat × (Nat → Nat)
/-- the class's tape, the model's tape -/
def CTP (t : TpG) (h : Hp) : Prop := (t.1 ≤ 900 ∧ ∀ i, t.2 i < 256) ∧ rI h 10 1 = nI t.1 ∧ ∀ i, i < t.1 → rI h 11 i = (nI (t.2 i)).toInt8.toInt32
def MTP (t : TpG) (h : Hp) : Prop := (t.1 ≤ 900 ∧ ∀ i, t.2 i < 256) ∧ rI h 130 5 = nI t.1 ∧ ∀ i, i < t.1 → rI h 133 i = nI (t.2 i)
/-- the byte of x at the place k of four -/
def byt (x : Int32) (k : Nat) : Nat := (x >>> (nI (24 - 8 * k) &&& 31)).toBitVec.toNat % 256
theorem byt_b (x : Int32) (k : Nat) : byt x k < 256 := Nat.mod_lt _ (by decide)
theorem byt_m (x : Int32) (k : Nat) : x >>> (nI (24 - 8 * k) &&& 31) &&& 255 = nI (byt x k) := pk_and _ 8 (by decide)
theorem byt_c (x : Int32) (k : Nat) : vp_nar .byte (x >>> (nI (24 - 8 * k) &&& 31)).toInt8.toInt32 = (nI (byt x k)).toInt8.toInt32 := by
  rw [pk_vb]
  have hb : (x >>> (nI (24 - 8 * k) &&& 31)).toInt8.toInt32.toInt8.toInt32 = (x >>> (nI (24 - 8 * k) &&& 31)).toInt8.toInt32 := by rw [← vp_nar_byte]; exact pk_vb _
  exact (sc_eq hb (byt_b x k)).mpr ((by_b _).trans (byt_m x k))
def five (a b c d e : Int32) (k : Nat) : Int32 := if k < 4 then a else if k < 8 then b else if k < 12 then c else if k < 16 then d else e
def dFeed (t : TpG) (a b c d e : Int32) : TpG × Int32 := if t.1 + 20 ≤ 900 then ((t.1 + 20, fun i => if i < t.1 then t.2 i else byt (five a b c d e (i - t.1)) ((i - t.1) % 4)), nI (t.1 + 20)) else (t, -5)
def sTp (a x : Nat) : Bool := Nat.beq a 11 || (Nat.beq a 10 && Nat.beq x 1)
theorem c_putB {d : Nat} {h : Hp} {n : Nat} {a : Int32} {Q : Po} (hp : rI h 10 1 = nI n) (hn : n + 4 ≤ 900) (k : ∀ h1, Fq sTp h h1 → rI h1 10 1 = nI (n + 1 + 1 + 1 + 1) → (∀ i, i < n → rI h1 11 i = rI h 11 i) → (∀ q, q < 4 → rI h1 11 (n + q) = (nI (byt a q)).toInt8.toInt32) → Q mk_ h1) : wpC (d + 1) true 162 [.ref 10, .int a] h Q := by
  refine go_in rfl ?_
  refine exf_go 4 (show ((24 : Int32) < 0 → Go d true 162 46 [.ref 10, .int a, .int 24] [] h Q) ∧ (¬ ((24 : Int32) < 0) → Go d true 162 7 [.ref 10, .int a, .int 24] [] h Q) from ⟨fun c1 => ?_, fun c1 => ?_⟩)
  · skip
    exact absurd c1 (by decide)
  · skip
    refine exf_go 2 (show Go d true 162 11 [.ref 10, .int a, .int 24] [.int (rI h 10 1)] h Q from ?_)
    rw [show (rI h 10 1 : Int32) = nI n from hp]
    refine exf_go 2 (show (900 ≤ (nI n) → Go d true 162 46 [.ref 10, .int a, .int 24] [] h Q) ∧ (¬ (900 ≤ (nI n)) → Go d true 162 17 [.ref 10, .int a, .int 24] [] h Q) from ⟨fun c2 => ?_, fun c2 => ?_⟩)
    · skip
      have c2 : 900 ≤ n := (nI_leI (a := 900) (b := n) (by omega) (by omega)).mp c2
      refine exf_go 1 (show Q (mk_) h from ?_)
      exfalso; omega
    · skip
      have c2 : ¬ 900 ≤ n := fun q => c2 ((nI_leI (a := 900) (b := n) (by omega) (by omega)).mpr q)
      refine exf_go 4 (show Go d true 162 25 [.ref 10, .int a, .int 24] [.int (rI h 10 1), .ref 11] h Q from ?_)
      rw [show (rI h 10 1 : Int32) = nI n from hp]
      refine exf_go 8 (show vp_in (nI n) 900 ∧ (Go d true 162 35 [.ref 10, .int a, .int 24] [.int (rI h 10 1), .ref 10] (uI h 11 ((nI n).toNatClampNeg) (vp_nar .byte ((a >>> (24 &&& 31)).toInt8.toInt32))) Q) from ⟨(vp_in_nI (by omega) (by omega)), ?_⟩)
      rw [show (rI h 10 1 : Int32) = nI n from hp]
      refine exf_go 2 (show Go d true 162 37 [.ref 10, .int a, .int 24] [.int ((nI n) + 1), .ref 10] (uI h 11 ((nI n).toNatClampNeg) (vp_nar .byte ((a >>> (24 &&& 31)).toInt8.toInt32))) Q from ?_)
      rw [show ((nI n) + 1 : Int32) = nI (n + 1) from nI_add n 1]
      refine exf_go 2 (show Go d true 162 43 [.ref 10, .int a, .int (24 + (-8))] [] (uI (uI h 11 ((nI n).toNatClampNeg) (vp_nar .byte ((a >>> (24 &&& 31)).toInt8.toInt32))) 10 1 (nI (n + 1))) Q from ?_)
      rw [show (24 + (-8) : Int32) = 16 from by decide]
      refine exf_go 3 (show ((16 : Int32) < 0 → Go d true 162 46 [.ref 10, .int a, .int 16] [] (uI (uI h 11 ((nI n).toNatClampNeg) (vp_nar .byte ((a >>> (24 &&& 31)).toInt8.toInt32))) 10 1 (nI (n + 1))) Q) ∧ (¬ ((16 : Int32) < 0) → Go d true 162 7 [.ref 10, .int a, .int 16] [] (uI (uI h 11 ((nI n).toNatClampNeg) (vp_nar .byte ((a >>> (24 &&& 31)).toInt8.toInt32))) 10 1 (nI (n + 1))) Q) from ⟨fun c3 => ?_, fun c3 => ?_⟩)
      · skip
        exact absurd c3 (by decide)
      · skip
        refine exf_go 4 (show (900 ≤ (nI (n + 1)) → Go d true 162 46 [.ref 10, .int a, .int 16] [] (uI (uI h 11 ((nI n).toNatClampNeg) (vp_nar .byte ((a >>> (24 &&& 31)).toInt8.toInt32))) 10 1 (nI (n + 1))) Q) ∧ (¬ (900 ≤ (nI (n + 1))) → Go d true 162 17 [.ref 10, .int a, .int 16] [] (uI (uI h 11 ((nI n).toNatClampNeg) (vp_nar .byte ((a >>> (24 &&& 31)).toInt8.toInt32))) 10 1 (nI (n + 1))) Q) from ⟨fun c4 => ?_, fun c4 => ?_⟩)
        · skip
          have c4 : 900 ≤ (n + 1) := (nI_leI (a := 900) (b := (n + 1)) (by omega) (by omega)).mp c4
          refine exf_go 1 (show Q (mk_) (uI (uI h 11 ((nI n).toNatClampNeg) (vp_nar .byte ((a >>> (24 &&& 31)).toInt8.toInt32))) 10 1 (nI (n + 1))) from ?_)
          exfalso; omega
        · skip
          have c4 : ¬ 900 ≤ (n + 1) := fun q => c4 ((nI_leI (a := 900) (b := (n + 1)) (by omega) (by omega)).mpr q)
          refine exf_go 14 (show vp_in (nI (n + 1)) 900 ∧ (Go d true 162 37 [.ref 10, .int a, .int 16] [.int ((nI (n + 1)) + 1), .ref 10] (uI (uI (uI h 11 ((nI n).toNatClampNeg) (vp_nar .byte ((a >>> (24 &&& 31)).toInt8.toInt32))) 10 1 (nI (n + 1))) 11 ((nI (n + 1)).toNatClampNeg) (vp_nar .byte ((a >>> (16 &&& 31)).toInt8.toInt32))) Q) from ⟨(vp_in_nI (by omega) (by omega)), ?_⟩)
          rw [show ((nI (n + 1)) + 1 : Int32) = nI ((n + 1) + 1) from nI_add (n + 1) 1]
          refine exf_go 2 (show Go d true 162 43 [.ref 10, .int a, .int (16 + (-8))] [] (uI (uI (uI (uI h 11 ((nI n).toNatClampNeg) (vp_nar .byte ((a >>> (24 &&& 31)).toInt8.toInt32))) 10 1 (nI (n + 1))) 11 ((nI (n + 1)).toNatClampNeg) (vp_nar .byte ((a >>> (16 &&& 31)).toInt8.toInt32))) 10 1 (nI ((n + 1) + 1))) Q from ?_)
          rw [show (16 + (-8) : Int32) = 8 from by decide]
          refine exf_go 3 (show ((8 : Int32) < 0 → Go d true 162 46 [.ref 10, .int a, .int 8] [] (uI (uI (uI (uI h 11 ((nI n).toNatClampNeg) (vp_nar .byte ((a >>> (24 &&& 31)).toInt8.toInt32))) 10 1 (nI (n + 1))) 11 ((nI (n + 1)).toNatClampNeg) (vp_nar .byte ((a >>> (16 &&& 31)).toInt8.toInt32))) 10 1 (nI ((n + 1) + 1))) Q) ∧ (¬ ((8 : Int32) < 0) → Go d true 162 7 [.ref 10, .int a, .int 8] [] (uI (uI (uI (uI h 11 ((nI n).toNatClampNeg) (vp_nar .byte ((a >>> (24 &&& 31)).toInt8.toInt32))) 10 1 (nI (n + 1))) 11 ((nI (n + 1)).toNatClampNeg) (vp_nar .byte ((a >>> (16 &&& 31)).toInt8.toInt32))) 10 1 (nI ((n + 1) + 1))) Q) from ⟨fun c5 => ?_, fun c5 => ?_⟩)
          · skip
            exact absurd c5 (by decide)
          · skip
            refine exf_go 4 (show (900 ≤ (nI ((n + 1) + 1)) → Go d true 162 46 [.ref 10, .int a, .int 8] [] (uI (uI (uI (uI h 11 ((nI n).toNatClampNeg) (vp_nar .byte ((a >>> (24 &&& 31)).toInt8.toInt32))) 10 1 (nI (n + 1))) 11 ((nI (n + 1)).toNatClampNeg) (vp_nar .byte ((a >>> (16 &&& 31)).toInt8.toInt32))) 10 1 (nI ((n + 1) + 1))) Q) ∧ (¬ (900 ≤ (nI ((n + 1) + 1))) → Go d true 162 17 [.ref 10, .int a, .int 8] [] (uI (uI (uI (uI h 11 ((nI n).toNatClampNeg) (vp_nar .byte ((a >>> (24 &&& 31)).toInt8.toInt32))) 10 1 (nI (n + 1))) 11 ((nI (n + 1)).toNatClampNeg) (vp_nar .byte ((a >>> (16 &&& 31)).toInt8.toInt32))) 10 1 (nI ((n + 1) + 1))) Q) from ⟨fun c6 => ?_, fun c6 => ?_⟩)
            · skip
              have c6 : 900 ≤ ((n + 1) + 1) := (nI_leI (a := 900) (b := ((n + 1) + 1)) (by omega) (by omega)).mp c6
              refine exf_go 1 (show Q (mk_) (uI (uI (uI (uI h 11 ((nI n).toNatClampNeg) (vp_nar .byte ((a >>> (24 &&& 31)).toInt8.toInt32))) 10 1 (nI (n + 1))) 11 ((nI (n + 1)).toNatClampNeg) (vp_nar .byte ((a >>> (16 &&& 31)).toInt8.toInt32))) 10 1 (nI ((n + 1) + 1))) from ?_)
              exfalso; omega
            · skip
              have c6 : ¬ 900 ≤ ((n + 1) + 1) := fun q => c6 ((nI_leI (a := 900) (b := ((n + 1) + 1)) (by omega) (by omega)).mpr q)
              refine exf_go 14 (show vp_in (nI ((n + 1) + 1)) 900 ∧ (Go d true 162 37 [.ref 10, .int a, .int 8] [.int ((nI ((n + 1) + 1)) + 1), .ref 10] (uI (uI (uI (uI (uI h 11 ((nI n).toNatClampNeg) (vp_nar .byte ((a >>> (24 &&& 31)).toInt8.toInt32))) 10 1 (nI (n + 1))) 11 ((nI (n + 1)).toNatClampNeg) (vp_nar .byte ((a >>> (16 &&& 31)).toInt8.toInt32))) 10 1 (nI ((n + 1) + 1))) 11 ((nI ((n + 1) + 1)).toNatClampNeg) (vp_nar .byte ((a >>> (8 &&& 31)).toInt8.toInt32))) Q) from ⟨(vp_in_nI (by omega) (by omega)), ?_⟩)
              rw [show ((nI ((n + 1) + 1)) + 1 : Int32) = nI (((n + 1) + 1) + 1) from nI_add ((n + 1) + 1) 1]
              refine exf_go 2 (show Go d true 162 43 [.ref 10, .int a, .int (8 + (-8))] [] (uI (uI (uI (uI (uI (uI h 11 ((nI n).toNatClampNeg) (vp_nar .byte ((a >>> (24 &&& 31)).toInt8.toInt32))) 10 1 (nI (n + 1))) 11 ((nI (n + 1)).toNatClampNeg) (vp_nar .byte ((a >>> (16 &&& 31)).toInt8.toInt32))) 10 1 (nI ((n + 1) + 1))) 11 ((nI ((n + 1) + 1)).toNatClampNeg) (vp_nar .byte ((a >>> (8 &&& 31)).toInt8.toInt32))) 10 1 (nI (((n + 1) + 1) + 1))) Q from ?_)
              rw [show (8 + (-8) : Int32) = 0 from by decide]
              refine exf_go 3 (show ((0 : Int32) < 0 → Go d true 162 46 [.ref 10, .int a, .int 0] [] (uI (uI (uI (uI (uI (uI h 11 ((nI n).toNatClampNeg) (vp_nar .byte ((a >>> (24 &&& 31)).toInt8.toInt32))) 10 1 (nI (n + 1))) 11 ((nI (n + 1)).toNatClampNeg) (vp_nar .byte ((a >>> (16 &&& 31)).toInt8.toInt32))) 10 1 (nI ((n + 1) + 1))) 11 ((nI ((n + 1) + 1)).toNatClampNeg) (vp_nar .byte ((a >>> (8 &&& 31)).toInt8.toInt32))) 10 1 (nI (((n + 1) + 1) + 1))) Q) ∧ (¬ ((0 : Int32) < 0) → Go d true 162 7 [.ref 10, .int a, .int 0] [] (uI (uI (uI (uI (uI (uI h 11 ((nI n).toNatClampNeg) (vp_nar .byte ((a >>> (24 &&& 31)).toInt8.toInt32))) 10 1 (nI (n + 1))) 11 ((nI (n + 1)).toNatClampNeg) (vp_nar .byte ((a >>> (16 &&& 31)).toInt8.toInt32))) 10 1 (nI ((n + 1) + 1))) 11 ((nI ((n + 1) + 1)).toNatClampNeg) (vp_nar .byte ((a >>> (8 &&& 31)).toInt8.toInt32))) 10 1 (nI (((n + 1) + 1) + 1))) Q) from ⟨fun c7 => ?_, fun c7 => ?_⟩)
              · skip
                exact absurd c7 (by decide)
              · skip
                refine exf_go 4 (show (900 ≤ (nI (((n + 1) + 1) + 1)) → Go d true 162 46 [.ref 10, .int a, .int 0] [] (uI (uI (uI (uI (uI (uI h 11 ((nI n).toNatClampNeg) (vp_nar .byte ((a >>> (24 &&& 31)).toInt8.toInt32))) 10 1 (nI (n + 1))) 11 ((nI (n + 1)).toNatClampNeg) (vp_nar .byte ((a >>> (16 &&& 31)).toInt8.toInt32))) 10 1 (nI ((n + 1) + 1))) 11 ((nI ((n + 1) + 1)).toNatClampNeg) (vp_nar .byte ((a >>> (8 &&& 31)).toInt8.toInt32))) 10 1 (nI (((n + 1) + 1) + 1))) Q) ∧ (¬ (900 ≤ (nI (((n + 1) + 1) + 1))) → Go d true 162 17 [.ref 10, .int a, .int 0] [] (uI (uI (uI (uI (uI (uI h 11 ((nI n).toNatClampNeg) (vp_nar .byte ((a >>> (24 &&& 31)).toInt8.toInt32))) 10 1 (nI (n + 1))) 11 ((nI (n + 1)).toNatClampNeg) (vp_nar .byte ((a >>> (16 &&& 31)).toInt8.toInt32))) 10 1 (nI ((n + 1) + 1))) 11 ((nI ((n + 1) + 1)).toNatClampNeg) (vp_nar .byte ((a >>> (8 &&& 31)).toInt8.toInt32))) 10 1 (nI (((n + 1) + 1) + 1))) Q) from ⟨fun c8 => ?_, fun c8 => ?_⟩)
                · skip
                  have c8 : 900 ≤ (((n + 1) + 1) + 1) := (nI_leI (a := 900) (b := (((n + 1) + 1) + 1)) (by omega) (by omega)).mp c8
                  refine exf_go 1 (show Q (mk_) (uI (uI (uI (uI (uI (uI h 11 ((nI n).toNatClampNeg) (vp_nar .byte ((a >>> (24 &&& 31)).toInt8.toInt32))) 10 1 (nI (n + 1))) 11 ((nI (n + 1)).toNatClampNeg) (vp_nar .byte ((a >>> (16 &&& 31)).toInt8.toInt32))) 10 1 (nI ((n + 1) + 1))) 11 ((nI ((n + 1) + 1)).toNatClampNeg) (vp_nar .byte ((a >>> (8 &&& 31)).toInt8.toInt32))) 10 1 (nI (((n + 1) + 1) + 1))) from ?_)
                  exfalso; omega
                · skip
                  have c8 : ¬ 900 ≤ (((n + 1) + 1) + 1) := fun q => c8 ((nI_leI (a := 900) (b := (((n + 1) + 1) + 1)) (by omega) (by omega)).mpr q)
                  refine exf_go 14 (show vp_in (nI (((n + 1) + 1) + 1)) 900 ∧ (Go d true 162 37 [.ref 10, .int a, .int 0] [.int ((nI (((n + 1) + 1) + 1)) + 1), .ref 10] (uI (uI (uI (uI (uI (uI (uI h 11 ((nI n).toNatClampNeg) (vp_nar .byte ((a >>> (24 &&& 31)).toInt8.toInt32))) 10 1 (nI (n + 1))) 11 ((nI (n + 1)).toNatClampNeg) (vp_nar .byte ((a >>> (16 &&& 31)).toInt8.toInt32))) 10 1 (nI ((n + 1) + 1))) 11 ((nI ((n + 1) + 1)).toNatClampNeg) (vp_nar .byte ((a >>> (8 &&& 31)).toInt8.toInt32))) 10 1 (nI (((n + 1) + 1) + 1))) 11 ((nI (((n + 1) + 1) + 1)).toNatClampNeg) (vp_nar .byte ((a >>> (0 &&& 31)).toInt8.toInt32))) Q) from ⟨(vp_in_nI (by omega) (by omega)), ?_⟩)
                  rw [show ((nI (((n + 1) + 1) + 1)) + 1 : Int32) = nI ((((n + 1) + 1) + 1) + 1) from nI_add (((n + 1) + 1) + 1) 1]
                  refine exf_go 2 (show Go d true 162 43 [.ref 10, .int a, .int (0 + (-8))] [] (uI (uI (uI (uI (uI (uI (uI (uI h 11 ((nI n).toNatClampNeg) (vp_nar .byte ((a >>> (24 &&& 31)).toInt8.toInt32))) 10 1 (nI (n + 1))) 11 ((nI (n + 1)).toNatClampNeg) (vp_nar .byte ((a >>> (16 &&& 31)).toInt8.toInt32))) 10 1 (nI ((n + 1) + 1))) 11 ((nI ((n + 1) + 1)).toNatClampNeg) (vp_nar .byte ((a >>> (8 &&& 31)).toInt8.toInt32))) 10 1 (nI (((n + 1) + 1) + 1))) 11 ((nI (((n + 1) + 1) + 1)).toNatClampNeg) (vp_nar .byte ((a >>> (0 &&& 31)).toInt8.toInt32))) 10 1 (nI ((((n + 1) + 1) + 1) + 1))) Q from ?_)
                  rw [show (0 + (-8) : Int32) = (-8) from by decide]
                  refine exf_go 3 (show (((-8) : Int32) < 0 → Go d true 162 46 [.ref 10, .int a, .int (-8)] [] (uI (uI (uI (uI (uI (uI (uI (uI h 11 ((nI n).toNatClampNeg) (vp_nar .byte ((a >>> (24 &&& 31)).toInt8.toInt32))) 10 1 (nI (n + 1))) 11 ((nI (n + 1)).toNatClampNeg) (vp_nar .byte ((a >>> (16 &&& 31)).toInt8.toInt32))) 10 1 (nI ((n + 1) + 1))) 11 ((nI ((n + 1) + 1)).toNatClampNeg) (vp_nar .byte ((a >>> (8 &&& 31)).toInt8.toInt32))) 10 1 (nI (((n + 1) + 1) + 1))) 11 ((nI (((n + 1) + 1) + 1)).toNatClampNeg) (vp_nar .byte ((a >>> (0 &&& 31)).toInt8.toInt32))) 10 1 (nI ((((n + 1) + 1) + 1) + 1))) Q) ∧ (¬ (((-8) : Int32) < 0) → Go d true 162 7 [.ref 10, .int a, .int (-8)] [] (uI (uI (uI (uI (uI (uI (uI (uI h 11 ((nI n).toNatClampNeg) (vp_nar .byte ((a >>> (24 &&& 31)).toInt8.toInt32))) 10 1 (nI (n + 1))) 11 ((nI (n + 1)).toNatClampNeg) (vp_nar .byte ((a >>> (16 &&& 31)).toInt8.toInt32))) 10 1 (nI ((n + 1) + 1))) 11 ((nI ((n + 1) + 1)).toNatClampNeg) (vp_nar .byte ((a >>> (8 &&& 31)).toInt8.toInt32))) 10 1 (nI (((n + 1) + 1) + 1))) 11 ((nI (((n + 1) + 1) + 1)).toNatClampNeg) (vp_nar .byte ((a >>> (0 &&& 31)).toInt8.toInt32))) 10 1 (nI ((((n + 1) + 1) + 1) + 1))) Q) from ⟨fun c9 => ?_, fun c9 => ?_⟩)
                  · skip
                    refine exf_go 1 (show Q (mk_) (uI (uI (uI (uI (uI (uI (uI (uI h 11 ((nI n).toNatClampNeg) (vp_nar .byte ((a >>> (24 &&& 31)).toInt8.toInt32))) 10 1 (nI (n + 1))) 11 ((nI (n + 1)).toNatClampNeg) (vp_nar .byte ((a >>> (16 &&& 31)).toInt8.toInt32))) 10 1 (nI ((n + 1) + 1))) 11 ((nI ((n + 1) + 1)).toNatClampNeg) (vp_nar .byte ((a >>> (8 &&& 31)).toInt8.toInt32))) 10 1 (nI (((n + 1) + 1) + 1))) 11 ((nI (((n + 1) + 1) + 1)).toNatClampNeg) (vp_nar .byte ((a >>> (0 &&& 31)).toInt8.toInt32))) 10 1 (nI ((((n + 1) + 1) + 1) + 1))) from ?_)
                    refine k _ (Fq.uI' (Fq.uI' (Fq.uI' (Fq.uI' (Fq.uI' (Fq.uI' (Fq.uI' (Fq.uI' Fq.rfl' _ _ _ rfl) _ _ _ rfl) _ _ _ rfl) _ _ _ rfl) _ _ _ rfl) _ _ _ rfl) _ _ _ rfl) _ _ _ rfl) rI_uI_eq (fun i hi => by rw [nI_clamp (n := n) (by omega), nI_clamp (n := n + 1) (by omega), nI_clamp (n := n + 1 + 1) (by omega), nI_clamp (n := n + 1 + 1 + 1) (by omega)]; rw [rI_uI_ne (by decide), rI_uI_at (by omega), rI_uI_ne (by decide), rI_uI_at (by omega), rI_uI_ne (by decide), rI_uI_at (by omega), rI_uI_ne (by decide), rI_uI_at (by omega)]) (fun q hq => ?_)
                    rw [nI_clamp (n := n) (by omega), nI_clamp (n := n + 1) (by omega), nI_clamp (n := n + 1 + 1) (by omega), nI_clamp (n := n + 1 + 1 + 1) (by omega)]
                    rcases (show q = 0 ∨ q = 1 ∨ q = 2 ∨ q = 3 by omega) with z | z | z | z <;> subst z
                    · rw [show n + 0 = n from by omega]; rw [rI_uI_ne (by decide), rI_uI_at (by omega), rI_uI_ne (by decide), rI_uI_at (by omega), rI_uI_ne (by decide), rI_uI_at (by omega), rI_uI_ne (by decide), rI_uI_eq]; exact byt_c a 0
                    · rw [show n + 1 = n + 1 from by omega]; rw [rI_uI_ne (by decide), rI_uI_at (by omega), rI_uI_ne (by decide), rI_uI_at (by omega), rI_uI_ne (by decide), rI_uI_eq]; exact byt_c a 1
                    · rw [show n + 2 = n + 1 + 1 from by omega]; rw [rI_uI_ne (by decide), rI_uI_at (by omega), rI_uI_ne (by decide), rI_uI_eq]; exact byt_c a 2
                    · rw [show n + 3 = n + 1 + 1 + 1 from by omega]; rw [rI_uI_ne (by decide), rI_uI_eq]; exact byt_c a 3
                  · skip
                    exact absurd (by decide) c9
theorem fv_at {v : Nat → Int32} {t : TpG} {a b c d e x : Int32} {h : Hp} {n j i : Nat} (hn : n = t.1 + 4 * j) (hj : j < 5) (hx : x = five a b c d e (4 * j)) (hi : n ≤ i) (hi2 : i < n + 4) (hv : ∀ q, q < 4 → rI h 11 (n + q) = (nI (byt x q)).toInt8.toInt32) : rI h 11 i = (nI (byt (five a b c d e (i - t.1)) ((i - t.1) % 4))).toInt8.toInt32 := by
  have h1 := hv (i - n) (by omega)
  rw [show n + (i - n) = i from by omega] at h1
  rw [h1, show (i - t.1) % 4 = i - n from by omega, hx]
  refine congrArg (fun z => (nI (byt z (i - n))).toInt8.toInt32) ?_
  unfold five
  rcases (show j = 0 ∨ j = 1 ∨ j = 2 ∨ j = 3 ∨ j = 4 by omega) with z | z | z | z | z <;> subst z <;> simp <;> (repeat' split) <;> first | rfl | omega
theorem c_feed {d : Nat} {h : Hp} {t : TpG} {a b c dd ee : Int32} {Q : Po} (ct : CTP t h) (k : ∀ h1, Fq sTp h h1 → CTP (dFeed t a b c dd ee).1 h1 → Q (.int (dFeed t a b c dd ee).2) h1) : wpC (d + 2) true 112 [.ref 10, .int a, .int b, .int c, .int dd, .int ee] h Q := by
  have ht9 := ct.1.1
  refine go_in rfl ?_
  refine exf_go 2 (show Go (d + 1) true 112 4 [.ref 10, .int a, .int b, .int c, .int dd, .int ee] [.int (rI h 10 1)] h Q from ?_)
  rw [show (rI h 10 1 : Int32) = nI t.1 from ct.2.1]
  refine exf_go 2 (show Go (d + 1) true 112 7 [.ref 10, .int a, .int b, .int c, .int dd, .int ee] [.int ((nI t.1) + 20)] h Q from ?_)
  rw [show ((nI t.1) + 20 : Int32) = nI (t.1 + 20) from nI_add t.1 20]
  refine exf_go 2 (show ((nI (t.1 + 20)) ≤ 900 → Go (d + 1) true 112 16 [.ref 10, .int a, .int b, .int c, .int dd, .int ee] [] h Q) ∧ (¬ ((nI (t.1 + 20)) ≤ 900) → Go (d + 1) true 112 13 [.ref 10, .int a, .int b, .int c, .int dd, .int ee] [] h Q) from ⟨fun c1 => ?_, fun c1 => ?_⟩)
  · skip
    have c1 : (t.1 + 20) ≤ 900 := (nI_leI (a := (t.1 + 20)) (b := 900) (by omega) (by omega)).mp c1
    refine exf_go 3 (show wpC (d + 1) true 162 [.ref 10, .int a] h (fun _ h' => Go (d + 1) true 112 21 [.ref 10, .int a, .int b, .int c, .int dd, .int ee] [] h' Q) from ?_)
    refine c_putB (n := t.1) (a := a) ct.2.1 (by omega) (fun h1 q1 hp1 u1 v1 => ?_)
    show Go (d + 1) true 112 21 [.ref 10, .int a, .int b, .int c, .int dd, .int ee] [] h1 Q
    refine exf_go 3 (show wpC (d + 1) true 162 [.ref 10, .int b] h1 (fun _ h' => Go (d + 1) true 112 26 [.ref 10, .int a, .int b, .int c, .int dd, .int ee] [] h' Q) from ?_)
    refine c_putB (n := t.1 + 4) (a := b) hp1 (by omega) (fun h2 q2 hp2 u2 v2 => ?_)
    show Go (d + 1) true 112 26 [.ref 10, .int a, .int b, .int c, .int dd, .int ee] [] h2 Q
    refine exf_go 3 (show wpC (d + 1) true 162 [.ref 10, .int c] h2 (fun _ h' => Go (d + 1) true 112 31 [.ref 10, .int a, .int b, .int c, .int dd, .int ee] [] h' Q) from ?_)
    refine c_putB (n := t.1 + 8) (a := c) hp2 (by omega) (fun h3 q3 hp3 u3 v3 => ?_)
    show Go (d + 1) true 112 31 [.ref 10, .int a, .int b, .int c, .int dd, .int ee] [] h3 Q
    refine exf_go 3 (show wpC (d + 1) true 162 [.ref 10, .int dd] h3 (fun _ h' => Go (d + 1) true 112 37 [.ref 10, .int a, .int b, .int c, .int dd, .int ee] [] h' Q) from ?_)
    refine c_putB (n := t.1 + 12) (a := dd) hp3 (by omega) (fun h4 q4 hp4 u4 v4 => ?_)
    show Go (d + 1) true 112 37 [.ref 10, .int a, .int b, .int c, .int dd, .int ee] [] h4 Q
    refine exf_go 3 (show wpC (d + 1) true 162 [.ref 10, .int ee] h4 (fun _ h' => Go (d + 1) true 112 43 [.ref 10, .int a, .int b, .int c, .int dd, .int ee] [] h' Q) from ?_)
    refine c_putB (n := t.1 + 16) (a := ee) hp4 (by omega) (fun h5 q5 hp5 u5 v5 => ?_)
    show Go (d + 1) true 112 43 [.ref 10, .int a, .int b, .int c, .int dd, .int ee] [] h5 Q
    refine exf_go 2 (show Go (d + 1) true 112 47 [.ref 10, .int a, .int b, .int c, .int dd, .int ee] [.int (rI h5 10 1)] h5 Q from ?_)
    rw [show (rI h5 10 1 : Int32) = nI (t.1 + 20) from hp5]
    refine exf_go 1 (show Q (.int (nI (t.1 + 20))) h5 from ?_)
    rw [dFeed, if_pos (by omega)] at k
    refine k _ ((((q1.tr q2).tr q3).tr q4).tr q5) ⟨⟨by show t.1 + 20 ≤ 900; omega, fun i => ?_⟩, hp5, fun i hi => ?_⟩
    · show (if i < t.1 then t.2 i else _) < 256
      split
      · exact ct.1.2 i
      · exact byt_b _ _
    · show rI h5 11 i = (nI (if i < t.1 then t.2 i else byt (five a b c dd ee (i - t.1)) ((i - t.1) % 4))).toInt8.toInt32
      have hi2 : i < t.1 + 20 := hi
      by_cases z0 : i < t.1
      · rw [if_pos z0, u5 i (by omega), u4 i (by omega), u3 i (by omega), u2 i (by omega), u1 i z0]; exact ct.2.2 i z0
      · rw [if_neg z0]
        by_cases z1 : i < t.1 + 4
        · rw [u5 i (by omega), u4 i (by omega), u3 i (by omega), u2 i (by omega)]; exact fv_at (v := fun _ => 0) (j := 0) (n := t.1) (by omega) (by omega) rfl (by omega) (by omega) v1
        by_cases z2 : i < t.1 + 8
        · rw [u5 i (by omega), u4 i (by omega), u3 i (by omega)]; exact fv_at (v := fun _ => 0) (j := 1) (n := t.1 + 4) (by omega) (by omega) rfl (by omega) (by omega) v2
        by_cases z3 : i < t.1 + 12
        · rw [u5 i (by omega), u4 i (by omega)]; exact fv_at (v := fun _ => 0) (j := 2) (n := t.1 + 8) (by omega) (by omega) rfl (by omega) (by omega) v3
        by_cases z4 : i < t.1 + 16
        · rw [u5 i (by omega)]; exact fv_at (v := fun _ => 0) (j := 3) (n := t.1 + 12) (by omega) (by omega) rfl (by omega) (by omega) v4
        exact fv_at (v := fun _ => 0) (j := 4) (n := t.1 + 16) (by omega) (by omega) rfl (by omega) (by omega) v5
  · skip
    have c1 : ¬ (t.1 + 20) ≤ 900 := fun q => c1 ((nI_leI (a := (t.1 + 20)) (b := 900) (by omega) (by omega)).mpr q)
    refine exf_go 2 (show Q (.int (-5)) h from ?_)
    rw [dFeed, if_neg (by omega)] at k; exact k _ Fq.rfl' ct
