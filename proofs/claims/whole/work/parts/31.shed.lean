/-! The class's shed: figures and turns. -/
theorem cs_W {a : Nat} {g : ShG} {h : Hp} (cs : CS a g h) : rI h a 0 = nI (sW g) := cs.2.1
theorem cs_N {a : Nat} {g : ShG} {h : Hp} (cs : CS a g h) : rI h a 5 = nI (tot g) := cs.2.2.1
theorem cs_sF {a : Nat} {g : ShG} {h : Hp} (cs : CS a g h) {n : Nat} (hn : n < 4) : rI h (a + 1) (nI n).toNatClampNeg = nI (sF g n) := by rw [nI_clamp (by omega)]; exact (cs.2.2.2.1 n hn).1
theorem cs_sFl {a : Nat} {g : ShG} {h : Hp} (cs : CS a g h) (n : Nat) (hn : n < 4) : rI h (a + 1) n = nI (sF g n) := (cs.2.2.2.1 n hn).1
theorem cs_sS {a : Nat} {g : ShG} {h : Hp} (cs : CS a g h) {n : Nat} (hn : n < 4) : rI h (a + 2) (nI n).toNatClampNeg = nI (sS g n) := by rw [nI_clamp (by omega)]; exact (cs.2.2.2.1 n hn).2.1
theorem cs_sSl {a : Nat} {g : ShG} {h : Hp} (cs : CS a g h) (n : Nat) (hn : n < 4) : rI h (a + 2) n = nI (sS g n) := (cs.2.2.2.1 n hn).2.1
theorem cs_sR {a : Nat} {g : ShG} {h : Hp} (cs : CS a g h) {n : Nat} (hn : n < 4) : rI h (a + 3) (nI n).toNatClampNeg = nI (sR g n) := by rw [nI_clamp (by omega)]; exact (cs.2.2.2.1 n hn).2.2.1
theorem cs_sRl {a : Nat} {g : ShG} {h : Hp} (cs : CS a g h) (n : Nat) (hn : n < 4) : rI h (a + 3) n = nI (sR g n) := (cs.2.2.2.1 n hn).2.2.1
theorem cs_wor {a : Nat} {g : ShG} {h : Hp} (cs : CS a g h) {n : Nat} (hn : n < 4) : rI h (a + 4) (nI n).toNatClampNeg = nI (wor g n) := by rw [nI_clamp (by omega)]; exact (cs.2.2.2.1 n hn).2.2.2
theorem cs_worl {a : Nat} {g : ShG} {h : Hp} (cs : CS a g h) (n : Nat) (hn : n < 4) : rI h (a + 4) n = nI (wor g n) := (cs.2.2.2.1 n hn).2.2.2
theorem cs_C {a : Nat} {g : ShG} {h : Hp} (cs : CS a g h) : rI h a 6 = nI (sC g) := cs.2.2.2.2.1
theorem cs_P {a : Nat} {g : ShG} {h : Hp} (cs : CS a g h) : rI h a 9 = nI (sP g) := cs.2.2.2.2.2.1
theorem cs_BA {a : Nat} {g : ShG} {h : Hp} (cs : CS a g h) : rI h a 10 = nI (sBA g) := cs.2.2.2.2.2.2.1
theorem cs_BS {a : Nat} {g : ShG} {h : Hp} (cs : CS a g h) : rI h a 11 = nI (sBS g) := cs.2.2.2.2.2.2.2.1
theorem cs_Sw {a : Nat} {g : ShG} {h : Hp} (cs : CS a g h) : rI h a 12 = nI (sSw g) := cs.2.2.2.2.2.2.2.2.1
theorem cs_M {a : Nat} {g : ShG} {h : Hp} (cs : CS a g h) : rI h a 13 = nI (sM g) := cs.2.2.2.2.2.2.2.2.2.1
theorem cs_O {a : Nat} {g : ShG} {h : Hp} (cs : CS a g h) : rI h a 15 = oI (sO g) := cs.2.2.2.2.2.2.2.2.2.2.1
theorem cs_L {a : Nat} {g : ShG} {h : Hp} (cs : CS a g h) : rI h a 17 = nI (sL g) := cs.2.2.2.2.2.2.2.2.2.2.2.1
theorem cs_T {a : Nat} {g : ShG} {h : Hp} (cs : CS a g h) {n : Nat} (hn : n < sC g) : rI h (a + 5) (nI n).toNatClampNeg = nI (sT g n) := by have e := evr_b cs.1; have e2 := cs.1; rw [nI_clamp (by have := e2.2.2.2.1; have := e2.2.2.2.2.2.1; omega)]; exact cs.2.2.2.2.2.2.2.2.2.2.2.2.1 n hn
theorem cs_Tl {a : Nat} {g : ShG} {h : Hp} (cs : CS a g h) (n : Nat) (hn : n < sC g) : rI h (a + 5) n = nI (sT g n) := cs.2.2.2.2.2.2.2.2.2.2.2.2.1 n hn
theorem cs_wt {a : Nat} {g : ShG} {h : Hp} (cs : CS a g h) {n : Nat} (hn : n < 2 ^ sC g) : rI h (a + 6) (nI n).toNatClampNeg = nI (wtA g n) := by have e := evr_b cs.1; have e2 := cs.1; rw [nI_clamp (by have := e2.2.2.2.1; have := e2.2.2.2.2.2.1; omega)]; exact cs.2.2.2.2.2.2.2.2.2.2.2.2.2.1 n hn
theorem cs_wtl {a : Nat} {g : ShG} {h : Hp} (cs : CS a g h) (n : Nat) (hn : n < 2 ^ sC g) : rI h (a + 6) n = nI (wtA g n) := cs.2.2.2.2.2.2.2.2.2.2.2.2.2.1 n hn
theorem cs_K {a : Nat} {g : ShG} {h : Hp} (cs : CS a g h) {n : Nat} (hn : n < sM g) : rI h (a + 7) (nI n).toNatClampNeg = nI (sK g n) := by have e := evr_b cs.1; have e2 := cs.1; rw [nI_clamp (by have := e2.2.2.2.1; have := e2.2.2.2.2.2.1; omega)]; exact cs.2.2.2.2.2.2.2.2.2.2.2.2.2.2 n hn
theorem cs_Kl {a : Nat} {g : ShG} {h : Hp} (cs : CS a g h) (n : Nat) (hn : n < sM g) : rI h (a + 7) n = nI (sK g n) := cs.2.2.2.2.2.2.2.2.2.2.2.2.2.2 n hn
theorem nI_subi {a b : Nat} (ha : a < 2 ^ 31) (hb : b < 2 ^ 31) : (nI a - nI b).toInt = (a : Int) - b := by
  rw [Int32.toInt_sub, nI_toInt ha, nI_toInt hb]
  exact Int.bmod_eq_of_le (by omega) (by omega)
theorem nI_sub_nn {a b : Nat} (ha : a < 2 ^ 31) (hb : b < 2 ^ 31) : 0 ≤ nI a - nI b ↔ b ≤ a := by
  rw [Int32.le_iff_toInt_le, nI_subi ha hb]
  show (0 : Int) ≤ _ ↔ _
  omega
theorem nI_sub_neg {a b : Nat} (ha : a < 2 ^ 31) (hb : b < 2 ^ 31) : nI a - nI b < 0 ↔ a < b := by
  rw [Int32.lt_iff_toInt_lt, nI_subi ha hb]
  show _ < (0 : Int) ↔ _
  omega
theorem nI_negsub (a b : Nat) : -(nI a - nI b) = nI b - nI a := Int32.neg_sub
theorem c_abs {d : Nat} {h : Hp} {a b : Nat} {Q : Po} (ha : a < 2 ^ 31) (hb : b < 2 ^ 31) (k : Q (.int (nI (absd a b))) h) : wpC (d + 1) true 301 [.int (nI a - nI b)] h Q := by
  refine go_in rfl ?_
  refine exf_go 2 (show (0 ≤ (nI a - nI b) → Go d true 301 9 [.int (nI a - nI b)] [] h Q) ∧ (¬ (0 ≤ (nI a - nI b)) → Go d true 301 4 [.int (nI a - nI b)] [] h Q) from ⟨fun c1 => ?_, fun c1 => ?_⟩)
  · skip
    have c1 := (nI_sub_nn (by omega) (by omega)).mp c1
    refine exf_go 2 (show Q (.int (nI a - nI b)) h from ?_)
    rw [pk_sub (by omega), show a - b = absd a b from by unfold absd; omega]; exact k
  · skip
    have c1 : ¬ b ≤ a := fun q => c1 ((nI_sub_nn (by omega) (by omega)).mpr q)
    refine exf_go 4 (show Q (.int (-(nI a - nI b))) h from ?_)
    rw [nI_negsub, pk_sub (by omega), show b - a = absd a b from by unfold absd; omega]; exact k
theorem c_min {d : Nat} {h : Hp} {a b : Nat} {Q : Po} (ha : a < 2 ^ 31) (hb : b < 2 ^ 31) (k : Q (.int (nI (min a b))) h) : wpC (d + 1) true 304 [.int (nI a), .int (nI b)] h Q := by
  refine go_in rfl ?_
  refine exf_go 3 (show ((nI b) < (nI a) → Go d true 304 9 [.int (nI a), .int (nI b)] [] h Q) ∧ (¬ ((nI b) < (nI a)) → Go d true 304 5 [.int (nI a), .int (nI b)] [] h Q) from ⟨fun c1 => ?_, fun c1 => ?_⟩)
  · skip
    have c1 : b < a := (nI_ltI (a := b) (b := a) (by omega) (by omega)).mp c1
    refine exf_go 2 (show Q (.int (nI b)) h from ?_)
    rw [show b = min a b from by omega]; exact k
  · skip
    have c1 : ¬ b < a := fun q => c1 ((nI_ltI (a := b) (b := a) (by omega) (by omega)).mpr q)
    refine exf_go 3 (show Q (.int (nI a)) h from ?_)
    rw [show a = min a b from by omega]; exact k
theorem c_max {d : Nat} {h : Hp} {a b : Nat} {Q : Po} (ha : a < 2 ^ 31) (hb : b < 2 ^ 31) (k : Q (.int (nI (max a b))) h) : wpC (d + 1) true 302 [.int (nI a), .int (nI b)] h Q := by
  refine go_in rfl ?_
  refine exf_go 3 (show ((nI a) < (nI b) → Go d true 302 9 [.int (nI a), .int (nI b)] [] h Q) ∧ (¬ ((nI a) < (nI b)) → Go d true 302 5 [.int (nI a), .int (nI b)] [] h Q) from ⟨fun c1 => ?_, fun c1 => ?_⟩)
  · skip
    have c1 : a < b := (nI_ltI (a := a) (b := b) (by omega) (by omega)).mp c1
    refine exf_go 2 (show Q (.int (nI b)) h from ?_)
    rw [show b = max a b from by omega]; exact k
  · skip
    have c1 : ¬ a < b := fun q => c1 ((nI_ltI (a := a) (b := b) (by omega) (by omega)).mpr q)
    refine exf_go 3 (show Q (.int (nI a)) h from ?_)
    rw [show a = max a b from by omega]; exact k
theorem c_figureOf {d : Nat} {h : Hp} {g : ShG} {n w : Nat} {Q : Po} (cs : CS 31 g h) (hn : n < 2 ^ 31) (hw : w < 4) (k : Q (.int (nI (fgo g n w))) h) : wpC (d + 1) true 81 [.ref 31, .int (nI n), .int (nI w)] h Q := by
  have hf := sF_b cs.1 w
  have ho := wor_b cs.1 w
  have hs := sS_b cs.1 w
  have hr := sR_b cs.1 w
  have hq := Nat.div_le_self n (wor g w)
  refine go_in rfl ?_
  refine exf_go 2 (show ((nI w) < 0 → Go d true 81 29 [.ref 31, .int (nI n), .int (nI w)] [] h Q) ∧ (¬ ((nI w) < 0) → Go d true 81 4 [.ref 31, .int (nI n), .int (nI w)] [] h Q) from ⟨fun c1 => ?_, fun c1 => ?_⟩)
  · skip
    have c1 : w < 0 := (nI_ltI (a := w) (b := 0) (by omega) (by omega)).mp c1
    refine exf_go 2 (show Q (.int 0) h from ?_)
    exfalso; omega
  · skip
    have c1 : ¬ w < 0 := fun q => c1 ((nI_ltI (a := w) (b := 0) (by omega) (by omega)).mpr q)
    refine exf_go 3 (show (4 ≤ (nI w) → Go d true 81 29 [.ref 31, .int (nI n), .int (nI w)] [] h Q) ∧ (¬ (4 ≤ (nI w)) → Go d true 81 9 [.ref 31, .int (nI n), .int (nI w)] [] h Q) from ⟨fun c2 => ?_, fun c2 => ?_⟩)
    · skip
      have c2 : 4 ≤ w := (nI_leI (a := 4) (b := w) (by omega) (by omega)).mp c2
      refine exf_go 2 (show Q (.int 0) h from ?_)
      exfalso; omega
    · skip
      have c2 : ¬ 4 ≤ w := fun q => c2 ((nI_leI (a := 4) (b := w) (by omega) (by omega)).mpr q)
      refine exf_go 4 (show vp_in (nI w) 4 ∧ (Go d true 81 15 [.ref 31, .int (nI n), .int (nI w)] [.int (rI h 35 ((nI w).toNatClampNeg))] h Q) from ⟨(vp_in_nI (by omega) (by omega)), ?_⟩)
      rw [show (rI h 35 ((nI w).toNatClampNeg) : Int32) = nI (wor g w) from cs_wor cs (n := w) (by omega)]
      refine exf_go 2 (show ((nI (wor g w)) < 1 → Go d true 81 29 [.ref 31, .int (nI n), .int (nI w)] [] h Q) ∧ (¬ ((nI (wor g w)) < 1) → Go d true 81 19 [.ref 31, .int (nI n), .int (nI w)] [] h Q) from ⟨fun c3 => ?_, fun c3 => ?_⟩)
      · skip
        have c3 : (wor g w) < 1 := (nI_ltI (a := (wor g w)) (b := 1) (by omega) (by omega)).mp c3
        refine exf_go 2 (show Q (.int 0) h from ?_)
        exfalso; omega
      · skip
        have c3 : ¬ (wor g w) < 1 := fun q => c3 ((nI_ltI (a := (wor g w)) (b := 1) (by omega) (by omega)).mpr q)
        refine exf_go 4 (show vp_in (nI w) 4 ∧ (Go d true 81 25 [.ref 31, .int (nI n), .int (nI w)] [.int (rI h 32 ((nI w).toNatClampNeg))] h Q) from ⟨(vp_in_nI (by omega) (by omega)), ?_⟩)
        rw [show (rI h 32 ((nI w).toNatClampNeg) : Int32) = nI (sF g w) from cs_sF cs (n := w) (by omega)]
        refine exf_go 2 (show (1 ≤ (nI (sF g w)) → Go d true 81 31 [.ref 31, .int (nI n), .int (nI w)] [] h Q) ∧ (¬ (1 ≤ (nI (sF g w))) → Go d true 81 29 [.ref 31, .int (nI n), .int (nI w)] [] h Q) from ⟨fun c4 => ?_, fun c4 => ?_⟩)
        · skip
          have c4 : 1 ≤ (sF g w) := (nI_leI (a := 1) (b := (sF g w)) (by omega) (by omega)).mp c4
          refine exf_go 5 (show vp_in (nI w) 4 ∧ (Go d true 81 38 [.ref 31, .int (nI n), .int (nI w)] [.int (rI h 35 ((nI w).toNatClampNeg)), .int (nI n)] h Q) from ⟨(vp_in_nI (by omega) (by omega)), ?_⟩)
          rw [show (rI h 35 ((nI w).toNatClampNeg) : Int32) = nI (wor g w) from cs_wor cs (n := w) (by omega)]
          refine exf_go 1 (show ¬ (nI (wor g w)) = 0 ∧ (Go d true 81 39 [.ref 31, .int (nI n), .int (nI w)] [.int ((nI n) / (nI (wor g w)))] h Q) from ⟨(nI_ne0 (n := (wor g w)) (by omega) (by omega)), ?_⟩)
          rw [show ((nI n) / (nI (wor g w)) : Int32) = nI (n / (wor g w)) from pk_div (a := n) (d := (wor g w)) (by omega) (by omega) (by omega)]
          refine exf_go 4 (show vp_in (nI w) 4 ∧ (Go d true 81 45 [.ref 31, .int (nI n), .int (nI w)] [.int (rI h 32 ((nI w).toNatClampNeg)), .int (nI (n / (wor g w)))] h Q) from ⟨(vp_in_nI (by omega) (by omega)), ?_⟩)
          rw [show (rI h 32 ((nI w).toNatClampNeg) : Int32) = nI (sF g w) from cs_sF cs (n := w) (by omega)]
          refine exf_go 1 (show ¬ (nI (sF g w)) = 0 ∧ (Go d true 81 46 [.ref 31, .int (nI n), .int (nI w)] [.int ((nI (n / (wor g w))) - (nI (n / (wor g w))) / (nI (sF g w)) * (nI (sF g w)))] h Q) from ⟨(nI_ne0 (n := (sF g w)) (by omega) (by omega)), ?_⟩)
          rw [show ((nI (n / (wor g w))) - (nI (n / (wor g w))) / (nI (sF g w)) * (nI (sF g w)) : Int32) = nI ((n / (wor g w)) % (sF g w)) from pk_rem (a := (n / (wor g w))) (d := (sF g w)) (by omega) (by omega) (by omega)]
          refine exf_go 1 (show Q (.int (nI ((n / (wor g w)) % (sF g w)))) h from ?_)
          exact k
        · skip
          have c4 : ¬ 1 ≤ (sF g w) := fun q => c4 ((nI_leI (a := 1) (b := (sF g w)) (by omega) (by omega)).mpr q)
          refine exf_go 2 (show Q (.int 0) h from ?_)
          exfalso; omega
theorem c_turnsW {d : Nat} {h : Hp} {g : ShG} {w a b : Nat} {Q : Po} (cs : CS 31 g h) (hw : w < 4) (ha : a < sF g w) (hb : b < sF g w) (k : Q (.int (nI (tnw g w a b))) h) : wpC (d + 2) true 82 [.ref 31, .int (nI w), .int (nI a), .int (nI b)] h Q := by
  have hf := sF_b cs.1 w
  have ho := wor_b cs.1 w
  have hs := sS_b cs.1 w
  have hr := sR_b cs.1 w
  have hd : absd a b < sF g w := by unfold absd; omega
  refine go_in rfl ?_
  refine exf_go 4 (show wpC (d + 1) true 301 [.int ((nI a) - (nI b))] h (fun r h' => Go (d + 1) true 82 6 [.ref 31, .int (nI w), .int (nI a), .int (nI b), mk_] [r] h' Q) from ?_)
  refine c_abs (a := a) (b := b) (by omega) (by omega) ?_
  show Go (d + 1) true 82 6 [.ref 31, .int (nI w), .int (nI a), .int (nI b), mk_] [.int (nI (absd a b))] h Q
  refine exf_go 5 (show vp_in (nI w) 4 ∧ (Go (d + 1) true 82 14 [.ref 31, .int (nI w), .int (nI a), .int (nI b), .int (nI (absd a b))] [.int (rI h 34 ((nI w).toNatClampNeg))] h Q) from ⟨(vp_in_nI (by omega) (by omega)), ?_⟩)
  rw [show (rI h 34 ((nI w).toNatClampNeg) : Int32) = nI (sR g w) from cs_sR cs (n := w) (by omega)]
  refine exf_go 2 (show (¬ (nI (sR g w)) = 1 → Go (d + 1) true 82 34 [.ref 31, .int (nI w), .int (nI a), .int (nI b), .int (nI (absd a b))] [] h Q) ∧ (¬ (¬ (nI (sR g w)) = 1) → Go (d + 1) true 82 18 [.ref 31, .int (nI w), .int (nI a), .int (nI b), .int (nI (absd a b))] [] h Q) from ⟨fun c1 => ?_, fun c1 => ?_⟩)
  · skip
    have c1 : ¬ (sR g w) = 1 := fun q => c1 ((nI_eq (a := (sR g w)) (b := 1) (by omega) (by omega)).mpr q)
    refine exf_go 5 (show vp_in (nI w) 4 ∧ (Go (d + 1) true 82 42 [.ref 31, .int (nI w), .int (nI a), .int (nI b), .int (nI (absd a b))] [.int (rI h 33 ((nI w).toNatClampNeg)), .int (nI (absd a b))] h Q) from ⟨(vp_in_nI (by omega) (by omega)), ?_⟩)
    rw [show (rI h 33 ((nI w).toNatClampNeg) : Int32) = nI (sS g w) from cs_sS cs (n := w) (by omega)]
    refine exf_go 1 (show Go (d + 1) true 82 43 [.ref 31, .int (nI w), .int (nI a), .int (nI b), .int (nI (absd a b))] [.int ((nI (absd a b)) * (nI (sS g w)))] h Q from ?_)
    rw [show ((nI (absd a b)) * (nI (sS g w)) : Int32) = nI ((absd a b) * (sS g w)) from pk_mul (absd a b) (sS g w)]
    refine exf_go 1 (show Q (.int (nI ((absd a b) * (sS g w)))) h from ?_)
    rw [show (absd a b) * (sS g w) = tnw g w a b from by unfold tnw stw; first | rw [if_pos (by assumption)] | rw [if_neg (by assumption)]]; exact k
  · skip
    have c1 : (sR g w) = 1 := (nI_eq (a := (sR g w)) (b := 1) (by omega) (by omega)).mp (Classical.not_not.mp c1)
    refine exf_go 5 (show vp_in (nI w) 4 ∧ (Go (d + 1) true 82 26 [.ref 31, .int (nI w), .int (nI a), .int (nI b), .int (nI (absd a b))] [.int (rI h 32 ((nI w).toNatClampNeg)), .int (nI (absd a b))] h Q) from ⟨(vp_in_nI (by omega) (by omega)), ?_⟩)
    rw [show (rI h 32 ((nI w).toNatClampNeg) : Int32) = nI (sF g w) from cs_sF cs (n := w) (by omega)]
    refine exf_go 2 (show Go (d + 1) true 82 29 [.ref 31, .int (nI w), .int (nI a), .int (nI b), .int (nI (absd a b))] [.int ((nI (sF g w)) - (nI (absd a b))), .int (nI (absd a b))] h Q from ?_)
    rw [show ((nI (sF g w)) - (nI (absd a b)) : Int32) = nI ((sF g w) - (absd a b)) from pk_sub (a := (sF g w)) (b := (absd a b)) (by omega)]
    refine exf_go 1 (show wpC (d + 1) true 304 [.int (nI (absd a b)), .int (nI ((sF g w) - (absd a b)))] h (fun r h' => Go (d + 1) true 82 32 [.ref 31, .int (nI w), .int (nI a), .int (nI b), .int (nI (absd a b))] [r] h' Q) from ?_)
    refine c_min (by omega) (by omega) ?_
    show Go (d + 1) true 82 32 [.ref 31, .int (nI w), .int (nI a), .int (nI b), .int (nI (absd a b))] [.int (nI (min (absd a b) ((sF g w) - (absd a b))))] h Q
    refine exf_go 6 (show vp_in (nI w) 4 ∧ (Go (d + 1) true 82 42 [.ref 31, .int (nI w), .int (nI a), .int (nI b), .int (nI (min (absd a b) ((sF g w) - (absd a b))))] [.int (rI h 33 ((nI w).toNatClampNeg)), .int (nI (min (absd a b) ((sF g w) - (absd a b))))] h Q) from ⟨(vp_in_nI (by omega) (by omega)), ?_⟩)
    rw [show (rI h 33 ((nI w).toNatClampNeg) : Int32) = nI (sS g w) from cs_sS cs (n := w) (by omega)]
    refine exf_go 1 (show Go (d + 1) true 82 43 [.ref 31, .int (nI w), .int (nI a), .int (nI b), .int (nI (min (absd a b) ((sF g w) - (absd a b))))] [.int ((nI (min (absd a b) ((sF g w) - (absd a b)))) * (nI (sS g w)))] h Q from ?_)
    rw [show ((nI (min (absd a b) ((sF g w) - (absd a b)))) * (nI (sS g w)) : Int32) = nI ((min (absd a b) ((sF g w) - (absd a b))) * (sS g w)) from pk_mul (min (absd a b) ((sF g w) - (absd a b))) (sS g w)]
    refine exf_go 1 (show Q (.int (nI ((min (absd a b) ((sF g w) - (absd a b))) * (sS g w)))) h from ?_)
    rw [show (min (absd a b) ((sF g w) - (absd a b))) * (sS g w) = tnw g w a b from by unfold tnw stw; first | rw [if_pos (by assumption)] | rw [if_neg (by assumption)]]; exact k
theorem c_turns {d : Nat} {h : Hp} {g : ShG} {n m : Nat} {Q : Po} (cs : CS 31 g h) (hn : n < 2 ^ 31) (hm : m < 2 ^ 31) (k : Q (.int (nI (trn g n m))) h) : wpC (d + 3) true 83 [.ref 31, .int (nI n), .int (nI m)] h Q := by
  have h4 := cs.1.1
  refine go_in rfl ?_
  refine exf_go 4 (show Go (d + 2) true 83 5 [.ref 31, .int (nI n), .int (nI m), .int 0, .int 0] [] h Q from ?_)
  have L5 : ∀ (k5 : Nat) (w : Nat), (4 - w) < k5 → (w ≤ sW g) → Go (d + 2) true 83 5 [.ref 31, .int (nI n), .int (nI m), .int (nI (sumN (fun w => tnw g w (fgo g n w) (fgo g m w)) w)), .int (nI w)] [] h Q := by
    intro k5
    induction k5 with
    | zero => intro w hk; exact absurd hk (Nat.not_lt_zero _)
    | succ k5 ih5 =>
      intro w hk hw
      refine exf_go 3 (show Go (d + 2) true 83 11 [.ref 31, .int (nI n), .int (nI m), .int (nI (sumN (fun w => tnw g w (fgo g n w) (fgo g m w)) w)), .int (nI w)] [.int (rI h 31 0), .int (nI w)] h Q from ?_)
      rw [show (rI h 31 0 : Int32) = nI (sW g) from cs_W cs]
      refine exf_go 1 (show ((nI (sW g)) ≤ (nI w) → Go (d + 2) true 83 43 [.ref 31, .int (nI n), .int (nI m), .int (nI (sumN (fun w => tnw g w (fgo g n w) (fgo g m w)) w)), .int (nI w)] [] h Q) ∧ (¬ ((nI (sW g)) ≤ (nI w)) → Go (d + 2) true 83 14 [.ref 31, .int (nI n), .int (nI m), .int (nI (sumN (fun w => tnw g w (fgo g n w) (fgo g m w)) w)), .int (nI w)] [] h Q) from ⟨fun c1 => ?_, fun c1 => ?_⟩)
      · skip
        have c1 : (sW g) ≤ w := (nI_leI (a := (sW g)) (b := w) (by omega) (by omega)).mp c1
        refine exf_go 2 (show Q (.int (nI (sumN (fun w => tnw g w (fgo g n w) (fgo g m w)) w))) h from ?_)
        rw [show w = sW g from by omega] ; exact k
      · skip
        have c1 : ¬ (sW g) ≤ w := fun q => c1 ((nI_leI (a := (sW g)) (b := w) (by omega) (by omega)).mpr q)
        refine exf_go 7 (show wpC (d + 2) true 81 [.ref 31, .int (nI n), .int (nI w)] h (fun r h' => Go (d + 2) true 83 25 [.ref 31, .int (nI n), .int (nI m), .int (nI (sumN (fun w => tnw g w (fgo g n w) (fgo g m w)) w)), .int (nI w)] [r, .int (nI w), .ref 31, .int (nI (sumN (fun w => tnw g w (fgo g n w) (fgo g m w)) w))] h' Q) from ?_)
        refine c_figureOf cs (by omega) (by omega) ?_
        have := fgo_lt cs.1 n w; have := sF_b cs.1 w
        show Go (d + 2) true 83 25 [.ref 31, .int (nI n), .int (nI m), .int (nI (sumN (fun w => tnw g w (fgo g n w) (fgo g m w)) w)), .int (nI w)] [.int (nI (fgo g n w)), .int (nI w), .ref 31, .int (nI (sumN (fun w => tnw g w (fgo g n w) (fgo g m w)) w))] h Q
        refine exf_go 4 (show wpC (d + 2) true 81 [.ref 31, .int (nI m), .int (nI w)] h (fun r h' => Go (d + 2) true 83 32 [.ref 31, .int (nI n), .int (nI m), .int (nI (sumN (fun w => tnw g w (fgo g n w) (fgo g m w)) w)), .int (nI w)] [r, .int (nI (fgo g n w)), .int (nI w), .ref 31, .int (nI (sumN (fun w => tnw g w (fgo g n w) (fgo g m w)) w))] h' Q) from ?_)
        refine c_figureOf cs (by omega) (by omega) ?_
        have := fgo_lt cs.1 m w; have := sF_b cs.1 w
        show Go (d + 2) true 83 32 [.ref 31, .int (nI n), .int (nI m), .int (nI (sumN (fun w => tnw g w (fgo g n w) (fgo g m w)) w)), .int (nI w)] [.int (nI (fgo g m w)), .int (nI (fgo g n w)), .int (nI w), .ref 31, .int (nI (sumN (fun w => tnw g w (fgo g n w) (fgo g m w)) w))] h Q
        refine exf_go 1 (show wpC (d + 2) true 82 [.ref 31, .int (nI w), .int (nI (fgo g n w)), .int (nI (fgo g m w))] h (fun r h' => Go (d + 2) true 83 35 [.ref 31, .int (nI n), .int (nI m), .int (nI (sumN (fun w => tnw g w (fgo g n w) (fgo g m w)) w)), .int (nI w)] [r, .int (nI (sumN (fun w => tnw g w (fgo g n w) (fgo g m w)) w))] h' Q) from ?_)
        refine c_turnsW cs (by omega) (fgo_lt cs.1 _ _) (fgo_lt cs.1 _ _) ?_
        have := tnw_b cs.1 (fgo_lt cs.1 n w) (fgo_lt cs.1 m w)
        show Go (d + 2) true 83 35 [.ref 31, .int (nI n), .int (nI m), .int (nI (sumN (fun w => tnw g w (fgo g n w) (fgo g m w)) w)), .int (nI w)] [.int (nI (tnw g w (fgo g n w) (fgo g m w))), .int (nI (sumN (fun w => tnw g w (fgo g n w) (fgo g m w)) w))] h Q
        refine exf_go 1 (show Go (d + 2) true 83 36 [.ref 31, .int (nI n), .int (nI m), .int (nI (sumN (fun w => tnw g w (fgo g n w) (fgo g m w)) w)), .int (nI w)] [.int ((nI (sumN (fun w => tnw g w (fgo g n w) (fgo g m w)) w)) + (nI (tnw g w (fgo g n w) (fgo g m w))))] h Q from ?_)
        rw [show ((nI (sumN (fun w => tnw g w (fgo g n w) (fgo g m w)) w)) + (nI (tnw g w (fgo g n w) (fgo g m w))) : Int32) = nI ((sumN (fun w => tnw g w (fgo g n w) (fgo g m w)) w) + (tnw g w (fgo g n w) (fgo g m w))) from nI_add (sumN (fun w => tnw g w (fgo g n w) (fgo g m w)) w) (tnw g w (fgo g n w) (fgo g m w))]
        refine exf_go 2 (show Go (d + 2) true 83 40 [.ref 31, .int (nI n), .int (nI m), .int (nI ((sumN (fun w => tnw g w (fgo g n w) (fgo g m w)) w) + (tnw g w (fgo g n w) (fgo g m w)))), .int ((nI w) + 1)] [] h Q from ?_)
        rw [show ((nI w) + 1 : Int32) = nI (w + 1) from nI_add w 1]
        refine exf_go 1 (show Go (d + 2) true 83 5 [.ref 31, .int (nI n), .int (nI m), .int (nI ((sumN (fun w => tnw g w (fgo g n w) (fgo g m w)) w) + (tnw g w (fgo g n w) (fgo g m w)))), .int (nI (w + 1))] [] h Q from ?_)
        exact ih5 (w + 1) (by omega) (by omega)
  exact L5 (4 + 1) 0 (by omega) (by omega)
