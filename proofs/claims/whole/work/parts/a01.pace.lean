/-! Seconds by halves of the wheels. -/
/-- turns of the wheels w, w + 1, by their figures as a number -/
def t2 (g : ShG) (w x y : Nat) : Nat := tnw g w (x / sF g (w + 1)) (y / sF g (w + 1)) + tnw g (w + 1) (x % sF g (w + 1)) (y % sF g (w + 1))
def pr2 (g : ShG) (n w : Nat) : Nat := fgo g n w * sF g (w + 1) + fgo g n (w + 1)
theorem pr2_lt {g : ShG} (h : ShW g) (n w : Nat) : pr2 g n w < sF g w * sF g (w + 1) := dig_lt (fgo_lt h n w) (fgo_lt h n (w + 1))
theorem div_lt2 {x a b : Nat} (h : x < a * b) : x / b < a := Nat.div_lt_of_lt_mul (by rw [Nat.mul_comm]; exact h)
theorem t2_b {g : ShG} (h : ShW g) {w x y : Nat} (hx : x < sF g w * sF g (w + 1)) (hy : y < sF g w * sF g (w + 1)) : t2 g w x y ≤ 162 := by
  have hf := sF_b h (w + 1)
  have h1 := tnw_b h (div_lt2 hx) (div_lt2 hy)
  have h2 := tnw_b (w := w + 1) h (Nat.mod_lt x (show 0 < sF g (w + 1) by omega)) (Nat.mod_lt y (show 0 < sF g (w + 1) by omega))
  unfold t2
  omega
theorem c_two0 {d : Nat} {h : Hp} {g : ShG} {x y : Nat} {Q : Po} (cs : CS 31 g h) (hx : x < sF g 0 * sF g 1) (hy : y < sF g 0 * sF g 1) (k : Q (.int (nI (t2 g 0 x y))) h) : wpC (d + 3) true 46 [.ref 31, .int 0, .int (nI x), .int (nI y)] h Q := by
  have hf := sF_b cs.1 1
  have hf2 := sF_b cs.1 0
  have hm := mul_b hf2 hf
  refine go_in rfl ?_
  refine exf_go 6 (show Go (d + 2) true 46 8 [.ref 31, .int 0, .int (nI x), .int (nI y), mk_] [.int (0 + 1), .ref 32, .int 1] h Q from ?_)
  rw [show (0 + 1 : Int32) = nI 1 from nI_add 0 1]
  refine exf_go 1 (show vp_in (nI 1) 4 ∧ (Go (d + 2) true 46 9 [.ref 31, .int 0, .int (nI x), .int (nI y), mk_] [.int (rI h 32 ((nI 1).toNatClampNeg)), .int 1] h Q) from ⟨(vp_in_nI (by omega) (by omega)), ?_⟩)
  rw [show (rI h 32 ((nI 1).toNatClampNeg) : Int32) = nI (sF g 1) from cs_sF cs (n := 1) (by omega)]
  refine exf_go 1 (show wpC (d + 2) true 302 [.int 1, .int (nI (sF g 1))] h (fun r h' => Go (d + 2) true 46 12 [.ref 31, .int 0, .int (nI x), .int (nI y), mk_] [r] h' Q) from ?_)
  refine c_max (a := 1) (b := (sF g 1)) (by omega) (by omega) ?_
  rw [show max 1 (sF g 1) = (sF g 1) from by omega]
  show Go (d + 2) true 46 12 [.ref 31, .int 0, .int (nI x), .int (nI y), mk_] [.int (nI (sF g 1))] h Q
  refine exf_go 6 (show ¬ (nI (sF g 1)) = 0 ∧ (Go (d + 2) true 46 20 [.ref 31, .int 0, .int (nI x), .int (nI y), .int (nI (sF g 1))] [.int ((nI x) / (nI (sF g 1))), .int 0, .ref 31] h Q) from ⟨(nI_ne0 (n := (sF g 1)) (by omega) (by omega)), ?_⟩)
  rw [show ((nI x) / (nI (sF g 1)) : Int32) = nI (x / (sF g 1)) from pk_div (a := x) (d := (sF g 1)) (by omega) (by omega) (by omega)]
  refine exf_go 3 (show ¬ (nI (sF g 1)) = 0 ∧ (Go (d + 2) true 46 24 [.ref 31, .int 0, .int (nI x), .int (nI y), .int (nI (sF g 1))] [.int ((nI y) / (nI (sF g 1))), .int (nI (x / (sF g 1))), .int 0, .ref 31] h Q) from ⟨(nI_ne0 (n := (sF g 1)) (by omega) (by omega)), ?_⟩)
  rw [show ((nI y) / (nI (sF g 1)) : Int32) = nI (y / (sF g 1)) from pk_div (a := y) (d := (sF g 1)) (by omega) (by omega) (by omega)]
  refine exf_go 1 (show wpC (d + 2) true 82 [.ref 31, .int 0, .int (nI (x / (sF g 1))), .int (nI (y / (sF g 1)))] h (fun r h' => Go (d + 2) true 46 27 [.ref 31, .int 0, .int (nI x), .int (nI y), .int (nI (sF g 1))] [r] h' Q) from ?_)
  refine c_turnsW cs (w := 0) (a := (x / (sF g 1))) (b := (y / (sF g 1))) (by omega) (div_lt2 hx) (div_lt2 hy) ?_
  show Go (d + 2) true 46 27 [.ref 31, .int 0, .int (nI x), .int (nI y), .int (nI (sF g 1))] [.int (nI (tnw g 0 (x / (sF g 1)) (y / (sF g 1))))] h Q
  refine exf_go 4 (show Go (d + 2) true 46 31 [.ref 31, .int 0, .int (nI x), .int (nI y), .int (nI (sF g 1))] [.int (0 + 1), .ref 31, .int (nI (tnw g 0 (x / (sF g 1)) (y / (sF g 1))))] h Q from ?_)
  rw [show (0 + 1 : Int32) = nI 1 from nI_add 0 1]
  refine exf_go 3 (show ¬ (nI (sF g 1)) = 0 ∧ (Go (d + 2) true 46 35 [.ref 31, .int 0, .int (nI x), .int (nI y), .int (nI (sF g 1))] [.int ((nI x) - (nI x) / (nI (sF g 1)) * (nI (sF g 1))), .int (nI 1), .ref 31, .int (nI (tnw g 0 (x / (sF g 1)) (y / (sF g 1))))] h Q) from ⟨(nI_ne0 (n := (sF g 1)) (by omega) (by omega)), ?_⟩)
  rw [show ((nI x) - (nI x) / (nI (sF g 1)) * (nI (sF g 1)) : Int32) = nI (x % (sF g 1)) from pk_rem (a := x) (d := (sF g 1)) (by omega) (by omega) (by omega)]
  refine exf_go 3 (show ¬ (nI (sF g 1)) = 0 ∧ (Go (d + 2) true 46 39 [.ref 31, .int 0, .int (nI x), .int (nI y), .int (nI (sF g 1))] [.int ((nI y) - (nI y) / (nI (sF g 1)) * (nI (sF g 1))), .int (nI (x % (sF g 1))), .int (nI 1), .ref 31, .int (nI (tnw g 0 (x / (sF g 1)) (y / (sF g 1))))] h Q) from ⟨(nI_ne0 (n := (sF g 1)) (by omega) (by omega)), ?_⟩)
  rw [show ((nI y) - (nI y) / (nI (sF g 1)) * (nI (sF g 1)) : Int32) = nI (y % (sF g 1)) from pk_rem (a := y) (d := (sF g 1)) (by omega) (by omega) (by omega)]
  refine exf_go 1 (show wpC (d + 2) true 82 [.ref 31, .int (nI 1), .int (nI (x % (sF g 1))), .int (nI (y % (sF g 1)))] h (fun r h' => Go (d + 2) true 46 42 [.ref 31, .int 0, .int (nI x), .int (nI y), .int (nI (sF g 1))] [r, .int (nI (tnw g 0 (x / (sF g 1)) (y / (sF g 1))))] h' Q) from ?_)
  refine c_turnsW cs (w := 1) (a := (x % (sF g 1))) (b := (y % (sF g 1))) (by omega) (Nat.mod_lt _ (by omega)) (Nat.mod_lt _ (by omega)) ?_
  show Go (d + 2) true 46 42 [.ref 31, .int 0, .int (nI x), .int (nI y), .int (nI (sF g 1))] [.int (nI (tnw g 1 (x % (sF g 1)) (y % (sF g 1)))), .int (nI (tnw g 0 (x / (sF g 1)) (y / (sF g 1))))] h Q
  refine exf_go 1 (show Go (d + 2) true 46 43 [.ref 31, .int 0, .int (nI x), .int (nI y), .int (nI (sF g 1))] [.int ((nI (tnw g 0 (x / (sF g 1)) (y / (sF g 1)))) + (nI (tnw g 1 (x % (sF g 1)) (y % (sF g 1)))))] h Q from ?_)
  rw [show ((nI (tnw g 0 (x / (sF g 1)) (y / (sF g 1)))) + (nI (tnw g 1 (x % (sF g 1)) (y % (sF g 1)))) : Int32) = nI ((tnw g 0 (x / (sF g 1)) (y / (sF g 1))) + (tnw g 1 (x % (sF g 1)) (y % (sF g 1)))) from nI_add (tnw g 0 (x / (sF g 1)) (y / (sF g 1))) (tnw g 1 (x % (sF g 1)) (y % (sF g 1)))]
  refine exf_go 1 (show Q (.int (nI ((tnw g 0 (x / (sF g 1)) (y / (sF g 1))) + (tnw g 1 (x % (sF g 1)) (y % (sF g 1)))))) h from ?_)
  exact k
theorem c_pairOf0 {d : Nat} {h : Hp} {g : ShG} {n : Nat} {Q : Po} (cs : CS 31 g h) (hn : n < 2 ^ 31) (k : Q (.int (nI (pr2 g n 0))) h) : wpC (d + 2) true 45 [.ref 31, .int 0, .int (nI n)] h Q := by
  refine go_in rfl ?_
  refine exf_go 4 (show wpC (d + 1) true 81 [.ref 31, .int (nI n), .int 0] h (fun r h' => Go (d + 1) true 45 6 [.ref 31, .int 0, .int (nI n)] [r] h' Q) from ?_)
  refine c_figureOf cs (n := n) (w := 0) (by omega) (by omega) ?_
  show Go (d + 1) true 45 6 [.ref 31, .int 0, .int (nI n)] [.int (nI (fgo g n 0))] h Q
  refine exf_go 5 (show Go (d + 1) true 45 13 [.ref 31, .int 0, .int (nI n)] [.int (0 + 1), .ref 32, .int (nI (fgo g n 0))] h Q from ?_)
  rw [show (0 + 1 : Int32) = nI 1 from nI_add 0 1]
  refine exf_go 1 (show vp_in (nI 1) 4 ∧ (Go (d + 1) true 45 14 [.ref 31, .int 0, .int (nI n)] [.int (rI h 32 ((nI 1).toNatClampNeg)), .int (nI (fgo g n 0))] h Q) from ⟨(vp_in_nI (by omega) (by omega)), ?_⟩)
  rw [show (rI h 32 ((nI 1).toNatClampNeg) : Int32) = nI (sF g 1) from cs_sF cs (n := 1) (by omega)]
  refine exf_go 1 (show Go (d + 1) true 45 15 [.ref 31, .int 0, .int (nI n)] [.int ((nI (fgo g n 0)) * (nI (sF g 1)))] h Q from ?_)
  rw [show ((nI (fgo g n 0)) * (nI (sF g 1)) : Int32) = nI ((fgo g n 0) * (sF g 1)) from pk_mul (fgo g n 0) (sF g 1)]
  refine exf_go 5 (show Go (d + 1) true 45 20 [.ref 31, .int 0, .int (nI n)] [.int (0 + 1), .int (nI n), .ref 31, .int (nI ((fgo g n 0) * (sF g 1)))] h Q from ?_)
  rw [show (0 + 1 : Int32) = nI 1 from nI_add 0 1]
  refine exf_go 1 (show wpC (d + 1) true 81 [.ref 31, .int (nI n), .int (nI 1)] h (fun r h' => Go (d + 1) true 45 23 [.ref 31, .int 0, .int (nI n)] [r, .int (nI ((fgo g n 0) * (sF g 1)))] h' Q) from ?_)
  refine c_figureOf cs (n := n) (w := 1) (by omega) (by omega) ?_
  show Go (d + 1) true 45 23 [.ref 31, .int 0, .int (nI n)] [.int (nI (fgo g n 1)), .int (nI ((fgo g n 0) * (sF g 1)))] h Q
  refine exf_go 1 (show Go (d + 1) true 45 24 [.ref 31, .int 0, .int (nI n)] [.int ((nI ((fgo g n 0) * (sF g 1))) + (nI (fgo g n 1)))] h Q from ?_)
  rw [show ((nI ((fgo g n 0) * (sF g 1))) + (nI (fgo g n 1)) : Int32) = nI (((fgo g n 0) * (sF g 1)) + (fgo g n 1)) from nI_add ((fgo g n 0) * (sF g 1)) (fgo g n 1)]
  refine exf_go 1 (show Q (.int (nI (((fgo g n 0) * (sF g 1)) + (fgo g n 1)))) h from ?_)
  exact k
theorem c_two2 {d : Nat} {h : Hp} {g : ShG} {x y : Nat} {Q : Po} (cs : CS 31 g h) (hx : x < sF g 2 * sF g 3) (hy : y < sF g 2 * sF g 3) (k : Q (.int (nI (t2 g 2 x y))) h) : wpC (d + 3) true 46 [.ref 31, .int 2, .int (nI x), .int (nI y)] h Q := by
  have hf := sF_b cs.1 3
  have hf2 := sF_b cs.1 2
  have hm := mul_b hf2 hf
  refine go_in rfl ?_
  refine exf_go 6 (show Go (d + 2) true 46 8 [.ref 31, .int 2, .int (nI x), .int (nI y), mk_] [.int (2 + 1), .ref 32, .int 1] h Q from ?_)
  rw [show (2 + 1 : Int32) = nI 3 from nI_add 2 1]
  refine exf_go 1 (show vp_in (nI 3) 4 ∧ (Go (d + 2) true 46 9 [.ref 31, .int 2, .int (nI x), .int (nI y), mk_] [.int (rI h 32 ((nI 3).toNatClampNeg)), .int 1] h Q) from ⟨(vp_in_nI (by omega) (by omega)), ?_⟩)
  rw [show (rI h 32 ((nI 3).toNatClampNeg) : Int32) = nI (sF g 3) from cs_sF cs (n := 3) (by omega)]
  refine exf_go 1 (show wpC (d + 2) true 302 [.int 1, .int (nI (sF g 3))] h (fun r h' => Go (d + 2) true 46 12 [.ref 31, .int 2, .int (nI x), .int (nI y), mk_] [r] h' Q) from ?_)
  refine c_max (a := 1) (b := (sF g 3)) (by omega) (by omega) ?_
  rw [show max 1 (sF g 3) = (sF g 3) from by omega]
  show Go (d + 2) true 46 12 [.ref 31, .int 2, .int (nI x), .int (nI y), mk_] [.int (nI (sF g 3))] h Q
  refine exf_go 6 (show ¬ (nI (sF g 3)) = 0 ∧ (Go (d + 2) true 46 20 [.ref 31, .int 2, .int (nI x), .int (nI y), .int (nI (sF g 3))] [.int ((nI x) / (nI (sF g 3))), .int 2, .ref 31] h Q) from ⟨(nI_ne0 (n := (sF g 3)) (by omega) (by omega)), ?_⟩)
  rw [show ((nI x) / (nI (sF g 3)) : Int32) = nI (x / (sF g 3)) from pk_div (a := x) (d := (sF g 3)) (by omega) (by omega) (by omega)]
  refine exf_go 3 (show ¬ (nI (sF g 3)) = 0 ∧ (Go (d + 2) true 46 24 [.ref 31, .int 2, .int (nI x), .int (nI y), .int (nI (sF g 3))] [.int ((nI y) / (nI (sF g 3))), .int (nI (x / (sF g 3))), .int 2, .ref 31] h Q) from ⟨(nI_ne0 (n := (sF g 3)) (by omega) (by omega)), ?_⟩)
  rw [show ((nI y) / (nI (sF g 3)) : Int32) = nI (y / (sF g 3)) from pk_div (a := y) (d := (sF g 3)) (by omega) (by omega) (by omega)]
  refine exf_go 1 (show wpC (d + 2) true 82 [.ref 31, .int 2, .int (nI (x / (sF g 3))), .int (nI (y / (sF g 3)))] h (fun r h' => Go (d + 2) true 46 27 [.ref 31, .int 2, .int (nI x), .int (nI y), .int (nI (sF g 3))] [r] h' Q) from ?_)
  refine c_turnsW cs (w := 2) (a := (x / (sF g 3))) (b := (y / (sF g 3))) (by omega) (div_lt2 hx) (div_lt2 hy) ?_
  show Go (d + 2) true 46 27 [.ref 31, .int 2, .int (nI x), .int (nI y), .int (nI (sF g 3))] [.int (nI (tnw g 2 (x / (sF g 3)) (y / (sF g 3))))] h Q
  refine exf_go 4 (show Go (d + 2) true 46 31 [.ref 31, .int 2, .int (nI x), .int (nI y), .int (nI (sF g 3))] [.int (2 + 1), .ref 31, .int (nI (tnw g 2 (x / (sF g 3)) (y / (sF g 3))))] h Q from ?_)
  rw [show (2 + 1 : Int32) = nI 3 from nI_add 2 1]
  refine exf_go 3 (show ¬ (nI (sF g 3)) = 0 ∧ (Go (d + 2) true 46 35 [.ref 31, .int 2, .int (nI x), .int (nI y), .int (nI (sF g 3))] [.int ((nI x) - (nI x) / (nI (sF g 3)) * (nI (sF g 3))), .int (nI 3), .ref 31, .int (nI (tnw g 2 (x / (sF g 3)) (y / (sF g 3))))] h Q) from ⟨(nI_ne0 (n := (sF g 3)) (by omega) (by omega)), ?_⟩)
  rw [show ((nI x) - (nI x) / (nI (sF g 3)) * (nI (sF g 3)) : Int32) = nI (x % (sF g 3)) from pk_rem (a := x) (d := (sF g 3)) (by omega) (by omega) (by omega)]
  refine exf_go 3 (show ¬ (nI (sF g 3)) = 0 ∧ (Go (d + 2) true 46 39 [.ref 31, .int 2, .int (nI x), .int (nI y), .int (nI (sF g 3))] [.int ((nI y) - (nI y) / (nI (sF g 3)) * (nI (sF g 3))), .int (nI (x % (sF g 3))), .int (nI 3), .ref 31, .int (nI (tnw g 2 (x / (sF g 3)) (y / (sF g 3))))] h Q) from ⟨(nI_ne0 (n := (sF g 3)) (by omega) (by omega)), ?_⟩)
  rw [show ((nI y) - (nI y) / (nI (sF g 3)) * (nI (sF g 3)) : Int32) = nI (y % (sF g 3)) from pk_rem (a := y) (d := (sF g 3)) (by omega) (by omega) (by omega)]
  refine exf_go 1 (show wpC (d + 2) true 82 [.ref 31, .int (nI 3), .int (nI (x % (sF g 3))), .int (nI (y % (sF g 3)))] h (fun r h' => Go (d + 2) true 46 42 [.ref 31, .int 2, .int (nI x), .int (nI y), .int (nI (sF g 3))] [r, .int (nI (tnw g 2 (x / (sF g 3)) (y / (sF g 3))))] h' Q) from ?_)
  refine c_turnsW cs (w := 3) (a := (x % (sF g 3))) (b := (y % (sF g 3))) (by omega) (Nat.mod_lt _ (by omega)) (Nat.mod_lt _ (by omega)) ?_
  show Go (d + 2) true 46 42 [.ref 31, .int 2, .int (nI x), .int (nI y), .int (nI (sF g 3))] [.int (nI (tnw g 3 (x % (sF g 3)) (y % (sF g 3)))), .int (nI (tnw g 2 (x / (sF g 3)) (y / (sF g 3))))] h Q
  refine exf_go 1 (show Go (d + 2) true 46 43 [.ref 31, .int 2, .int (nI x), .int (nI y), .int (nI (sF g 3))] [.int ((nI (tnw g 2 (x / (sF g 3)) (y / (sF g 3)))) + (nI (tnw g 3 (x % (sF g 3)) (y % (sF g 3)))))] h Q from ?_)
  rw [show ((nI (tnw g 2 (x / (sF g 3)) (y / (sF g 3)))) + (nI (tnw g 3 (x % (sF g 3)) (y % (sF g 3)))) : Int32) = nI ((tnw g 2 (x / (sF g 3)) (y / (sF g 3))) + (tnw g 3 (x % (sF g 3)) (y % (sF g 3)))) from nI_add (tnw g 2 (x / (sF g 3)) (y / (sF g 3))) (tnw g 3 (x % (sF g 3)) (y % (sF g 3)))]
  refine exf_go 1 (show Q (.int (nI ((tnw g 2 (x / (sF g 3)) (y / (sF g 3))) + (tnw g 3 (x % (sF g 3)) (y % (sF g 3)))))) h from ?_)
  exact k
theorem c_pairOf2 {d : Nat} {h : Hp} {g : ShG} {n : Nat} {Q : Po} (cs : CS 31 g h) (hn : n < 2 ^ 31) (k : Q (.int (nI (pr2 g n 2))) h) : wpC (d + 2) true 45 [.ref 31, .int 2, .int (nI n)] h Q := by
  refine go_in rfl ?_
  refine exf_go 4 (show wpC (d + 1) true 81 [.ref 31, .int (nI n), .int 2] h (fun r h' => Go (d + 1) true 45 6 [.ref 31, .int 2, .int (nI n)] [r] h' Q) from ?_)
  refine c_figureOf cs (n := n) (w := 2) (by omega) (by omega) ?_
  show Go (d + 1) true 45 6 [.ref 31, .int 2, .int (nI n)] [.int (nI (fgo g n 2))] h Q
  refine exf_go 5 (show Go (d + 1) true 45 13 [.ref 31, .int 2, .int (nI n)] [.int (2 + 1), .ref 32, .int (nI (fgo g n 2))] h Q from ?_)
  rw [show (2 + 1 : Int32) = nI 3 from nI_add 2 1]
  refine exf_go 1 (show vp_in (nI 3) 4 ∧ (Go (d + 1) true 45 14 [.ref 31, .int 2, .int (nI n)] [.int (rI h 32 ((nI 3).toNatClampNeg)), .int (nI (fgo g n 2))] h Q) from ⟨(vp_in_nI (by omega) (by omega)), ?_⟩)
  rw [show (rI h 32 ((nI 3).toNatClampNeg) : Int32) = nI (sF g 3) from cs_sF cs (n := 3) (by omega)]
  refine exf_go 1 (show Go (d + 1) true 45 15 [.ref 31, .int 2, .int (nI n)] [.int ((nI (fgo g n 2)) * (nI (sF g 3)))] h Q from ?_)
  rw [show ((nI (fgo g n 2)) * (nI (sF g 3)) : Int32) = nI ((fgo g n 2) * (sF g 3)) from pk_mul (fgo g n 2) (sF g 3)]
  refine exf_go 5 (show Go (d + 1) true 45 20 [.ref 31, .int 2, .int (nI n)] [.int (2 + 1), .int (nI n), .ref 31, .int (nI ((fgo g n 2) * (sF g 3)))] h Q from ?_)
  rw [show (2 + 1 : Int32) = nI 3 from nI_add 2 1]
  refine exf_go 1 (show wpC (d + 1) true 81 [.ref 31, .int (nI n), .int (nI 3)] h (fun r h' => Go (d + 1) true 45 23 [.ref 31, .int 2, .int (nI n)] [r, .int (nI ((fgo g n 2) * (sF g 3)))] h' Q) from ?_)
  refine c_figureOf cs (n := n) (w := 3) (by omega) (by omega) ?_
  show Go (d + 1) true 45 23 [.ref 31, .int 2, .int (nI n)] [.int (nI (fgo g n 3)), .int (nI ((fgo g n 2) * (sF g 3)))] h Q
  refine exf_go 1 (show Go (d + 1) true 45 24 [.ref 31, .int 2, .int (nI n)] [.int ((nI ((fgo g n 2) * (sF g 3))) + (nI (fgo g n 3)))] h Q from ?_)
  rw [show ((nI ((fgo g n 2) * (sF g 3))) + (nI (fgo g n 3)) : Int32) = nI (((fgo g n 2) * (sF g 3)) + (fgo g n 3)) from nI_add ((fgo g n 2) * (sF g 3)) (fgo g n 3)]
  refine exf_go 1 (show Q (.int (nI (((fgo g n 2) * (sF g 3)) + (fgo g n 3)))) h from ?_)
  exact k
theorem c_single {d : Nat} {h : Hp} {g : ShG} {a s : Nat} {Q : Po} (cs : CS 31 g h) (ha : a < tot g) (hs0 : s < 1000) (k : Q (.long (lN (cntN (fun n => decide (trn g a n = s)) (tot g)))) h) : wpC (d + 4) true 42 [.ref 85, .ref 31, .int (nI a), .int (nI s)] h Q := by
  have hN := tot_b cs.1
  refine go_in rfl ?_
  refine exf_go 4 (show Go (d + 3) true 42 6 [.ref 85, .ref 31, .int (nI a), .int (nI s), .long 0, mk_, .int 0] [] h Q from ?_)
  have L6 : ∀ (k6 : Nat) (n c : Nat), (tot g - n) < k6 → (n ≤ tot g) → (c = cntN (fun n => decide (trn g a n = s)) n) → Go (d + 3) true 42 6 [.ref 85, .ref 31, .int (nI a), .int (nI s), .long (lN c), mk_, .int (nI n)] [] h Q := by
    intro k6
    induction k6 with
    | zero => intro n c hk; exact absurd hk (Nat.not_lt_zero _)
    | succ k6 ih6 =>
      intro n c hk hn hs
      refine exf_go 3 (show Go (d + 3) true 42 12 [.ref 85, .ref 31, .int (nI a), .int (nI s), .long (lN c), mk_, .int (nI n)] [.int (rI h 31 5), .int (nI n)] h Q from ?_)
      rw [show (rI h 31 5 : Int32) = nI (tot g) from cs_N cs]
      refine exf_go 1 (show ((nI (tot g)) ≤ (nI n) → Go (d + 3) true 42 38 [.ref 85, .ref 31, .int (nI a), .int (nI s), .long (lN c), mk_, .int (nI n)] [] h Q) ∧ (¬ ((nI (tot g)) ≤ (nI n)) → Go (d + 3) true 42 15 [.ref 85, .ref 31, .int (nI a), .int (nI s), .long (lN c), mk_, .int (nI n)] [] h Q) from ⟨fun c1 => ?_, fun c1 => ?_⟩)
      · skip
        have c1 : (tot g) ≤ n := (nI_leI (a := (tot g)) (b := n) (by omega) (by omega)).mp c1
        refine exf_go 2 (show Q (.long (lN c)) h from ?_)
        rw [← show n = tot g from by omega, ← hs] at k; exact k
      · skip
        have c1 : ¬ (tot g) ≤ n := fun q => c1 ((nI_leI (a := (tot g)) (b := n) (by omega) (by omega)).mpr q)
        refine exf_go 4 (show wpC (d + 3) true 83 [.ref 31, .int (nI a), .int (nI n)] h (fun r h' => Go (d + 3) true 42 22 [.ref 85, .ref 31, .int (nI a), .int (nI s), .long (lN c), mk_, .int (nI n)] [r] h' Q) from ?_)
        refine c_turns cs (by omega) (by omega) ?_
        have := trn_b cs.1 a n
        show Go (d + 3) true 42 22 [.ref 85, .ref 31, .int (nI a), .int (nI s), .long (lN c), mk_, .int (nI n)] [.int (nI (trn g a n))] h Q
        refine exf_go 2 (show (¬ (nI (trn g a n)) = (nI s) → Go (d + 3) true 42 32 [.ref 85, .ref 31, .int (nI a), .int (nI s), .long (lN c), mk_, .int (nI n)] [] h Q) ∧ (¬ (¬ (nI (trn g a n)) = (nI s)) → Go (d + 3) true 42 26 [.ref 85, .ref 31, .int (nI a), .int (nI s), .long (lN c), mk_, .int (nI n)] [] h Q) from ⟨fun c2 => ?_, fun c2 => ?_⟩)
        · skip
          have c2 : ¬ (trn g a n) = s := fun q => c2 ((nI_eq (a := (trn g a n)) (b := s) (by omega) (by omega)).mpr q)
          refine exf_go 1 (show Go (d + 3) true 42 35 [.ref 85, .ref 31, .int (nI a), .int (nI s), .long (lN c), mk_, .int ((nI n) + 1)] [] h Q from ?_)
          rw [show ((nI n) + 1 : Int32) = nI (n + 1) from nI_add n 1]
          refine exf_go 1 (show Go (d + 3) true 42 6 [.ref 85, .ref 31, .int (nI a), .int (nI s), .long (lN c), mk_, .int (nI (n + 1))] [] h Q from ?_)
          exact ih6 (n + 1) c (by omega) (by omega) (by first | exact cn_y hs (decide_eq_true (by omega)) | exact cn_n hs (decide_eq_false (by omega)))
        · skip
          have c2 : (trn g a n) = s := (nI_eq (a := (trn g a n)) (b := s) (by omega) (by omega)).mp (Classical.not_not.mp c2)
          refine exf_go 3 (show Go (d + 3) true 42 30 [.ref 85, .ref 31, .int (nI a), .int (nI s), .long (lN c), mk_, .int (nI n)] [.long ((lN c) + 1)] h Q from ?_)
          rw [show ((lN c) + 1 : Int64) = lN (c + 1) from lN_add c 1]
          refine exf_go 2 (show Go (d + 3) true 42 35 [.ref 85, .ref 31, .int (nI a), .int (nI s), .long (lN (c + 1)), mk_, .int ((nI n) + 1)] [] h Q from ?_)
          rw [show ((nI n) + 1 : Int32) = nI (n + 1) from nI_add n 1]
          refine exf_go 1 (show Go (d + 3) true 42 6 [.ref 85, .ref 31, .int (nI a), .int (nI s), .long (lN (c + 1)), mk_, .int (nI (n + 1))] [] h Q from ?_)
          exact ih6 (n + 1) (c + 1) (by omega) (by omega) (by first | exact cn_y hs (decide_eq_true (by omega)) | exact cn_n hs (decide_eq_false (by omega)))
  exact L6 (tot g + 1) 0 0 (by omega) (by omega) rfl
