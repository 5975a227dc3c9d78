/-! The model: turns by halves. -/
/-- front and back rows are laid: B numbers in the back half -/
def MHV (g : ShG) (B : Nat) (h : Hp) : Prop := (0 < B ∧ B ≤ 100 ∧ tot g / B ≤ 100 ∧ tot g / B * B = tot g) ∧ rI h 130 34 = nI B ∧ (∀ a b, a < tot g / B → b < tot g / B → rI h 145 (100 * a + b) = nI (trn g (a * B) (b * B))) ∧ ∀ a b, a < B → b < B → rI h 146 (100 * a + b) = nI (trn g a b)
theorem m_fast {d : Nat} {h : Hp} {g : ShG} {B x y : Nat} {Q : Po} (mh : MHV g B h) (hx : x < tot g) (hy : y < tot g) (hN : tot g ≤ 10000) (k : Q (.int (nI (trn g (x / B * B) (y / B * B) + trn g (x % B) (y % B)))) h) : wpC (d + 1) true 286 [.ref 130, .int (nI x), .int (nI y)] h Q := by
  obtain ⟨hB, hB1, hB2, hB3⟩ := mh.1
  have hx1 : x / B < tot g / B := div_lt2 (by rw [hB3]; exact hx)
  have hy1 : y / B < tot g / B := div_lt2 (by rw [hB3]; exact hy)
  have hx2 := Nat.mod_lt x hB; have hy2 := Nat.mod_lt y hB
  refine go_in rfl ?_
  refine exf_go 6 (show Go d true 286 11 [.ref 130, .int (nI x), .int (nI y)] [.int (rI h 130 34), .int (nI x), .int 100, .ref 145] h Q from ?_)
  rw [show (rI h 130 34 : Int32) = nI B from mh.2.1]
  refine exf_go 1 (show ¬ (nI B) = 0 ∧ (Go d true 286 12 [.ref 130, .int (nI x), .int (nI y)] [.int ((nI x) / (nI B)), .int 100, .ref 145] h Q) from ⟨(nI_ne0 (n := B) (by omega) (by omega)), ?_⟩)
  rw [show ((nI x) / (nI B) : Int32) = nI (x / B) from pk_div (a := x) (d := B) (by omega) (by omega) (by omega)]
  refine exf_go 1 (show Go d true 286 13 [.ref 130, .int (nI x), .int (nI y)] [.int (100 * (nI (x / B))), .ref 145] h Q from ?_)
  rw [show (100 * (nI (x / B)) : Int32) = nI (100 * (x / B)) from pk_mul 100 (x / B)]
  refine exf_go 3 (show Go d true 286 18 [.ref 130, .int (nI x), .int (nI y)] [.int (rI h 130 34), .int (nI y), .int (nI (100 * (x / B))), .ref 145] h Q from ?_)
  rw [show (rI h 130 34 : Int32) = nI B from mh.2.1]
  refine exf_go 1 (show ¬ (nI B) = 0 ∧ (Go d true 286 19 [.ref 130, .int (nI x), .int (nI y)] [.int ((nI y) / (nI B)), .int (nI (100 * (x / B))), .ref 145] h Q) from ⟨(nI_ne0 (n := B) (by omega) (by omega)), ?_⟩)
  rw [show ((nI y) / (nI B) : Int32) = nI (y / B) from pk_div (a := y) (d := B) (by omega) (by omega) (by omega)]
  refine exf_go 1 (show Go d true 286 20 [.ref 130, .int (nI x), .int (nI y)] [.int ((nI (100 * (x / B))) + (nI (y / B))), .ref 145] h Q from ?_)
  rw [show ((nI (100 * (x / B))) + (nI (y / B)) : Int32) = nI ((100 * (x / B)) + (y / B)) from nI_add (100 * (x / B)) (y / B)]
  refine exf_go 1 (show vp_in (nI ((100 * (x / B)) + (y / B))) 10000 ∧ (Go d true 286 21 [.ref 130, .int (nI x), .int (nI y)] [.int (rI h 145 ((nI ((100 * (x / B)) + (y / B))).toNatClampNeg))] h Q) from ⟨(vp_in_nI (by omega) (by omega)), ?_⟩)
  rw [show (rI h 145 ((nI ((100 * (x / B)) + (y / B))).toNatClampNeg) : Int32) = nI (trn g (x / B * B) (y / B * B)) from by rw [nI_clamp (by omega)]; exact mh.2.2.1 _ _ hx1 hy1]
  refine exf_go 6 (show Go d true 286 32 [.ref 130, .int (nI x), .int (nI y)] [.int (rI h 130 34), .int (nI x), .int 100, .ref 146, .int (nI (trn g (x / B * B) (y / B * B)))] h Q from ?_)
  rw [show (rI h 130 34 : Int32) = nI B from mh.2.1]
  refine exf_go 1 (show ¬ (nI B) = 0 ∧ (Go d true 286 33 [.ref 130, .int (nI x), .int (nI y)] [.int ((nI x) - (nI x) / (nI B) * (nI B)), .int 100, .ref 146, .int (nI (trn g (x / B * B) (y / B * B)))] h Q) from ⟨(nI_ne0 (n := B) (by omega) (by omega)), ?_⟩)
  rw [show ((nI x) - (nI x) / (nI B) * (nI B) : Int32) = nI (x % B) from pk_rem (a := x) (d := B) (by omega) (by omega) (by omega)]
  refine exf_go 1 (show Go d true 286 34 [.ref 130, .int (nI x), .int (nI y)] [.int (100 * (nI (x % B))), .ref 146, .int (nI (trn g (x / B * B) (y / B * B)))] h Q from ?_)
  rw [show (100 * (nI (x % B)) : Int32) = nI (100 * (x % B)) from pk_mul 100 (x % B)]
  refine exf_go 3 (show Go d true 286 39 [.ref 130, .int (nI x), .int (nI y)] [.int (rI h 130 34), .int (nI y), .int (nI (100 * (x % B))), .ref 146, .int (nI (trn g (x / B * B) (y / B * B)))] h Q from ?_)
  rw [show (rI h 130 34 : Int32) = nI B from mh.2.1]
  refine exf_go 1 (show ¬ (nI B) = 0 ∧ (Go d true 286 40 [.ref 130, .int (nI x), .int (nI y)] [.int ((nI y) - (nI y) / (nI B) * (nI B)), .int (nI (100 * (x % B))), .ref 146, .int (nI (trn g (x / B * B) (y / B * B)))] h Q) from ⟨(nI_ne0 (n := B) (by omega) (by omega)), ?_⟩)
  rw [show ((nI y) - (nI y) / (nI B) * (nI B) : Int32) = nI (y % B) from pk_rem (a := y) (d := B) (by omega) (by omega) (by omega)]
  refine exf_go 1 (show Go d true 286 41 [.ref 130, .int (nI x), .int (nI y)] [.int ((nI (100 * (x % B))) + (nI (y % B))), .ref 146, .int (nI (trn g (x / B * B) (y / B * B)))] h Q from ?_)
  rw [show ((nI (100 * (x % B))) + (nI (y % B)) : Int32) = nI ((100 * (x % B)) + (y % B)) from nI_add (100 * (x % B)) (y % B)]
  refine exf_go 1 (show vp_in (nI ((100 * (x % B)) + (y % B))) 10000 ∧ (Go d true 286 42 [.ref 130, .int (nI x), .int (nI y)] [.int (rI h 146 ((nI ((100 * (x % B)) + (y % B))).toNatClampNeg)), .int (nI (trn g (x / B * B) (y / B * B)))] h Q) from ⟨(vp_in_nI (by omega) (by omega)), ?_⟩)
  rw [show (rI h 146 ((nI ((100 * (x % B)) + (y % B))).toNatClampNeg) : Int32) = nI (trn g (x % B) (y % B)) from by rw [nI_clamp (by omega)]; exact mh.2.2.2 _ _ hx2 hy2]
  refine exf_go 1 (show Go d true 286 43 [.ref 130, .int (nI x), .int (nI y)] [.int ((nI (trn g (x / B * B) (y / B * B))) + (nI (trn g (x % B) (y % B))))] h Q from ?_)
  rw [show ((nI (trn g (x / B * B) (y / B * B))) + (nI (trn g (x % B) (y % B))) : Int32) = nI ((trn g (x / B * B) (y / B * B)) + (trn g (x % B) (y % B))) from nI_add (trn g (x / B * B) (y / B * B)) (trn g (x % B) (y % B))]
  refine exf_go 1 (show Q (.int (nI ((trn g (x / B * B) (y / B * B)) + (trn g (x % B) (y % B))))) h from ?_)
  exact k
