/-! Constant strings. -/
def cb (a i : Nat) : Nat := (B0 a i).toNatClampNeg
theorem cb5 : ∀ i, i < 12 → B0 5 i = nI (cb 5 i) ∧ cb 5 i < 128 := by decide +kernel
theorem cb6 : ∀ i, i < 108 → B0 6 i = nI (cb 6 i) ∧ cb 6 i < 128 := by decide +kernel
theorem cb7 : ∀ i, i < 83 → B0 7 i = nI (cb 7 i) ∧ cb 7 i < 128 := by decide +kernel
theorem cb8 : ∀ i, i < 12 → B0 8 i = nI (cb 8 i) ∧ cb 8 i < 128 := by decide +kernel
theorem ch16 : ∀ n, n < 256 → ((nI n).toUInt32 % 65536).toInt32 = nI n := by decide +kernel
theorem nch : ∀ n, n < 256 → (nI n).toUInt32.toUInt16.toUInt32.toInt32 = nI n := by decide +kernel
theorem nI_low8b {a : Nat} (ha : a < 128) : nI a &&& 255 = nI a := by rw [nI_low8 (by omega), Nat.mod_eq_of_lt (by omega)]

theorem j_chk {d : Nat} {h : Hp} {i L : Nat} {Q : Po} (hi : i < L) (hL : L < 2 ^ 31) (k : Q (.int (nI i)) h) : wpC (d + 1) true 319 [.int (nI i), .int (nI L), .retAddr 1] h Q := by
  refine go_in rfl ?_
  refine exf_go 2 (show ((nI i) < 0 → Go d true 319 9 [.int (nI i), .int (nI L), .retAddr 1] [] h Q) ∧ (¬ ((nI i) < 0) → Go d true 319 4 [.int (nI i), .int (nI L), .retAddr 1] [] h Q) from ⟨fun c1 => ?_, fun c1 => ?_⟩)
  · skip
    have c1 : i < 0 := (nI_ltI (a := i) (b := 0) (by omega) (by omega)).mp c1
    exact absurd c1 (by omega)
  · skip
    have c1 : ¬ i < 0 := fun q => c1 ((nI_ltI (a := i) (b := 0) (by omega) (by omega)).mpr q)
    refine exf_go 3 (show ((nI i) < (nI L) → Go d true 319 16 [.int (nI i), .int (nI L), .retAddr 1] [] h Q) ∧ (¬ ((nI i) < (nI L)) → Go d true 319 9 [.int (nI i), .int (nI L), .retAddr 1] [] h Q) from ⟨fun c2 => ?_, fun c2 => ?_⟩)
    · skip
      have c2 : i < L := (nI_ltI (a := i) (b := L) (by omega) (by omega)).mp c2
      refine exf_go 2 (show Q (.int (nI i)) h from ?_)
      exact k
    · skip
      have c2 : ¬ i < L := fun q => c2 ((nI_ltI (a := i) (b := L) (by omega) (by omega)).mpr q)
      exact absurd (by omega) c2
theorem j_chk2 {d : Nat} {h : Hp} {i L : Nat} {Q : Po} (hi : i < L) (hL : L < 2 ^ 31) (k : Q mk_ h) : wpC (d + 2) true 312 [.int (nI i), .int (nI L)] h Q := by
  refine go_in rfl ?_
  refine exf_go 4 (show wpC (d + 1) true 319 [.int (nI i), .int (nI L), .retAddr 1] h (fun r h' => Go (d + 1) true 312 8 [.int (nI i), .int (nI L)] [r] h' Q) from ?_)
  refine j_chk (i := i) (L := L) hi hL ?_
  show Go (d + 1) true 312 8 [.int (nI i), .int (nI L)] [.int (nI i)] h Q
  refine exf_go 2 (show Q (mk_) h from ?_)
  exact k
theorem j_coder1 {d : Nat} {h : Hp} {Q : Po} (k : Q (.int 0) h) : wpC (d + 1) true 310 [.ref 1] h Q := by
  refine go_in rfl ?_
  refine exf_go 2 (show ((1 : Int32) = 0 → Go d true 310 13 [.ref 1] [] h Q) ∧ (¬ ((1 : Int32) = 0) → Go d true 310 6 [.ref 1] [] h Q) from ⟨fun c1 => ?_, fun c1 => ?_⟩)
  · skip
    exact absurd c1 (by decide)
  · skip
    refine exf_go 4 (show narrow .byte (.int 0) = .int 0 ∧ Q (.int 0) h from ⟨(by first | rfl | exact congrArg Value.int (nch _ (by omega))), ?_⟩)
    exact k
theorem j_lat1 {d : Nat} {h : Hp} {Q : Po} (k : Q (.int 1) h) : wpC (d + 1) true 311 [.ref 1] h Q := by
  refine go_in rfl ?_
  refine exf_go 2 (show ((1 : Int32) = 0 → Go d true 311 17 [.ref 1] [] h Q) ∧ (¬ ((1 : Int32) = 0) → Go d true 311 6 [.ref 1] [] h Q) from ⟨fun c1 => ?_, fun c1 => ?_⟩)
  · skip
    exact absurd c1 (by decide)
  · skip
    refine exf_go 3 (show (¬ (0 : Int32) = 0 → Go d true 311 17 [.ref 1] [] h Q) ∧ (¬ (¬ (0 : Int32) = 0) → Go d true 311 13 [.ref 1] [] h Q) from ⟨fun c2 => ?_, fun c2 => ?_⟩)
    · skip
      exact absurd c2 (by decide)
    · skip
      refine exf_go 3 (show ((1 : Int32) = 0 ∨ (1 : Int32) = 1) ∧ Q (.int 1) h from ⟨(by first | exact Or.inl rfl | exact Or.inr rfl | assumption), ?_⟩)
      exact k
theorem j_len1 {d : Nat} {h : Hp} {Q : Po} (k : Q (.int (nI 12)) h) : wpC (d + 2) true 306 [.ref 1] h Q := by
  refine go_in rfl ?_
  refine exf_go 3 (show Go (d + 1) true 306 5 [.ref 1] [.int (nI 12)] h Q from ?_)
  rw [show (nI 12 : Int32) = nI 12 from rfl]
  refine exf_go 2 (show wpC (d + 1) true 310 [.ref 1] h (fun r h' => Go (d + 1) true 306 9 [.ref 1] [r, .int (nI 12)] h' Q) from ?_)
  refine j_coder1 ?_
  show Go (d + 1) true 306 9 [.ref 1] [.int 0, .int (nI 12)] h Q
  refine exf_go 1 (show Go (d + 1) true 306 10 [.ref 1] [.int ((nI 12) >>> (0 &&& 31))] h Q from ?_)
  rw [show ((nI 12) >>> (0 &&& 31) : Int32) = nI 12 from by decide]
  refine exf_go 1 (show Q (.int (nI 12)) h from ?_)
  exact k
theorem j_char11 {d : Nat} {h : Hp} {i : Nat} {Q : Po} (hi : i < 12) (k : Q (.int (nI (cb 5 i))) h) : wpC (d + 3) true 313 [.ref 5, .int (nI i)] h Q := by
  have hcb := (cb5 i hi).2
  refine go_in rfl ?_
  refine exf_go 3 (show Go (d + 2) true 313 3 [.ref 5, .int (nI i)] [.int (nI 12), .int (nI i)] h Q from ?_)
  rw [show (nI 12 : Int32) = nI 12 from rfl]
  refine exf_go 1 (show wpC (d + 2) true 312 [.int (nI i), .int (nI 12)] h (fun _ h' => Go (d + 2) true 313 6 [.ref 5, .int (nI i)] [] h' Q) from ?_)
  refine j_chk2 (i := i) (L := 12) hi (by decide) ?_
  show Go (d + 2) true 313 6 [.ref 5, .int (nI i)] [] h Q
  refine exf_go 3 (show vp_in (nI i) 12 ∧ (Go (d + 2) true 313 9 [.ref 5, .int (nI i)] [.int (B0 5 ((nI i).toNatClampNeg))] h Q) from ⟨(vp_in_nI (by omega) (by omega)), ?_⟩)
  rw [show (B0 5 ((nI i).toNatClampNeg) : Int32) = nI (cb 5 i) from by rw [nI_clamp (by omega)]; exact (cb5 i hi).1]
  refine exf_go 2 (show Go (d + 2) true 313 13 [.ref 5, .int (nI i)] [.int ((nI (cb 5 i)) &&& 255)] h Q from ?_)
  rw [show ((nI (cb 5 i)) &&& 255 : Int32) = nI (cb 5 i) from nI_low8b (cb5 i hi).2]
  refine exf_go 1 (show Go (d + 2) true 313 14 [.ref 5, .int (nI i)] [.int (((nI (cb 5 i)).toUInt32 % 65536).toInt32)] h Q from ?_)
  rw [show (((nI (cb 5 i)).toUInt32 % 65536).toInt32 : Int32) = nI (cb 5 i) from ch16 _ (by omega)]
  refine exf_go 1 (show narrow .char (.int (nI (cb 5 i))) = .int (nI (cb 5 i)) ∧ Q (.int (nI (cb 5 i))) h from ⟨(by first | rfl | exact congrArg Value.int (nch _ (by omega))), ?_⟩)
  exact k
theorem j_char1 {d : Nat} {h : Hp} {i : Nat} {Q : Po} (hi : i < 12) (k : Q (.int (nI (cb 5 i))) h) : wpC (d + 4) true 307 [.ref 1, .int (nI i)] h Q := by
  have hcb := (cb5 i hi).2
  refine go_in rfl ?_
  refine exf_go 2 (show wpC (d + 3) true 311 [.ref 1] h (fun r h' => Go (d + 3) true 307 4 [.ref 1, .int (nI i)] [r] h' Q) from ?_)
  refine j_lat1 ?_
  show Go (d + 3) true 307 4 [.ref 1, .int (nI i)] [.int 1] h Q
  refine exf_go 1 (show ((1 : Int32) = 0 → Go (d + 3) true 307 16 [.ref 1, .int (nI i)] [] h Q) ∧ (¬ ((1 : Int32) = 0) → Go (d + 3) true 307 7 [.ref 1, .int (nI i)] [] h Q) from ⟨fun c1 => ?_, fun c1 => ?_⟩)
  · skip
    exact absurd c1 (by decide)
  · skip
    refine exf_go 4 (show wpC (d + 3) true 313 [.ref 5, .int (nI i)] h (fun r h' => Go (d + 3) true 307 15 [.ref 1, .int (nI i)] [r] h' Q) from ?_)
    refine j_char11 hi ?_
    show Go (d + 3) true 307 15 [.ref 1, .int (nI i)] [.int (nI (cb 5 i))] h Q
    refine exf_go 1 (show narrow .char (.int (nI (cb 5 i))) = .int (nI (cb 5 i)) ∧ Q (.int (nI (cb 5 i))) h from ⟨(by first | rfl | exact congrArg Value.int (nch _ (by omega))), ?_⟩)
    exact k
theorem j_coder2 {d : Nat} {h : Hp} {Q : Po} (k : Q (.int 0) h) : wpC (d + 1) true 310 [.ref 2] h Q := by
  refine go_in rfl ?_
  refine exf_go 2 (show ((1 : Int32) = 0 → Go d true 310 13 [.ref 2] [] h Q) ∧ (¬ ((1 : Int32) = 0) → Go d true 310 6 [.ref 2] [] h Q) from ⟨fun c1 => ?_, fun c1 => ?_⟩)
  · skip
    exact absurd c1 (by decide)
  · skip
    refine exf_go 4 (show narrow .byte (.int 0) = .int 0 ∧ Q (.int 0) h from ⟨(by first | rfl | exact congrArg Value.int (nch _ (by omega))), ?_⟩)
    exact k
theorem j_lat2 {d : Nat} {h : Hp} {Q : Po} (k : Q (.int 1) h) : wpC (d + 1) true 311 [.ref 2] h Q := by
  refine go_in rfl ?_
  refine exf_go 2 (show ((1 : Int32) = 0 → Go d true 311 17 [.ref 2] [] h Q) ∧ (¬ ((1 : Int32) = 0) → Go d true 311 6 [.ref 2] [] h Q) from ⟨fun c1 => ?_, fun c1 => ?_⟩)
  · skip
    exact absurd c1 (by decide)
  · skip
    refine exf_go 3 (show (¬ (0 : Int32) = 0 → Go d true 311 17 [.ref 2] [] h Q) ∧ (¬ (¬ (0 : Int32) = 0) → Go d true 311 13 [.ref 2] [] h Q) from ⟨fun c2 => ?_, fun c2 => ?_⟩)
    · skip
      exact absurd c2 (by decide)
    · skip
      refine exf_go 3 (show ((1 : Int32) = 0 ∨ (1 : Int32) = 1) ∧ Q (.int 1) h from ⟨(by first | exact Or.inl rfl | exact Or.inr rfl | assumption), ?_⟩)
      exact k
theorem j_len2 {d : Nat} {h : Hp} {Q : Po} (k : Q (.int (nI 108)) h) : wpC (d + 2) true 306 [.ref 2] h Q := by
  refine go_in rfl ?_
  refine exf_go 3 (show Go (d + 1) true 306 5 [.ref 2] [.int (nI 108)] h Q from ?_)
  rw [show (nI 108 : Int32) = nI 108 from rfl]
  refine exf_go 2 (show wpC (d + 1) true 310 [.ref 2] h (fun r h' => Go (d + 1) true 306 9 [.ref 2] [r, .int (nI 108)] h' Q) from ?_)
  refine j_coder2 ?_
  show Go (d + 1) true 306 9 [.ref 2] [.int 0, .int (nI 108)] h Q
  refine exf_go 1 (show Go (d + 1) true 306 10 [.ref 2] [.int ((nI 108) >>> (0 &&& 31))] h Q from ?_)
  rw [show ((nI 108) >>> (0 &&& 31) : Int32) = nI 108 from by decide]
  refine exf_go 1 (show Q (.int (nI 108)) h from ?_)
  exact k
theorem j_char12 {d : Nat} {h : Hp} {i : Nat} {Q : Po} (hi : i < 108) (k : Q (.int (nI (cb 6 i))) h) : wpC (d + 3) true 313 [.ref 6, .int (nI i)] h Q := by
  have hcb := (cb6 i hi).2
  refine go_in rfl ?_
  refine exf_go 3 (show Go (d + 2) true 313 3 [.ref 6, .int (nI i)] [.int (nI 108), .int (nI i)] h Q from ?_)
  rw [show (nI 108 : Int32) = nI 108 from rfl]
  refine exf_go 1 (show wpC (d + 2) true 312 [.int (nI i), .int (nI 108)] h (fun _ h' => Go (d + 2) true 313 6 [.ref 6, .int (nI i)] [] h' Q) from ?_)
  refine j_chk2 (i := i) (L := 108) hi (by decide) ?_
  show Go (d + 2) true 313 6 [.ref 6, .int (nI i)] [] h Q
  refine exf_go 3 (show vp_in (nI i) 108 ∧ (Go (d + 2) true 313 9 [.ref 6, .int (nI i)] [.int (B0 6 ((nI i).toNatClampNeg))] h Q) from ⟨(vp_in_nI (by omega) (by omega)), ?_⟩)
  rw [show (B0 6 ((nI i).toNatClampNeg) : Int32) = nI (cb 6 i) from by rw [nI_clamp (by omega)]; exact (cb6 i hi).1]
  refine exf_go 2 (show Go (d + 2) true 313 13 [.ref 6, .int (nI i)] [.int ((nI (cb 6 i)) &&& 255)] h Q from ?_)
  rw [show ((nI (cb 6 i)) &&& 255 : Int32) = nI (cb 6 i) from nI_low8b (cb6 i hi).2]
  refine exf_go 1 (show Go (d + 2) true 313 14 [.ref 6, .int (nI i)] [.int (((nI (cb 6 i)).toUInt32 % 65536).toInt32)] h Q from ?_)
  rw [show (((nI (cb 6 i)).toUInt32 % 65536).toInt32 : Int32) = nI (cb 6 i) from ch16 _ (by omega)]
  refine exf_go 1 (show narrow .char (.int (nI (cb 6 i))) = .int (nI (cb 6 i)) ∧ Q (.int (nI (cb 6 i))) h from ⟨(by first | rfl | exact congrArg Value.int (nch _ (by omega))), ?_⟩)
  exact k
theorem j_char2 {d : Nat} {h : Hp} {i : Nat} {Q : Po} (hi : i < 108) (k : Q (.int (nI (cb 6 i))) h) : wpC (d + 4) true 307 [.ref 2, .int (nI i)] h Q := by
  have hcb := (cb6 i hi).2
  refine go_in rfl ?_
  refine exf_go 2 (show wpC (d + 3) true 311 [.ref 2] h (fun r h' => Go (d + 3) true 307 4 [.ref 2, .int (nI i)] [r] h' Q) from ?_)
  refine j_lat2 ?_
  show Go (d + 3) true 307 4 [.ref 2, .int (nI i)] [.int 1] h Q
  refine exf_go 1 (show ((1 : Int32) = 0 → Go (d + 3) true 307 16 [.ref 2, .int (nI i)] [] h Q) ∧ (¬ ((1 : Int32) = 0) → Go (d + 3) true 307 7 [.ref 2, .int (nI i)] [] h Q) from ⟨fun c1 => ?_, fun c1 => ?_⟩)
  · skip
    exact absurd c1 (by decide)
  · skip
    refine exf_go 4 (show wpC (d + 3) true 313 [.ref 6, .int (nI i)] h (fun r h' => Go (d + 3) true 307 15 [.ref 2, .int (nI i)] [r] h' Q) from ?_)
    refine j_char12 hi ?_
    show Go (d + 3) true 307 15 [.ref 2, .int (nI i)] [.int (nI (cb 6 i))] h Q
    refine exf_go 1 (show narrow .char (.int (nI (cb 6 i))) = .int (nI (cb 6 i)) ∧ Q (.int (nI (cb 6 i))) h from ⟨(by first | rfl | exact congrArg Value.int (nch _ (by omega))), ?_⟩)
    exact k
theorem j_coder3 {d : Nat} {h : Hp} {Q : Po} (k : Q (.int 0) h) : wpC (d + 1) true 310 [.ref 3] h Q := by
  refine go_in rfl ?_
  refine exf_go 2 (show ((1 : Int32) = 0 → Go d true 310 13 [.ref 3] [] h Q) ∧ (¬ ((1 : Int32) = 0) → Go d true 310 6 [.ref 3] [] h Q) from ⟨fun c1 => ?_, fun c1 => ?_⟩)
  · skip
    exact absurd c1 (by decide)
  · skip
    refine exf_go 4 (show narrow .byte (.int 0) = .int 0 ∧ Q (.int 0) h from ⟨(by first | rfl | exact congrArg Value.int (nch _ (by omega))), ?_⟩)
    exact k
theorem j_lat3 {d : Nat} {h : Hp} {Q : Po} (k : Q (.int 1) h) : wpC (d + 1) true 311 [.ref 3] h Q := by
  refine go_in rfl ?_
  refine exf_go 2 (show ((1 : Int32) = 0 → Go d true 311 17 [.ref 3] [] h Q) ∧ (¬ ((1 : Int32) = 0) → Go d true 311 6 [.ref 3] [] h Q) from ⟨fun c1 => ?_, fun c1 => ?_⟩)
  · skip
    exact absurd c1 (by decide)
  · skip
    refine exf_go 3 (show (¬ (0 : Int32) = 0 → Go d true 311 17 [.ref 3] [] h Q) ∧ (¬ (¬ (0 : Int32) = 0) → Go d true 311 13 [.ref 3] [] h Q) from ⟨fun c2 => ?_, fun c2 => ?_⟩)
    · skip
      exact absurd c2 (by decide)
    · skip
      refine exf_go 3 (show ((1 : Int32) = 0 ∨ (1 : Int32) = 1) ∧ Q (.int 1) h from ⟨(by first | exact Or.inl rfl | exact Or.inr rfl | assumption), ?_⟩)
      exact k
theorem j_len3 {d : Nat} {h : Hp} {Q : Po} (k : Q (.int (nI 83)) h) : wpC (d + 2) true 306 [.ref 3] h Q := by
  refine go_in rfl ?_
  refine exf_go 3 (show Go (d + 1) true 306 5 [.ref 3] [.int (nI 83)] h Q from ?_)
  rw [show (nI 83 : Int32) = nI 83 from rfl]
  refine exf_go 2 (show wpC (d + 1) true 310 [.ref 3] h (fun r h' => Go (d + 1) true 306 9 [.ref 3] [r, .int (nI 83)] h' Q) from ?_)
  refine j_coder3 ?_
  show Go (d + 1) true 306 9 [.ref 3] [.int 0, .int (nI 83)] h Q
  refine exf_go 1 (show Go (d + 1) true 306 10 [.ref 3] [.int ((nI 83) >>> (0 &&& 31))] h Q from ?_)
  rw [show ((nI 83) >>> (0 &&& 31) : Int32) = nI 83 from by decide]
  refine exf_go 1 (show Q (.int (nI 83)) h from ?_)
  exact k
theorem j_char13 {d : Nat} {h : Hp} {i : Nat} {Q : Po} (hi : i < 83) (k : Q (.int (nI (cb 7 i))) h) : wpC (d + 3) true 313 [.ref 7, .int (nI i)] h Q := by
  have hcb := (cb7 i hi).2
  refine go_in rfl ?_
  refine exf_go 3 (show Go (d + 2) true 313 3 [.ref 7, .int (nI i)] [.int (nI 83), .int (nI i)] h Q from ?_)
  rw [show (nI 83 : Int32) = nI 83 from rfl]
  refine exf_go 1 (show wpC (d + 2) true 312 [.int (nI i), .int (nI 83)] h (fun _ h' => Go (d + 2) true 313 6 [.ref 7, .int (nI i)] [] h' Q) from ?_)
  refine j_chk2 (i := i) (L := 83) hi (by decide) ?_
  show Go (d + 2) true 313 6 [.ref 7, .int (nI i)] [] h Q
  refine exf_go 3 (show vp_in (nI i) 83 ∧ (Go (d + 2) true 313 9 [.ref 7, .int (nI i)] [.int (B0 7 ((nI i).toNatClampNeg))] h Q) from ⟨(vp_in_nI (by omega) (by omega)), ?_⟩)
  rw [show (B0 7 ((nI i).toNatClampNeg) : Int32) = nI (cb 7 i) from by rw [nI_clamp (by omega)]; exact (cb7 i hi).1]
  refine exf_go 2 (show Go (d + 2) true 313 13 [.ref 7, .int (nI i)] [.int ((nI (cb 7 i)) &&& 255)] h Q from ?_)
  rw [show ((nI (cb 7 i)) &&& 255 : Int32) = nI (cb 7 i) from nI_low8b (cb7 i hi).2]
  refine exf_go 1 (show Go (d + 2) true 313 14 [.ref 7, .int (nI i)] [.int (((nI (cb 7 i)).toUInt32 % 65536).toInt32)] h Q from ?_)
  rw [show (((nI (cb 7 i)).toUInt32 % 65536).toInt32 : Int32) = nI (cb 7 i) from ch16 _ (by omega)]
  refine exf_go 1 (show narrow .char (.int (nI (cb 7 i))) = .int (nI (cb 7 i)) ∧ Q (.int (nI (cb 7 i))) h from ⟨(by first | rfl | exact congrArg Value.int (nch _ (by omega))), ?_⟩)
  exact k
theorem j_char3 {d : Nat} {h : Hp} {i : Nat} {Q : Po} (hi : i < 83) (k : Q (.int (nI (cb 7 i))) h) : wpC (d + 4) true 307 [.ref 3, .int (nI i)] h Q := by
  have hcb := (cb7 i hi).2
  refine go_in rfl ?_
  refine exf_go 2 (show wpC (d + 3) true 311 [.ref 3] h (fun r h' => Go (d + 3) true 307 4 [.ref 3, .int (nI i)] [r] h' Q) from ?_)
  refine j_lat3 ?_
  show Go (d + 3) true 307 4 [.ref 3, .int (nI i)] [.int 1] h Q
  refine exf_go 1 (show ((1 : Int32) = 0 → Go (d + 3) true 307 16 [.ref 3, .int (nI i)] [] h Q) ∧ (¬ ((1 : Int32) = 0) → Go (d + 3) true 307 7 [.ref 3, .int (nI i)] [] h Q) from ⟨fun c1 => ?_, fun c1 => ?_⟩)
  · skip
    exact absurd c1 (by decide)
  · skip
    refine exf_go 4 (show wpC (d + 3) true 313 [.ref 7, .int (nI i)] h (fun r h' => Go (d + 3) true 307 15 [.ref 3, .int (nI i)] [r] h' Q) from ?_)
    refine j_char13 hi ?_
    show Go (d + 3) true 307 15 [.ref 3, .int (nI i)] [.int (nI (cb 7 i))] h Q
    refine exf_go 1 (show narrow .char (.int (nI (cb 7 i))) = .int (nI (cb 7 i)) ∧ Q (.int (nI (cb 7 i))) h from ⟨(by first | rfl | exact congrArg Value.int (nch _ (by omega))), ?_⟩)
    exact k
theorem j_coder4 {d : Nat} {h : Hp} {Q : Po} (k : Q (.int 0) h) : wpC (d + 1) true 310 [.ref 4] h Q := by
  refine go_in rfl ?_
  refine exf_go 2 (show ((1 : Int32) = 0 → Go d true 310 13 [.ref 4] [] h Q) ∧ (¬ ((1 : Int32) = 0) → Go d true 310 6 [.ref 4] [] h Q) from ⟨fun c1 => ?_, fun c1 => ?_⟩)
  · skip
    exact absurd c1 (by decide)
  · skip
    refine exf_go 4 (show narrow .byte (.int 0) = .int 0 ∧ Q (.int 0) h from ⟨(by first | rfl | exact congrArg Value.int (nch _ (by omega))), ?_⟩)
    exact k
theorem j_lat4 {d : Nat} {h : Hp} {Q : Po} (k : Q (.int 1) h) : wpC (d + 1) true 311 [.ref 4] h Q := by
  refine go_in rfl ?_
  refine exf_go 2 (show ((1 : Int32) = 0 → Go d true 311 17 [.ref 4] [] h Q) ∧ (¬ ((1 : Int32) = 0) → Go d true 311 6 [.ref 4] [] h Q) from ⟨fun c1 => ?_, fun c1 => ?_⟩)
  · skip
    exact absurd c1 (by decide)
  · skip
    refine exf_go 3 (show (¬ (0 : Int32) = 0 → Go d true 311 17 [.ref 4] [] h Q) ∧ (¬ (¬ (0 : Int32) = 0) → Go d true 311 13 [.ref 4] [] h Q) from ⟨fun c2 => ?_, fun c2 => ?_⟩)
    · skip
      exact absurd c2 (by decide)
    · skip
      refine exf_go 3 (show ((1 : Int32) = 0 ∨ (1 : Int32) = 1) ∧ Q (.int 1) h from ⟨(by first | exact Or.inl rfl | exact Or.inr rfl | assumption), ?_⟩)
      exact k
theorem j_len4 {d : Nat} {h : Hp} {Q : Po} (k : Q (.int (nI 12)) h) : wpC (d + 2) true 306 [.ref 4] h Q := by
  refine go_in rfl ?_
  refine exf_go 3 (show Go (d + 1) true 306 5 [.ref 4] [.int (nI 12)] h Q from ?_)
  rw [show (nI 12 : Int32) = nI 12 from rfl]
  refine exf_go 2 (show wpC (d + 1) true 310 [.ref 4] h (fun r h' => Go (d + 1) true 306 9 [.ref 4] [r, .int (nI 12)] h' Q) from ?_)
  refine j_coder4 ?_
  show Go (d + 1) true 306 9 [.ref 4] [.int 0, .int (nI 12)] h Q
  refine exf_go 1 (show Go (d + 1) true 306 10 [.ref 4] [.int ((nI 12) >>> (0 &&& 31))] h Q from ?_)
  rw [show ((nI 12) >>> (0 &&& 31) : Int32) = nI 12 from by decide]
  refine exf_go 1 (show Q (.int (nI 12)) h from ?_)
  exact k
theorem j_char14 {d : Nat} {h : Hp} {i : Nat} {Q : Po} (hi : i < 12) (k : Q (.int (nI (cb 8 i))) h) : wpC (d + 3) true 313 [.ref 8, .int (nI i)] h Q := by
  have hcb := (cb8 i hi).2
  refine go_in rfl ?_
  refine exf_go 3 (show Go (d + 2) true 313 3 [.ref 8, .int (nI i)] [.int (nI 12), .int (nI i)] h Q from ?_)
  rw [show (nI 12 : Int32) = nI 12 from rfl]
  refine exf_go 1 (show wpC (d + 2) true 312 [.int (nI i), .int (nI 12)] h (fun _ h' => Go (d + 2) true 313 6 [.ref 8, .int (nI i)] [] h' Q) from ?_)
  refine j_chk2 (i := i) (L := 12) hi (by decide) ?_
  show Go (d + 2) true 313 6 [.ref 8, .int (nI i)] [] h Q
  refine exf_go 3 (show vp_in (nI i) 12 ∧ (Go (d + 2) true 313 9 [.ref 8, .int (nI i)] [.int (B0 8 ((nI i).toNatClampNeg))] h Q) from ⟨(vp_in_nI (by omega) (by omega)), ?_⟩)
  rw [show (B0 8 ((nI i).toNatClampNeg) : Int32) = nI (cb 8 i) from by rw [nI_clamp (by omega)]; exact (cb8 i hi).1]
  refine exf_go 2 (show Go (d + 2) true 313 13 [.ref 8, .int (nI i)] [.int ((nI (cb 8 i)) &&& 255)] h Q from ?_)
  rw [show ((nI (cb 8 i)) &&& 255 : Int32) = nI (cb 8 i) from nI_low8b (cb8 i hi).2]
  refine exf_go 1 (show Go (d + 2) true 313 14 [.ref 8, .int (nI i)] [.int (((nI (cb 8 i)).toUInt32 % 65536).toInt32)] h Q from ?_)
  rw [show (((nI (cb 8 i)).toUInt32 % 65536).toInt32 : Int32) = nI (cb 8 i) from ch16 _ (by omega)]
  refine exf_go 1 (show narrow .char (.int (nI (cb 8 i))) = .int (nI (cb 8 i)) ∧ Q (.int (nI (cb 8 i))) h from ⟨(by first | rfl | exact congrArg Value.int (nch _ (by omega))), ?_⟩)
  exact k
theorem j_char4 {d : Nat} {h : Hp} {i : Nat} {Q : Po} (hi : i < 12) (k : Q (.int (nI (cb 8 i))) h) : wpC (d + 4) true 307 [.ref 4, .int (nI i)] h Q := by
  have hcb := (cb8 i hi).2
  refine go_in rfl ?_
  refine exf_go 2 (show wpC (d + 3) true 311 [.ref 4] h (fun r h' => Go (d + 3) true 307 4 [.ref 4, .int (nI i)] [r] h' Q) from ?_)
  refine j_lat4 ?_
  show Go (d + 3) true 307 4 [.ref 4, .int (nI i)] [.int 1] h Q
  refine exf_go 1 (show ((1 : Int32) = 0 → Go (d + 3) true 307 16 [.ref 4, .int (nI i)] [] h Q) ∧ (¬ ((1 : Int32) = 0) → Go (d + 3) true 307 7 [.ref 4, .int (nI i)] [] h Q) from ⟨fun c1 => ?_, fun c1 => ?_⟩)
  · skip
    exact absurd c1 (by decide)
  · skip
    refine exf_go 4 (show wpC (d + 3) true 313 [.ref 8, .int (nI i)] h (fun r h' => Go (d + 3) true 307 15 [.ref 4, .int (nI i)] [r] h' Q) from ?_)
    refine j_char14 hi ?_
    show Go (d + 3) true 307 15 [.ref 4, .int (nI i)] [.int (nI (cb 8 i))] h Q
    refine exf_go 1 (show narrow .char (.int (nI (cb 8 i))) = .int (nI (cb 8 i)) ∧ Q (.int (nI (cb 8 i))) h from ⟨(by first | rfl | exact congrArg Value.int (nch _ (by omega))), ?_⟩)
    exact k
theorem ch8 : ∀ n, n < 128 → (nI n).toInt8.toInt32 = nI n := by decide +kernel
theorem j_idc {d : Nat} {h : Hp} {c : Nat} {Q : Po} (hc : c < 128) (k1 : ∀ j, j < 12 → cb 5 j = c → Q (.int (nI j)) h) (k0 : (∀ j, j < 12 → ¬ cb 5 j = c) → Q (.int (-1)) h) : wpC (d + 1) true 316 [.ref 5, .int (nI c), .int 0, .int (nI 12)] h Q := by
  refine go_in rfl ?_
  refine exf_go 2 (show Go d true 316 2 [.ref 5, .int (nI c), .int 0, .int (nI 12), mk_, mk_] [.int ((nI c).toInt8.toInt32)] h Q from ?_)
  rw [show ((nI c).toInt8.toInt32 : Int32) = nI c from ch8 _ hc]
  refine exf_go 3 (show Go d true 316 7 [.ref 5, .int (nI c), .int 0, .int (nI 12), .int (nI c), .int 0] [] h Q from ?_)
  have L7 : ∀ (k7 : Nat) (j : Nat), (12 - j) < k7 → (j ≤ 12) → (∀ i, i < j → ¬ cb 5 i = c) → Go d true 316 7 [.ref 5, .int (nI c), .int 0, .int (nI 12), .int (nI c), .int (nI j)] [] h Q := by
    intro k7
    induction k7 with
    | zero => intro j hk; exact absurd hk (Nat.not_lt_zero _)
    | succ k7 ih7 =>
      intro j hk hj hn
      refine exf_go 3 (show ((nI 12) ≤ (nI j) → Go d true 316 31 [.ref 5, .int (nI c), .int 0, .int (nI 12), .int (nI c), .int (nI j)] [] h Q) ∧ (¬ ((nI 12) ≤ (nI j)) → Go d true 316 13 [.ref 5, .int (nI c), .int 0, .int (nI 12), .int (nI c), .int (nI j)] [] h Q) from ⟨fun c1 => ?_, fun c1 => ?_⟩)
      · skip
        have c1 : 12 ≤ j := (nI_leI (a := 12) (b := j) (by omega) (by omega)).mp c1
        refine exf_go 2 (show Q (.int (-1)) h from ?_)
        exact k0 (fun i hi => hn i (by omega))
      · skip
        have c1 : ¬ 12 ≤ j := fun q => c1 ((nI_leI (a := 12) (b := j) (by omega) (by omega)).mpr q)
        refine exf_go 3 (show vp_in (nI j) 12 ∧ (Go d true 316 17 [.ref 5, .int (nI c), .int 0, .int (nI 12), .int (nI c), .int (nI j)] [.int (B0 5 ((nI j).toNatClampNeg))] h Q) from ⟨(vp_in_nI (by omega) (by omega)), ?_⟩)
        rw [show (B0 5 ((nI j).toNatClampNeg) : Int32) = nI (cb 5 j) from by rw [nI_clamp (by omega)]; exact (cb5 j (by omega)).1]
        have := (cb5 j (by omega)).2
        refine exf_go 2 (show (¬ (nI (cb 5 j)) = (nI c) → Go d true 316 25 [.ref 5, .int (nI c), .int 0, .int (nI 12), .int (nI c), .int (nI j)] [] h Q) ∧ (¬ (¬ (nI (cb 5 j)) = (nI c)) → Go d true 316 22 [.ref 5, .int (nI c), .int 0, .int (nI 12), .int (nI c), .int (nI j)] [] h Q) from ⟨fun c2 => ?_, fun c2 => ?_⟩)
        · skip
          have c2 : ¬ (cb 5 j) = c := fun q => c2 ((nI_eq (a := (cb 5 j)) (b := c) (by omega) (by omega)).mpr q)
          refine exf_go 1 (show Go d true 316 28 [.ref 5, .int (nI c), .int 0, .int (nI 12), .int (nI c), .int ((nI j) + 1)] [] h Q from ?_)
          rw [show ((nI j) + 1 : Int32) = nI (j + 1) from nI_add j 1]
          refine exf_go 1 (show Go d true 316 7 [.ref 5, .int (nI c), .int 0, .int (nI 12), .int (nI c), .int (nI (j + 1))] [] h Q from ?_)
          exact ih7 (j + 1) (by omega) (by omega) (fun i hi => (Decidable.em (i = j)).elim (fun e => by rw [e]; assumption) (fun e => hn i (by omega)))
        · skip
          have c2 : (cb 5 j) = c := (nI_eq (a := (cb 5 j)) (b := c) (by omega) (by omega)).mp (Classical.not_not.mp c2)
          refine exf_go 2 (show Q (.int (nI j)) h from ?_)
          exact k1 j (by omega) (by omega)
  exact L7 (12 + 1) 0 (by omega) (by omega) (fun i hi => absurd hi (Nat.not_lt_zero _))
theorem j_enc {d : Nat} {h : Hp} {c : Nat} {Q : Po} (hc : c < 128) (k : Q (.int 1) h) : wpC (d + 1) true 314 [.int (nI c)] h Q := by
  refine go_in rfl ?_
  refine exf_go 2 (show ((nI c) < 0 → Go d true 314 15 [.int (nI c)] [] h Q) ∧ (¬ ((nI c) < 0) → Go d true 314 4 [.int (nI c)] [] h Q) from ⟨fun c1 => ?_, fun c1 => ?_⟩)
  · skip
    have c1 : c < 0 := (nI_ltI (a := c) (b := 0) (by omega) (by omega)).mp c1
    refine exf_go 2 (show ((0 : Int32) = 0 ∨ (0 : Int32) = 1) ∧ Q (.int 0) h from ⟨(by first | exact Or.inl rfl | exact Or.inr rfl | assumption), ?_⟩)
    exfalso; omega
  · skip
    have c1 : ¬ c < 0 := fun q => c1 ((nI_ltI (a := c) (b := 0) (by omega) (by omega)).mpr q)
    refine exf_go 3 (show (255 < (nI c) → Go d true 314 15 [.int (nI c)] [] h Q) ∧ (¬ (255 < (nI c)) → Go d true 314 11 [.int (nI c)] [] h Q) from ⟨fun c2 => ?_, fun c2 => ?_⟩)
    · skip
      have c2 : 255 < c := (nI_ltI (a := 255) (b := c) (by omega) (by omega)).mp c2
      refine exf_go 2 (show ((0 : Int32) = 0 ∨ (0 : Int32) = 1) ∧ Q (.int 0) h from ⟨(by first | exact Or.inl rfl | exact Or.inr rfl | assumption), ?_⟩)
      exfalso; omega
    · skip
      have c2 : ¬ 255 < c := fun q => c2 ((nI_ltI (a := 255) (b := c) (by omega) (by omega)).mpr q)
      refine exf_go 3 (show ((1 : Int32) = 0 ∨ (1 : Int32) = 1) ∧ Q (.int 1) h from ⟨(by first | exact Or.inl rfl | exact Or.inr rfl | assumption), ?_⟩)
      exact k
theorem j_ix1 {d : Nat} {h : Hp} {c : Nat} {Q : Po} (hc : c < 128) (k1 : ∀ j, j < 12 → cb 5 j = c → Q (.int (nI j)) h) (k0 : (∀ j, j < 12 → ¬ cb 5 j = c) → Q (.int (-1)) h) : wpC (d + 2) true 315 [.ref 5, .int (nI c), .int 0, .int (nI 12)] h Q := by
  refine go_in rfl ?_
  refine exf_go 2 (show wpC (d + 1) true 314 [.int (nI c)] h (fun r h' => Go (d + 1) true 315 4 [.ref 5, .int (nI c), .int 0, .int (nI 12)] [r] h' Q) from ?_)
  refine j_enc hc ?_
  show Go (d + 1) true 315 4 [.ref 5, .int (nI c), .int 0, .int (nI 12)] [.int 1] h Q
  refine exf_go 1 (show (¬ (1 : Int32) = 0 → Go (d + 1) true 315 9 [.ref 5, .int (nI c), .int 0, .int (nI 12)] [] h Q) ∧ (¬ (¬ (1 : Int32) = 0) → Go (d + 1) true 315 7 [.ref 5, .int (nI c), .int 0, .int (nI 12)] [] h Q) from ⟨fun c1 => ?_, fun c1 => ?_⟩)
  · skip
    refine exf_go 3 (show wpC (d + 1) true 302 [.int 0, .int 0] h (fun r h' => Go (d + 1) true 315 14 [.ref 5, .int (nI c), .int 0, .int (nI 12)] [r] h' Q) from ?_)
    refine c_max (a := 0) (b := 0) (by omega) (by omega) ?_
    show Go (d + 1) true 315 14 [.ref 5, .int (nI c), .int 0, .int (nI 12)] [.int 0] h Q
    refine exf_go 4 (show Go (d + 1) true 315 18 [.ref 5, .int (nI c), .int 0, .int (nI 12)] [.int (nI 12), .int (nI 12)] h Q from ?_)
    rw [show (nI 12 : Int32) = nI 12 from rfl]
    refine exf_go 1 (show wpC (d + 1) true 304 [.int (nI 12), .int (nI 12)] h (fun r h' => Go (d + 1) true 315 21 [.ref 5, .int (nI c), .int 0, .int (nI 12)] [r] h' Q) from ?_)
    refine c_min (a := 12) (b := 12) (by omega) (by omega) ?_
    show Go (d + 1) true 315 21 [.ref 5, .int (nI c), .int 0, .int (nI 12)] [.int (nI 12)] h Q
    refine exf_go 4 (show (0 < (nI 12) → Go (d + 1) true 315 29 [.ref 5, .int (nI c), .int 0, .int (nI 12)] [] h Q) ∧ (¬ (0 < (nI 12)) → Go (d + 1) true 315 27 [.ref 5, .int (nI c), .int 0, .int (nI 12)] [] h Q) from ⟨fun c2 => ?_, fun c2 => ?_⟩)
    · skip
      refine exf_go 5 (show wpC (d + 1) true 316 [.ref 5, .int (nI c), .int 0, .int (nI 12)] h (fun r h' => Go (d + 1) true 315 36 [.ref 5, .int (nI c), .int 0, .int (nI 12)] [r] h' Q) from ?_)
      refine j_idc hc (fun j hj hj2 => ?_) (fun hj => ?_)
      · skip
        show Go (d + 1) true 315 36 [.ref 5, .int (nI c), .int 0, .int (nI 12)] [.int (nI j)] h Q
        refine exf_go 1 (show Q (.int (nI j)) h from ?_)
        exact k1 j hj hj2
      · skip
        show Go (d + 1) true 315 36 [.ref 5, .int (nI c), .int 0, .int (nI 12)] [.int (-1)] h Q
        refine exf_go 1 (show Q (.int (-1)) h from ?_)
        exact k0 hj
    · skip
      exact absurd (by decide) c2
  · skip
    exact absurd (by decide) c1
theorem j_ix2 {d : Nat} {h : Hp} {c : Nat} {Q : Po} (hc : c < 128) (k1 : ∀ j, j < 12 → cb 5 j = c → Q (.int (nI j)) h) (k0 : (∀ j, j < 12 → ¬ cb 5 j = c) → Q (.int (-1)) h) : wpC (d + 3) true 309 [.ref 1, .int (nI c), .int 0] h Q := by
  refine go_in rfl ?_
  refine exf_go 2 (show wpC (d + 2) true 311 [.ref 1] h (fun r h' => Go (d + 2) true 309 4 [.ref 1, .int (nI c), .int 0] [r] h' Q) from ?_)
  refine j_lat1 ?_
  show Go (d + 2) true 309 4 [.ref 1, .int (nI c), .int 0] [.int 1] h Q
  refine exf_go 1 (show ((1 : Int32) = 0 → Go (d + 2) true 309 23 [.ref 1, .int (nI c), .int 0] [] h Q) ∧ (¬ ((1 : Int32) = 0) → Go (d + 2) true 309 7 [.ref 1, .int (nI c), .int 0] [] h Q) from ⟨fun c1 => ?_, fun c1 => ?_⟩)
  · skip
    exact absurd c1 (by decide)
  · skip
    refine exf_go 6 (show wpC (d + 2) true 306 [.ref 1] h (fun r h' => Go (d + 2) true 309 17 [.ref 1, .int (nI c), .int 0] [r, .int 0, .int (nI c), .ref 5] h' Q) from ?_)
    refine j_len1 ?_
    show Go (d + 2) true 309 17 [.ref 1, .int (nI c), .int 0] [.int (nI 12), .int 0, .int (nI c), .ref 5] h Q
    refine exf_go 1 (show wpC (d + 2) true 315 [.ref 5, .int (nI c), .int 0, .int (nI 12)] h (fun r h' => Go (d + 2) true 309 20 [.ref 1, .int (nI c), .int 0] [r] h' Q) from ?_)
    refine j_ix1 hc (fun j hj hj2 => ?_) (fun hj => ?_)
    · skip
      show Go (d + 2) true 309 20 [.ref 1, .int (nI c), .int 0] [.int (nI j)] h Q
      refine exf_go 2 (show Q (.int (nI j)) h from ?_)
      exact k1 j hj hj2
    · skip
      show Go (d + 2) true 309 20 [.ref 1, .int (nI c), .int 0] [.int (-1)] h Q
      refine exf_go 2 (show Q (.int (-1)) h from ?_)
      exact k0 hj
theorem j_ix {d : Nat} {h : Hp} {c : Nat} {Q : Po} (hc : c < 128) (k1 : ∀ j, j < 12 → cb 5 j = c → Q (.int (nI j)) h) (k0 : (∀ j, j < 12 → ¬ cb 5 j = c) → Q (.int (-1)) h) : wpC (d + 4) true 308 [.ref 1, .int (nI c)] h Q := by
  refine go_in rfl ?_
  refine exf_go 4 (show wpC (d + 3) true 309 [.ref 1, .int (nI c), .int 0] h (fun r h' => Go (d + 3) true 308 6 [.ref 1, .int (nI c)] [r] h' Q) from ?_)
  refine j_ix2 hc (fun j hj hj2 => ?_) (fun hj => ?_)
  · skip
    show Go (d + 3) true 308 6 [.ref 1, .int (nI c)] [.int (nI j)] h Q
    refine exf_go 1 (show Q (.int (nI j)) h from ?_)
    exact k1 j hj hj2
  · skip
    show Go (d + 3) true 308 6 [.ref 1, .int (nI c)] [.int (-1)] h Q
    refine exf_go 1 (show Q (.int (-1)) h from ?_)
    exact k0 hj
