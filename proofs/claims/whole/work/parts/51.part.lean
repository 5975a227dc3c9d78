/-! The model: lowest terms. -/
theorem m_common1 {d : Nat} {h : Hp} {a b G : Nat} {Q : Po} (hG : Nat.gcd a b = G) (ha : a < 2 ^ 63) (hb : b < 2 ^ 63) (ih : ¬ b = 0 → ∀ Q2 : Po, Q2 (.long (lN G)) h → wpC d true 235 [.long (lN b), .long (lN (a % b))] h Q2) (k : Q (.long (lN G)) h) : wpC (d + 1) true 235 [.long (lN a), .long (lN b)] h Q := by
  refine go_in rfl ?_
  refine exf_go 4 (show (¬ (lg_cmp (lN b) 0) = 0 → Go d true 235 10 [.long (lN a), mk_, .long (lN b), mk_] [] h Q) ∧ (¬ (¬ (lg_cmp (lN b) 0) = 0) → Go d true 235 6 [.long (lN a), mk_, .long (lN b), mk_] [] h Q) from ⟨fun c1 => ?_, fun c1 => ?_⟩)
  · skip
    have c1 : ¬ ((lN b) = 0) := fun q => c1 ((lg_cmp_eq _ _).mpr q)
    have c1 : ¬ (b = 0) := fun q => c1 ((pk_lEQ (a := b) (b := 0) (by omega) (by omega)).mpr q)
    refine exf_go 4 (show ¬ (lN b) = 0 ∧ (Go d true 235 14 [.long (lN a), mk_, .long (lN b), mk_] [.long ((lN a) - (lN a) / (lN b) * (lN b)), .long (lN b)] h Q) from ⟨(fun q => c1 ((pk_lEQ (a := b) (b := 0) (by omega) (by omega)).mp q)), ?_⟩)
    rw [show ((lN a) - (lN a) / (lN b) * (lN b) : Int64) = lN (a % b) from pk_lRem (a := a) (b := b) (by omega) (by omega) (by omega)]
    refine exf_go 1 (show wpC d true 235 [.long (lN b), .long (lN (a % b))] h (fun r h' => Go d true 235 17 [.long (lN a), mk_, .long (lN b), mk_] [r] h' Q) from ?_)
    refine ih c1 _ ?_
    show Go d true 235 17 [.long (lN a), mk_, .long (lN b), mk_] [.long (lN G)] h Q
    refine exf_go 1 (show Q (.long (lN G)) h from ?_)
    exact k
  · skip
    have c1 : (lN b) = 0 := (lg_cmp_eq _ _).mp (Classical.not_not.mp c1)
    have c1 : b = 0 := (pk_lEQ (a := b) (b := 0) (by omega) (by omega)).mp c1
    refine exf_go 3 (show Q (.long (lN a)) h from ?_)
    rw [← hG, c1, Nat.gcd_zero_right] at k; exact k
theorem m_commonI {d : Nat} {h : Hp} {G : Nat} : ∀ (j i a b : Nat) (Q : Po), i + j = 130 → Nat.gcd a b = G → a < 2 ^ 63 → b < 2 ^ 63 → (i = 0 ∨ (b ≤ a ∧ a * b < 2 ^ (127 - i))) → Q (.long (lN G)) h → wpC (d + j + 1) true 235 [.long (lN a), .long (lN b)] h Q
  | 0, i, a, b, Q, e, hG, ha, hb, hp, k => m_common1 hG ha hb (fun c => absurd (gcd_end (a := a) (b := b) (hp.elim (fun q => by omega) (fun q => by rw [show 127 - i = 0 from by omega] at q; exact q))) c) k
  | j + 1, i, a, b, Q, e, hG, ha, hb, hp, k => m_common1 hG ha hb (fun c Q2 k2 => by
      have hst := gcd_step (i := i) c ha hb hp
      have hml : a % b < b := Nat.mod_lt _ (by omega)
      exact m_commonI j (i + 1) b (a % b) Q2 (by omega) (by rw [← hG, Nat.gcd_comm b, ← Nat.gcd_rec, Nat.gcd_comm]) hb (by omega) (Or.inr hst) k2) k
theorem m_common {d : Nat} {h : Hp} {a b : Nat} {Q : Po} (ha : a < 2 ^ 63) (hb : b < 2 ^ 63) (k : Q (.long (lN (Nat.gcd a b))) h) : wpC (d + 131) true 235 [.long (lN a), .long (lN b)] h Q := m_commonI 130 0 a b Q (by omega) rfl ha hb (Or.inl rfl) k
theorem m_part {d : Nat} {h : Hp} {u v : Nat} {x : Int32} {Q : Po} (hu : u < 2 ^ 63) (hv : v < 2 ^ 63) (hv0 : 0 < v) (k : Q (.long (fPart u v x)) h) : wpC (d + 132) true 236 [.long (lN u), .long (lN v), .int x] h Q := by
  refine go_in rfl ?_
  refine exf_go 3 (show wpC (d + 131) true 235 [.long (lN u), .long (lN v)] h (fun r h' => Go (d + 131) true 236 5 [.long (lN u), mk_, .long (lN v), mk_, .int x, mk_, mk_] [r] h' Q) from ?_)
  refine m_common (a := u) (b := v) (by omega) (by omega) ?_
  have hgp : 0 < Nat.gcd u v := Nat.gcd_pos_of_pos_right _ (by omega)
  have hgl : Nat.gcd u v ≤ v := Nat.gcd_le_right _ (by omega)
  show Go (d + 131) true 236 5 [.long (lN u), mk_, .long (lN v), mk_, .int x, mk_, mk_] [.long (lN (Nat.gcd u v))] h Q
  refine exf_go 3 (show (¬ x = 0 → Go (d + 131) true 236 19 [.long (lN u), mk_, .long (lN v), mk_, .int x, .long (lN (Nat.gcd u v)), mk_] [] h Q) ∧ (¬ (¬ x = 0) → Go (d + 131) true 236 12 [.long (lN u), mk_, .long (lN v), mk_, .int x, .long (lN (Nat.gcd u v)), mk_] [] h Q) from ⟨fun c1 => ?_, fun c1 => ?_⟩)
  · skip
    refine exf_go 3 (show ¬ (lN (Nat.gcd u v)) = 0 ∧ (Go (d + 131) true 236 23 [.long (lN u), mk_, .long (lN v), mk_, .int x, .long (lN (Nat.gcd u v)), mk_] [.long ((lN v) / (lN (Nat.gcd u v)))] h Q) from ⟨(fun q => absurd ((pk_lEQ (a := Nat.gcd u v) (b := 0) (by omega) (by omega)).mp q) (by omega)), ?_⟩)
    rw [show ((lN v) / (lN (Nat.gcd u v)) : Int64) = lN (v / (Nat.gcd u v)) from pk_lDiv (a := v) (b := (Nat.gcd u v)) (by omega) (by omega) (by omega)]
    refine exf_go 1 (show Q (.long (lN (v / (Nat.gcd u v)))) h from ?_)
    rw [fPart] at k; first | rw [if_pos (Classical.not_not.mp c1)] at k | rw [if_neg c1] at k
    exact k
  · skip
    refine exf_go 3 (show ¬ (lN (Nat.gcd u v)) = 0 ∧ (Go (d + 131) true 236 16 [.long (lN u), mk_, .long (lN v), mk_, .int x, .long (lN (Nat.gcd u v)), mk_] [.long ((lN u) / (lN (Nat.gcd u v)))] h Q) from ⟨(fun q => absurd ((pk_lEQ (a := Nat.gcd u v) (b := 0) (by omega) (by omega)).mp q) (by omega)), ?_⟩)
    rw [show ((lN u) / (lN (Nat.gcd u v)) : Int64) = lN (u / (Nat.gcd u v)) from pk_lDiv (a := u) (b := (Nat.gcd u v)) (by omega) (by omega) (by omega)]
    refine exf_go 2 (show Q (.long (lN (u / (Nat.gcd u v)))) h from ?_)
    rw [fPart] at k; first | rw [if_pos (Classical.not_not.mp c1)] at k | rw [if_neg c1] at k
    exact k
