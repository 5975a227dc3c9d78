/-! The class ranks numbers. -/
def sAt (z a _i : Nat) : Bool := Nat.beq a z
theorem sAt_ne {z a i : Nat} (h : sAt z a i = false) : a ≠ z := fun q => by rw [q] at h; unfold sAt at h; rw [Nat.beq_refl] at h; exact Bool.noConfusion h
theorem sAt_C {z : Nat} (hz : ∀ i, scC z i = true) (a i : Nat) (h : scC a i = false) : sAt z a i = false := by
  unfold sAt
  cases e : Nat.beq a z with
  | false => rfl
  | true => rw [Nat.eq_of_beq_eq_true e, hz] at h; exact Bool.noConfusion h
theorem c_fill73 {d : Nat} {h : Hp} {Q : Po}  (k : ∀ h1, Fq (sAt 73) h h1 → (∀ i, i < 256 → rI h1 73 i = 0) → Q mk_ h1) : wpC (d + 1) true 318 [.ref 73, .int 0] h Q := by
  refine go_in rfl ?_
  refine exf_go 4 (show Go d true 318 4 [.ref 73, .int 0, .int 0, mk_] [.int (nI 256)] h Q from ?_)
  rw [show (nI 256 : Int32) = nI 256 from rfl]
  refine exf_go 1 (show Go d true 318 5 [.ref 73, .int 0, .int 0, .int (nI 256)] [] h Q from ?_)
  have L5 : ∀ (k5 : Nat) (j : Nat) (h1 : Hp), (256 - j) < k5 → (j ≤ 256) → (Fq (sAt 73) h h1) → (∀ i, i < j → rI h1 73 i = 0) → Go d true 318 5 [.ref 73, .int 0, .int (nI j), .int (nI 256)] [] h1 Q := by
    intro k5
    induction k5 with
    | zero => intro j h1 hk; exact absurd hk (Nat.not_lt_zero _)
    | succ k5 ih5 =>
      intro j h1 hk hj q1 hv
      refine exf_go 3 (show ((nI 256) ≤ (nI j) → Go d true 318 20 [.ref 73, .int 0, .int (nI j), .int (nI 256)] [] h1 Q) ∧ (¬ ((nI 256) ≤ (nI j)) → Go d true 318 10 [.ref 73, .int 0, .int (nI j), .int (nI 256)] [] h1 Q) from ⟨fun c1 => ?_, fun c1 => ?_⟩)
      · skip
        have c1 : 256 ≤ j := (nI_leI (a := 256) (b := j) (by omega) (by omega)).mp c1
        refine exf_go 1 (show Q (mk_) h1 from ?_)
        exact k h1 q1 (fun i hi => hv i (by omega))
      · skip
        have c1 : ¬ 256 ≤ j := fun q => c1 ((nI_leI (a := 256) (b := j) (by omega) (by omega)).mpr q)
        refine exf_go 5 (show vp_in (nI j) 256 ∧ (Go d true 318 17 [.ref 73, .int 0, .int ((nI j) + 1), .int (nI 256)] [] (uI h1 73 ((nI j).toNatClampNeg) 0) Q) from ⟨(vp_in_nI (by omega) (by omega)), ?_⟩)
        rw [show ((nI j) + 1 : Int32) = nI (j + 1) from nI_add j 1]
        refine exf_go 1 (show Go d true 318 5 [.ref 73, .int 0, .int (nI (j + 1)), .int (nI 256)] [] (uI h1 73 ((nI j).toNatClampNeg) 0) Q from ?_)
        exact ih5 (j + 1) _ (by omega) (by omega) (q1.uI' _ _ _ rfl) (fun i hi => by rw [nI_clamp (by omega)]; exact (Decidable.em (i = j)).elim (fun e => by rw [e, rI_uI_eq]) (fun e => by rw [rI_uI_at e]; exact hv i (by omega)))
  exact L5 (256 + 1) 0 h (by omega) (by omega) Fq.rfl' (fun i hi => absurd hi (Nat.not_lt_zero _))
theorem c_fill98 {d : Nat} {h : Hp} {Q : Po} (hl : al h 98 < 2 ^ 31) (k : ∀ h1, Fq (sAt 98) h h1 → (∀ i, i < (al h 98) → rI h1 98 i = 10000) → Q mk_ h1) : wpC (d + 1) true 318 [.ref 98, .int 10000] h Q := by
  refine go_in rfl ?_
  refine exf_go 4 (show Go d true 318 4 [.ref 98, .int 10000, .int 0, mk_] [.int (nI (al h 98))] h Q from ?_)
  rw [show (nI (al h 98) : Int32) = nI (al h 98) from rfl]
  refine exf_go 1 (show Go d true 318 5 [.ref 98, .int 10000, .int 0, .int (nI (al h 98))] [] h Q from ?_)
  have L5 : ∀ (k5 : Nat) (j : Nat) (h1 : Hp), ((al h 98) - j) < k5 → (j ≤ (al h 98)) → (Fq (sAt 98) h h1) → (∀ i, i < j → rI h1 98 i = 10000) → Go d true 318 5 [.ref 98, .int 10000, .int (nI j), .int (nI (al h 98))] [] h1 Q := by
    intro k5
    induction k5 with
    | zero => intro j h1 hk; exact absurd hk (Nat.not_lt_zero _)
    | succ k5 ih5 =>
      intro j h1 hk hj q1 hv
      have hal1 : al h1 98 = al h 98 := q1.L 98
      refine exf_go 3 (show ((nI (al h 98)) ≤ (nI j) → Go d true 318 20 [.ref 98, .int 10000, .int (nI j), .int (nI (al h 98))] [] h1 Q) ∧ (¬ ((nI (al h 98)) ≤ (nI j)) → Go d true 318 10 [.ref 98, .int 10000, .int (nI j), .int (nI (al h 98))] [] h1 Q) from ⟨fun c1 => ?_, fun c1 => ?_⟩)
      · skip
        have c1 : (al h 98) ≤ j := (nI_leI (a := (al h 98)) (b := j) (by omega) (by omega)).mp c1
        refine exf_go 1 (show Q (mk_) h1 from ?_)
        exact k h1 q1 (fun i hi => hv i (by omega))
      · skip
        have c1 : ¬ (al h 98) ≤ j := fun q => c1 ((nI_leI (a := (al h 98)) (b := j) (by omega) (by omega)).mpr q)
        refine exf_go 5 (show vp_in (nI j) (al h1 98) ∧ (Go d true 318 17 [.ref 98, .int 10000, .int ((nI j) + 1), .int (nI (al h 98))] [] (uI h1 98 ((nI j).toNatClampNeg) 10000) Q) from ⟨(by rw [show al h1 98 = al h 98 from q1.L 98]; exact vp_in_nI (by omega) (by omega)), ?_⟩)
        rw [show ((nI j) + 1 : Int32) = nI (j + 1) from nI_add j 1]
        refine exf_go 1 (show Go d true 318 5 [.ref 98, .int 10000, .int (nI (j + 1)), .int (nI (al h 98))] [] (uI h1 98 ((nI j).toNatClampNeg) 10000) Q from ?_)
        exact ih5 (j + 1) _ (by omega) (by omega) (q1.uI' _ _ _ rfl) (fun i hi => by rw [nI_clamp (by omega)]; exact (Decidable.em (i = j)).elim (fun e => by rw [e, rI_uI_eq]) (fun e => by rw [rI_uI_at e]; exact hv i (by omega)))
  exact L5 ((al h 98) + 1) 0 h (by omega) (by omega) Fq.rfl' (fun i hi => absurd hi (Nat.not_lt_zero _))
theorem c_room72 {d : Nat} {h : Hp} {n : Nat} {Q : Po} (wf : WF h) (hn : n ≤ 10000) (k0 : n ≤ rL h 72 → Q (.ref 72) h) (k1 : ∀ m, (m = 16 ∨ m = 256 ∨ m = 2048 ∨ m = 10000) → n ≤ m → rL h 72 < m → Q (.ref 99) (nwH h 99 m)) : wpC (d + 1) true 182 [.ref 72, .int (nI n)] h Q := by
  have hz := wf.2.1 72
  refine go_in rfl ?_
  refine exf_go 3 (show Go d true 182 3 [.ref 72, .int (nI n)] [.int (nI (al h 72)), .int (nI n)] h Q from ?_)
  rw [show (nI (al h 72) : Int32) = nI (rL h 72) from rfl]
  refine exf_go 1 (show ((nI (rL h 72)) < (nI n) → Go d true 182 8 [.ref 72, .int (nI n)] [] h Q) ∧ (¬ ((nI (rL h 72)) < (nI n)) → Go d true 182 6 [.ref 72, .int (nI n)] [] h Q) from ⟨fun c1 => ?_, fun c1 => ?_⟩)
  · skip
    have c1 : (rL h 72) < n := (nI_ltI (a := (rL h 72)) (b := n) (by omega) (by omega)).mp c1
    refine exf_go 3 (show (16 < (nI n) → Go d true 182 19 [.ref 72, .int (nI n)] [] h Q) ∧ (¬ (16 < (nI n)) → Go d true 182 14 [.ref 72, .int (nI n)] [] h Q) from ⟨fun c2 => ?_, fun c2 => ?_⟩)
    · skip
      have c2 : 16 < n := (nI_ltI (a := 16) (b := n) (by omega) (by omega)).mp c2
      refine exf_go 3 (show (256 < (nI n) → Go d true 182 32 [.ref 72, .int (nI n)] [] h Q) ∧ (¬ (256 < (nI n)) → Go d true 182 26 [.ref 72, .int (nI n)] [] h Q) from ⟨fun c3 => ?_, fun c3 => ?_⟩)
      · skip
        have c3 : 256 < n := (nI_ltI (a := 256) (b := n) (by omega) (by omega)).mp c3
        refine exf_go 3 (show (2048 < (nI n) → Go d true 182 45 [.ref 72, .int (nI n)] [] h Q) ∧ (¬ (2048 < (nI n)) → Go d true 182 39 [.ref 72, .int (nI n)] [] h Q) from ⟨fun c4 => ?_, fun c4 => ?_⟩)
        · skip
          have c4 : 2048 < n := (nI_ltI (a := 2048) (b := n) (by omega) (by omega)).mp c4
          refine exf_go 2 (show ∃ a_, K0 a_ = 20 ∧ rD h a_ = false ∧ ¬ (10000 : Int32) < 0 ∧ (L0 a_ = 0 ∨ L0 a_ = (10000 : Int32).toNatClampNeg) ∧ (10000 : Int32).toNatClampNeg ≤ 1000000 ∧ Go d true 182 50 [.ref 72, .int (nI n)] [.ref a_] (nwH h a_ 10000) Q from ⟨99, rfl, wf.1, by decide, by decide, by decide, ?_⟩)
          show Go d true 182 50 [.ref 72, .int (nI n)] [.ref 99] (nwH h 99 10000) Q
          refine exf_go 1 (show Q (.ref 99) (nwH h 99 10000) from ?_)
          exact k1 _ (by omega) (by omega) (by omega)
        · skip
          have c4 : ¬ 2048 < n := fun q => c4 ((nI_ltI (a := 2048) (b := n) (by omega) (by omega)).mpr q)
          refine exf_go 3 (show ∃ a_, K0 a_ = 20 ∧ rD h a_ = false ∧ ¬ (2048 : Int32) < 0 ∧ (L0 a_ = 0 ∨ L0 a_ = (2048 : Int32).toNatClampNeg) ∧ (2048 : Int32).toNatClampNeg ≤ 1000000 ∧ Go d true 182 50 [.ref 72, .int (nI n)] [.ref a_] (nwH h a_ 2048) Q from ⟨99, rfl, wf.1, by decide, by decide, by decide, ?_⟩)
          show Go d true 182 50 [.ref 72, .int (nI n)] [.ref 99] (nwH h 99 2048) Q
          refine exf_go 1 (show Q (.ref 99) (nwH h 99 2048) from ?_)
          exact k1 _ (by omega) (by omega) (by omega)
      · skip
        have c3 : ¬ 256 < n := fun q => c3 ((nI_ltI (a := 256) (b := n) (by omega) (by omega)).mpr q)
        refine exf_go 2 (show ∃ a_, K0 a_ = 20 ∧ rD h a_ = false ∧ ¬ (256 : Int32) < 0 ∧ (L0 a_ = 0 ∨ L0 a_ = (256 : Int32).toNatClampNeg) ∧ (256 : Int32).toNatClampNeg ≤ 1000000 ∧ Go d true 182 31 [.ref 72, .int (nI n)] [.ref a_] (nwH h a_ 256) Q from ⟨99, rfl, wf.1, by decide, by decide, by decide, ?_⟩)
        show Go d true 182 31 [.ref 72, .int (nI n)] [.ref 99] (nwH h 99 256) Q
        refine exf_go 1 (show Q (.ref 99) (nwH h 99 256) from ?_)
        exact k1 _ (by omega) (by omega) (by omega)
    · skip
      have c2 : ¬ 16 < n := fun q => c2 ((nI_ltI (a := 16) (b := n) (by omega) (by omega)).mpr q)
      refine exf_go 2 (show ∃ a_, K0 a_ = 20 ∧ rD h a_ = false ∧ ¬ (16 : Int32) < 0 ∧ (L0 a_ = 0 ∨ L0 a_ = (16 : Int32).toNatClampNeg) ∧ (16 : Int32).toNatClampNeg ≤ 1000000 ∧ Go d true 182 18 [.ref 72, .int (nI n)] [.ref a_] (nwH h a_ 16) Q from ⟨99, rfl, wf.1, by decide, by decide, by decide, ?_⟩)
      show Go d true 182 18 [.ref 72, .int (nI n)] [.ref 99] (nwH h 99 16) Q
      refine exf_go 1 (show Q (.ref 99) (nwH h 99 16) from ?_)
      exact k1 _ (by omega) (by omega) (by omega)
  · skip
    have c1 : ¬ (rL h 72) < n := fun q => c1 ((nI_ltI (a := (rL h 72)) (b := n) (by omega) (by omega)).mpr q)
    refine exf_go 2 (show Q (.ref 72) h from ?_)
    exact k0 (by omega)
theorem c_room40 {d : Nat} {h : Hp} {n : Nat} {Q : Po} (wf : WF h) (hn : n ≤ 10000) (k0 : n ≤ rL h 40 → Q (.ref 40) h) (k1 : ∀ m, (m = 16 ∨ m = 256 ∨ m = 2048 ∨ m = 10000) → n ≤ m → rL h 40 < m → Q (.ref 99) (nwH h 99 m)) : wpC (d + 1) true 182 [.ref 40, .int (nI n)] h Q := by
  have hz := wf.2.1 40
  refine go_in rfl ?_
  refine exf_go 3 (show Go d true 182 3 [.ref 40, .int (nI n)] [.int (nI (al h 40)), .int (nI n)] h Q from ?_)
  rw [show (nI (al h 40) : Int32) = nI (rL h 40) from rfl]
  refine exf_go 1 (show ((nI (rL h 40)) < (nI n) → Go d true 182 8 [.ref 40, .int (nI n)] [] h Q) ∧ (¬ ((nI (rL h 40)) < (nI n)) → Go d true 182 6 [.ref 40, .int (nI n)] [] h Q) from ⟨fun c1 => ?_, fun c1 => ?_⟩)
  · skip
    have c1 : (rL h 40) < n := (nI_ltI (a := (rL h 40)) (b := n) (by omega) (by omega)).mp c1
    refine exf_go 3 (show (16 < (nI n) → Go d true 182 19 [.ref 40, .int (nI n)] [] h Q) ∧ (¬ (16 < (nI n)) → Go d true 182 14 [.ref 40, .int (nI n)] [] h Q) from ⟨fun c2 => ?_, fun c2 => ?_⟩)
    · skip
      have c2 : 16 < n := (nI_ltI (a := 16) (b := n) (by omega) (by omega)).mp c2
      refine exf_go 3 (show (256 < (nI n) → Go d true 182 32 [.ref 40, .int (nI n)] [] h Q) ∧ (¬ (256 < (nI n)) → Go d true 182 26 [.ref 40, .int (nI n)] [] h Q) from ⟨fun c3 => ?_, fun c3 => ?_⟩)
      · skip
        have c3 : 256 < n := (nI_ltI (a := 256) (b := n) (by omega) (by omega)).mp c3
        refine exf_go 3 (show (2048 < (nI n) → Go d true 182 45 [.ref 40, .int (nI n)] [] h Q) ∧ (¬ (2048 < (nI n)) → Go d true 182 39 [.ref 40, .int (nI n)] [] h Q) from ⟨fun c4 => ?_, fun c4 => ?_⟩)
        · skip
          have c4 : 2048 < n := (nI_ltI (a := 2048) (b := n) (by omega) (by omega)).mp c4
          refine exf_go 2 (show ∃ a_, K0 a_ = 20 ∧ rD h a_ = false ∧ ¬ (10000 : Int32) < 0 ∧ (L0 a_ = 0 ∨ L0 a_ = (10000 : Int32).toNatClampNeg) ∧ (10000 : Int32).toNatClampNeg ≤ 1000000 ∧ Go d true 182 50 [.ref 40, .int (nI n)] [.ref a_] (nwH h a_ 10000) Q from ⟨99, rfl, wf.1, by decide, by decide, by decide, ?_⟩)
          show Go d true 182 50 [.ref 40, .int (nI n)] [.ref 99] (nwH h 99 10000) Q
          refine exf_go 1 (show Q (.ref 99) (nwH h 99 10000) from ?_)
          exact k1 _ (by omega) (by omega) (by omega)
        · skip
          have c4 : ¬ 2048 < n := fun q => c4 ((nI_ltI (a := 2048) (b := n) (by omega) (by omega)).mpr q)
          refine exf_go 3 (show ∃ a_, K0 a_ = 20 ∧ rD h a_ = false ∧ ¬ (2048 : Int32) < 0 ∧ (L0 a_ = 0 ∨ L0 a_ = (2048 : Int32).toNatClampNeg) ∧ (2048 : Int32).toNatClampNeg ≤ 1000000 ∧ Go d true 182 50 [.ref 40, .int (nI n)] [.ref a_] (nwH h a_ 2048) Q from ⟨99, rfl, wf.1, by decide, by decide, by decide, ?_⟩)
          show Go d true 182 50 [.ref 40, .int (nI n)] [.ref 99] (nwH h 99 2048) Q
          refine exf_go 1 (show Q (.ref 99) (nwH h 99 2048) from ?_)
          exact k1 _ (by omega) (by omega) (by omega)
      · skip
        have c3 : ¬ 256 < n := fun q => c3 ((nI_ltI (a := 256) (b := n) (by omega) (by omega)).mpr q)
        refine exf_go 2 (show ∃ a_, K0 a_ = 20 ∧ rD h a_ = false ∧ ¬ (256 : Int32) < 0 ∧ (L0 a_ = 0 ∨ L0 a_ = (256 : Int32).toNatClampNeg) ∧ (256 : Int32).toNatClampNeg ≤ 1000000 ∧ Go d true 182 31 [.ref 40, .int (nI n)] [.ref a_] (nwH h a_ 256) Q from ⟨99, rfl, wf.1, by decide, by decide, by decide, ?_⟩)
        show Go d true 182 31 [.ref 40, .int (nI n)] [.ref 99] (nwH h 99 256) Q
        refine exf_go 1 (show Q (.ref 99) (nwH h 99 256) from ?_)
        exact k1 _ (by omega) (by omega) (by omega)
    · skip
      have c2 : ¬ 16 < n := fun q => c2 ((nI_ltI (a := 16) (b := n) (by omega) (by omega)).mpr q)
      refine exf_go 2 (show ∃ a_, K0 a_ = 20 ∧ rD h a_ = false ∧ ¬ (16 : Int32) < 0 ∧ (L0 a_ = 0 ∨ L0 a_ = (16 : Int32).toNatClampNeg) ∧ (16 : Int32).toNatClampNeg ≤ 1000000 ∧ Go d true 182 18 [.ref 40, .int (nI n)] [.ref a_] (nwH h a_ 16) Q from ⟨99, rfl, wf.1, by decide, by decide, by decide, ?_⟩)
      show Go d true 182 18 [.ref 40, .int (nI n)] [.ref 99] (nwH h 99 16) Q
      refine exf_go 1 (show Q (.ref 99) (nwH h 99 16) from ?_)
      exact k1 _ (by omega) (by omega) (by omega)
  · skip
    have c1 : ¬ (rL h 40) < n := fun q => c1 ((nI_ltI (a := (rL h 40)) (b := n) (by omega) (by omega)).mpr q)
    refine exf_go 2 (show Q (.ref 40) h from ?_)
    exact k0 (by omega)
theorem c_room98 {d : Nat} {h : Hp} {n : Nat} {Q : Po} (wf : WF h) (hn : n ≤ 10000) (k0 : n ≤ rL h 98 → Q (.ref 98) h) (k1 : ∀ m, (m = 16 ∨ m = 256 ∨ m = 2048 ∨ m = 10000) → n ≤ m → rL h 98 < m → Q (.ref 99) (nwH h 99 m)) : wpC (d + 1) true 182 [.ref 98, .int (nI n)] h Q := by
  have hz := wf.2.1 98
  refine go_in rfl ?_
  refine exf_go 3 (show Go d true 182 3 [.ref 98, .int (nI n)] [.int (nI (al h 98)), .int (nI n)] h Q from ?_)
  rw [show (nI (al h 98) : Int32) = nI (rL h 98) from rfl]
  refine exf_go 1 (show ((nI (rL h 98)) < (nI n) → Go d true 182 8 [.ref 98, .int (nI n)] [] h Q) ∧ (¬ ((nI (rL h 98)) < (nI n)) → Go d true 182 6 [.ref 98, .int (nI n)] [] h Q) from ⟨fun c1 => ?_, fun c1 => ?_⟩)
  · skip
    have c1 : (rL h 98) < n := (nI_ltI (a := (rL h 98)) (b := n) (by omega) (by omega)).mp c1
    refine exf_go 3 (show (16 < (nI n) → Go d true 182 19 [.ref 98, .int (nI n)] [] h Q) ∧ (¬ (16 < (nI n)) → Go d true 182 14 [.ref 98, .int (nI n)] [] h Q) from ⟨fun c2 => ?_, fun c2 => ?_⟩)
    · skip
      have c2 : 16 < n := (nI_ltI (a := 16) (b := n) (by omega) (by omega)).mp c2
      refine exf_go 3 (show (256 < (nI n) → Go d true 182 32 [.ref 98, .int (nI n)] [] h Q) ∧ (¬ (256 < (nI n)) → Go d true 182 26 [.ref 98, .int (nI n)] [] h Q) from ⟨fun c3 => ?_, fun c3 => ?_⟩)
      · skip
        have c3 : 256 < n := (nI_ltI (a := 256) (b := n) (by omega) (by omega)).mp c3
        refine exf_go 3 (show (2048 < (nI n) → Go d true 182 45 [.ref 98, .int (nI n)] [] h Q) ∧ (¬ (2048 < (nI n)) → Go d true 182 39 [.ref 98, .int (nI n)] [] h Q) from ⟨fun c4 => ?_, fun c4 => ?_⟩)
        · skip
          have c4 : 2048 < n := (nI_ltI (a := 2048) (b := n) (by omega) (by omega)).mp c4
          refine exf_go 2 (show ∃ a_, K0 a_ = 20 ∧ rD h a_ = false ∧ ¬ (10000 : Int32) < 0 ∧ (L0 a_ = 0 ∨ L0 a_ = (10000 : Int32).toNatClampNeg) ∧ (10000 : Int32).toNatClampNeg ≤ 1000000 ∧ Go d true 182 50 [.ref 98, .int (nI n)] [.ref a_] (nwH h a_ 10000) Q from ⟨99, rfl, wf.1, by decide, by decide, by decide, ?_⟩)
          show Go d true 182 50 [.ref 98, .int (nI n)] [.ref 99] (nwH h 99 10000) Q
          refine exf_go 1 (show Q (.ref 99) (nwH h 99 10000) from ?_)
          exact k1 _ (by omega) (by omega) (by omega)
        · skip
          have c4 : ¬ 2048 < n := fun q => c4 ((nI_ltI (a := 2048) (b := n) (by omega) (by omega)).mpr q)
          refine exf_go 3 (show ∃ a_, K0 a_ = 20 ∧ rD h a_ = false ∧ ¬ (2048 : Int32) < 0 ∧ (L0 a_ = 0 ∨ L0 a_ = (2048 : Int32).toNatClampNeg) ∧ (2048 : Int32).toNatClampNeg ≤ 1000000 ∧ Go d true 182 50 [.ref 98, .int (nI n)] [.ref a_] (nwH h a_ 2048) Q from ⟨99, rfl, wf.1, by decide, by decide, by decide, ?_⟩)
          show Go d true 182 50 [.ref 98, .int (nI n)] [.ref 99] (nwH h 99 2048) Q
          refine exf_go 1 (show Q (.ref 99) (nwH h 99 2048) from ?_)
          exact k1 _ (by omega) (by omega) (by omega)
      · skip
        have c3 : ¬ 256 < n := fun q => c3 ((nI_ltI (a := 256) (b := n) (by omega) (by omega)).mpr q)
        refine exf_go 2 (show ∃ a_, K0 a_ = 20 ∧ rD h a_ = false ∧ ¬ (256 : Int32) < 0 ∧ (L0 a_ = 0 ∨ L0 a_ = (256 : Int32).toNatClampNeg) ∧ (256 : Int32).toNatClampNeg ≤ 1000000 ∧ Go d true 182 31 [.ref 98, .int (nI n)] [.ref a_] (nwH h a_ 256) Q from ⟨99, rfl, wf.1, by decide, by decide, by decide, ?_⟩)
        show Go d true 182 31 [.ref 98, .int (nI n)] [.ref 99] (nwH h 99 256) Q
        refine exf_go 1 (show Q (.ref 99) (nwH h 99 256) from ?_)
        exact k1 _ (by omega) (by omega) (by omega)
    · skip
      have c2 : ¬ 16 < n := fun q => c2 ((nI_ltI (a := 16) (b := n) (by omega) (by omega)).mpr q)
      refine exf_go 2 (show ∃ a_, K0 a_ = 20 ∧ rD h a_ = false ∧ ¬ (16 : Int32) < 0 ∧ (L0 a_ = 0 ∨ L0 a_ = (16 : Int32).toNatClampNeg) ∧ (16 : Int32).toNatClampNeg ≤ 1000000 ∧ Go d true 182 18 [.ref 98, .int (nI n)] [.ref a_] (nwH h a_ 16) Q from ⟨99, rfl, wf.1, by decide, by decide, by decide, ?_⟩)
      show Go d true 182 18 [.ref 98, .int (nI n)] [.ref 99] (nwH h 99 16) Q
      refine exf_go 1 (show Q (.ref 99) (nwH h 99 16) from ?_)
      exact k1 _ (by omega) (by omega) (by omega)
  · skip
    have c1 : ¬ (rL h 98) < n := fun q => c1 ((nI_ltI (a := (rL h 98)) (b := n) (by omega) (by omega)).mpr q)
    refine exf_go 2 (show Q (.ref 98) h from ?_)
    exact k0 (by omega)
