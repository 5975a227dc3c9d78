/-! The model's way through all numbers. -/
theorem aft_div {g : ShG} (h : ShW g) {w : Nat} (hw : w < 4) : aft g w / sF g w = aft g (w + 1) := by
  have := sF_b h w
  rw [aft_s g hw, Nat.mul_div_cancel_left _ (by omega)]
theorem dig_at {g : ShG} {k w : Nat} (hw : w < 4) : k % aft g w / aft g (w + 1) = fgo g k w := by
  rw [aft_s g hw, Nat.mod_mul_left_div_self]
  rfl
theorem dig_rest {g : ShG} {k w : Nat} (hw : w < 4) : k % aft g w % aft g (w + 1) = k % aft g (w + 1) := by
  rw [aft_s g hw]
  exact Nat.mod_mod_of_dvd k (Nat.dvd_mul_left _ _)
theorem m_throughOf {d : Nat} {h : Hp} {g : ShG} {l : LkG} {k0 : Nat} {Q : Po} (ms : MS g l h) (hk0 : k0 < tot g) (k : Q (.int (nI (thr g k0 (sW g)))) h) : wpC (d + 1) true 266 [.ref 130, .int (nI k0)] h Q := by
  have hN := tot_b ms.1.1
  have h4 := ms.1.1.1
  have h8 := ms.1.1.2.2.2.1
  have he := evr_b ms.1.1
  have hev : evr g = 2 ^ sC g - 1 := rfl
  refine go_in rfl ?_
  refine exf_go 6 (show vp_in 4 41523 ∧ (Go d true 266 8 [.ref 130, .int (nI k0), .int 0, mk_, mk_, mk_, mk_, mk_] [.int (rI h 131 4)] h Q) from ⟨(vp_in_nI (n := 4) (by decide) (by decide)), ?_⟩)
  rw [show (rI h 131 4 : Int32) = nI (tot g) from ms_N ms]
  refine exf_go 7 (show Go d true 266 18 [.ref 130, .int (nI k0), .int 0, .int (nI (tot g)), .int (nI k0), .int 0, .int 0, mk_] [] h Q from ?_)
  have L18 : ∀ (k18 : Nat) (z7 : Value) (w m a b s : Nat), (4 - w) < k18 → (w ≤ sW g) → (m = thr g k0 w) → (a = aft g w) → (b = k0 % aft g w) → (s = swp g k0 w) → Go d true 266 18 [.ref 130, .int (nI k0), .int (nI m), .int (nI a), .int (nI b), .int (nI s), .int (nI w), z7] [] h Q := by
    intro k18
    induction k18 with
    | zero => intro z7 w m a b s hk; exact absurd hk (Nat.not_lt_zero _)
    | succ k18 ih18 =>
      intro z7 w m a b s hk hw hm ha hb hs
      have l1 := swp_lt ms.1.1 k0 w; have l2 := bef_4 ms.1.1 (w := w) (by omega); have l3 := thr_lt ms.1.1 k0 w; have l4 := aft_b ms.1.1 (w := w) (by omega); have l5 : k0 % aft g w < aft g w := Nat.mod_lt _ (by omega); have l7 := sF_b ms.1.1 w
      refine exf_go 5 (show vp_in 1 41523 ∧ (Go d true 266 26 [.ref 130, .int (nI k0), .int (nI m), .int (nI a), .int (nI b), .int (nI s), .int (nI w), z7] [.int (rI h 131 1), .int (nI w)] h Q) from ⟨(vp_in_nI (n := 1) (by decide) (by decide)), ?_⟩)
      rw [show (rI h 131 1 : Int32) = nI (sW g) from ms_W ms]
      refine exf_go 1 (show ((nI (sW g)) ≤ (nI w) → Go d true 266 120 [.ref 130, .int (nI k0), .int (nI m), .int (nI a), .int (nI b), .int (nI s), .int (nI w), z7] [] h Q) ∧ (¬ ((nI (sW g)) ≤ (nI w)) → Go d true 266 29 [.ref 130, .int (nI k0), .int (nI m), .int (nI a), .int (nI b), .int (nI s), .int (nI w), z7] [] h Q) from ⟨fun c1 => ?_, fun c1 => ?_⟩)
      · skip
        have c1 : (sW g) ≤ w := (nI_leI (a := (sW g)) (b := w) (by omega) (by omega)).mp c1
        refine exf_go 2 (show Q (.int (nI m)) h from ?_)
        rw [hm, show w = sW g from by omega]; exact k
      · skip
        have c1 : ¬ (sW g) ≤ w := fun q => c1 ((nI_leI (a := (sW g)) (b := w) (by omega) (by omega)).mpr q)
        refine exf_go 6 (show Go d true 266 39 [.ref 130, .int (nI k0), .int (nI m), .int (nI a), .int (nI b), .int (nI s), .int (nI w), z7] [.int (10 + (nI w)), .ref 131, .int (nI a)] h Q from ?_)
        rw [show (10 + (nI w) : Int32) = nI (10 + w) from nI_add 10 w]
        refine exf_go 1 (show vp_in (nI (10 + w)) 41523 ∧ (Go d true 266 40 [.ref 130, .int (nI k0), .int (nI m), .int (nI a), .int (nI b), .int (nI s), .int (nI w), z7] [.int (rI h 131 ((nI (10 + w)).toNatClampNeg)), .int (nI a)] h Q) from ⟨(vp_in_nI (by omega) (by omega)), ?_⟩)
        rw [show (rI h 131 ((nI (10 + w)).toNatClampNeg) : Int32) = nI (sF g w) from ms_F ms (n := w) (by omega)]
        have := sF_b ms.1.1 w
        refine exf_go 1 (show ¬ (nI (sF g w)) = 0 ∧ (Go d true 266 41 [.ref 130, .int (nI k0), .int (nI m), .int (nI a), .int (nI b), .int (nI s), .int (nI w), z7] [.int ((nI a) / (nI (sF g w)))] h Q) from ⟨(nI_ne0 (n := (sF g w)) (by omega) (by omega)), ?_⟩)
        rw [show ((nI a) / (nI (sF g w)) : Int32) = nI (aft g (w + 1)) from by rw [pk_div (a := a) (d := sF g w) (by omega) (by omega) (by omega), ha, aft_div ms.1.1 (by omega)]]
        have l6 := aft_b ms.1.1 (w := w + 1) (by omega)
        refine exf_go 4 (show ¬ (nI (aft g (w + 1))) = 0 ∧ (Go d true 266 46 [.ref 130, .int (nI k0), .int (nI m), .int (nI (aft g (w + 1))), .int (nI b), .int (nI s), .int (nI w), z7] [.int ((nI b) / (nI (aft g (w + 1))))] h Q) from ⟨(nI_ne0 (n := (aft g (w + 1))) (by omega) (by omega)), ?_⟩)
        rw [show ((nI b) / (nI (aft g (w + 1))) : Int32) = nI (fgo g k0 w) from by rw [pk_div (a := b) (d := aft g (w + 1)) (by omega) (by omega) (by omega), hb, dig_at (by omega)]]
        have l8 := fgo_lt ms.1.1 k0 w
        refine exf_go 4 (show ¬ (nI (aft g (w + 1))) = 0 ∧ (Go d true 266 52 [.ref 130, .int (nI k0), .int (nI m), .int (nI (aft g (w + 1))), .int (nI b), .int (nI s), .int (nI w), .int (nI (fgo g k0 w))] [.int ((nI b) - (nI b) / (nI (aft g (w + 1))) * (nI (aft g (w + 1))))] h Q) from ⟨(nI_ne0 (n := (aft g (w + 1))) (by omega) (by omega)), ?_⟩)
        rw [show ((nI b) - (nI b) / (nI (aft g (w + 1))) * (nI (aft g (w + 1))) : Int32) = nI (b % (aft g (w + 1))) from pk_rem (a := b) (d := (aft g (w + 1))) (by omega) (by omega) (by omega)]
        refine exf_go 7 (show Go d true 266 64 [.ref 130, .int (nI k0), .int (nI m), .int (nI (aft g (w + 1))), .int (nI (b % (aft g (w + 1)))), .int (nI s), .int (nI w), .int (nI (fgo g k0 w))] [.int (10 + (nI w)), .ref 131, .int (nI m)] h Q from ?_)
        rw [show (10 + (nI w) : Int32) = nI (10 + w) from nI_add 10 w]
        refine exf_go 1 (show vp_in (nI (10 + w)) 41523 ∧ (Go d true 266 65 [.ref 130, .int (nI k0), .int (nI m), .int (nI (aft g (w + 1))), .int (nI (b % (aft g (w + 1)))), .int (nI s), .int (nI w), .int (nI (fgo g k0 w))] [.int (rI h 131 ((nI (10 + w)).toNatClampNeg)), .int (nI m)] h Q) from ⟨(vp_in_nI (by omega) (by omega)), ?_⟩)
        rw [show (rI h 131 ((nI (10 + w)).toNatClampNeg) : Int32) = nI (sF g w) from ms_F ms (n := w) (by omega)]
        have := sF_b ms.1.1 w
        refine exf_go 1 (show Go d true 266 66 [.ref 130, .int (nI k0), .int (nI m), .int (nI (aft g (w + 1))), .int (nI (b % (aft g (w + 1)))), .int (nI s), .int (nI w), .int (nI (fgo g k0 w))] [.int ((nI m) * (nI (sF g w)))] h Q from ?_)
        rw [show ((nI m) * (nI (sF g w)) : Int32) = nI (m * (sF g w)) from pk_mul m (sF g w)]
        refine exf_go 3 (show ¬ 2 = 0 ∧ (Go d true 266 70 [.ref 130, .int (nI k0), .int (nI m), .int (nI (aft g (w + 1))), .int (nI (b % (aft g (w + 1)))), .int (nI s), .int (nI w), .int (nI (fgo g k0 w))] [.int ((nI s) - (nI s) / 2 * 2), .int (nI (m * (sF g w)))] h Q) from ⟨(by decide), ?_⟩)
        rw [show ((nI s) - (nI s) / 2 * 2 : Int32) = nI (s % 2) from pk_rem (a := s) (d := 2) (by omega) (by omega) (by omega)]
        refine exf_go 2 (show (¬ (nI (s % 2)) = 1 → Go d true 266 92 [.ref 130, .int (nI k0), .int (nI m), .int (nI (aft g (w + 1))), .int (nI (b % (aft g (w + 1)))), .int (nI s), .int (nI w), .int (nI (fgo g k0 w))] [.int (nI (m * (sF g w)))] h Q) ∧ (¬ (¬ (nI (s % 2)) = 1) → Go d true 266 74 [.ref 130, .int (nI k0), .int (nI m), .int (nI (aft g (w + 1))), .int (nI (b % (aft g (w + 1)))), .int (nI s), .int (nI w), .int (nI (fgo g k0 w))] [.int (nI (m * (sF g w)))] h Q) from ⟨fun c2 => ?_, fun c2 => ?_⟩)
        · skip
          have c2 : ¬ (s % 2) = 1 := fun q => c2 ((nI_eq (a := (s % 2)) (b := 1) (by omega) (by omega)).mpr q)
          refine exf_go 2 (show Go d true 266 95 [.ref 130, .int (nI k0), .int (nI m), .int (nI (aft g (w + 1))), .int (nI (b % (aft g (w + 1)))), .int (nI s), .int (nI w), .int (nI (fgo g k0 w))] [.int ((nI (m * (sF g w))) + (nI (fgo g k0 w)))] h Q from ?_)
          rw [show ((nI (m * (sF g w))) + (nI (fgo g k0 w)) : Int32) = nI ((m * (sF g w)) + (fgo g k0 w)) from nI_add (m * (sF g w)) (fgo g k0 w)]
          refine exf_go 7 (show Go d true 266 107 [.ref 130, .int (nI k0), .int (nI ((m * (sF g w)) + (fgo g k0 w))), .int (nI (aft g (w + 1))), .int (nI (b % (aft g (w + 1)))), .int (nI s), .int (nI w), .int (nI (fgo g k0 w))] [.int (10 + (nI w)), .ref 131, .int (nI s)] h Q from ?_)
          rw [show (10 + (nI w) : Int32) = nI (10 + w) from nI_add 10 w]
          refine exf_go 1 (show vp_in (nI (10 + w)) 41523 ∧ (Go d true 266 108 [.ref 130, .int (nI k0), .int (nI ((m * (sF g w)) + (fgo g k0 w))), .int (nI (aft g (w + 1))), .int (nI (b % (aft g (w + 1)))), .int (nI s), .int (nI w), .int (nI (fgo g k0 w))] [.int (rI h 131 ((nI (10 + w)).toNatClampNeg)), .int (nI s)] h Q) from ⟨(vp_in_nI (by omega) (by omega)), ?_⟩)
          rw [show (rI h 131 ((nI (10 + w)).toNatClampNeg) : Int32) = nI (sF g w) from ms_F ms (n := w) (by omega)]
          have := sF_b ms.1.1 w
          refine exf_go 1 (show Go d true 266 109 [.ref 130, .int (nI k0), .int (nI ((m * (sF g w)) + (fgo g k0 w))), .int (nI (aft g (w + 1))), .int (nI (b % (aft g (w + 1)))), .int (nI s), .int (nI w), .int (nI (fgo g k0 w))] [.int ((nI s) * (nI (sF g w)))] h Q from ?_)
          rw [show ((nI s) * (nI (sF g w)) : Int32) = nI (s * (sF g w)) from pk_mul s (sF g w)]
          refine exf_go 2 (show Go d true 266 112 [.ref 130, .int (nI k0), .int (nI ((m * (sF g w)) + (fgo g k0 w))), .int (nI (aft g (w + 1))), .int (nI (b % (aft g (w + 1)))), .int (nI s), .int (nI w), .int (nI (fgo g k0 w))] [.int ((nI (s * (sF g w))) + (nI (fgo g k0 w)))] h Q from ?_)
          rw [show ((nI (s * (sF g w))) + (nI (fgo g k0 w)) : Int32) = nI ((s * (sF g w)) + (fgo g k0 w)) from nI_add (s * (sF g w)) (fgo g k0 w)]
          refine exf_go 2 (show Go d true 266 117 [.ref 130, .int (nI k0), .int (nI ((m * (sF g w)) + (fgo g k0 w))), .int (nI (aft g (w + 1))), .int (nI (b % (aft g (w + 1)))), .int (nI ((s * (sF g w)) + (fgo g k0 w))), .int ((nI w) + 1), .int (nI (fgo g k0 w))] [] h Q from ?_)
          rw [show ((nI w) + 1 : Int32) = nI (w + 1) from nI_add w 1]
          refine exf_go 1 (show Go d true 266 18 [.ref 130, .int (nI k0), .int (nI ((m * (sF g w)) + (fgo g k0 w))), .int (nI (aft g (w + 1))), .int (nI (b % (aft g (w + 1)))), .int (nI ((s * (sF g w)) + (fgo g k0 w))), .int (nI (w + 1)), .int (nI (fgo g k0 w))] [] h Q from ?_)
          exact ih18 (.int (nI (fgo g k0 w))) (w + 1) ((m * (sF g w)) + (fgo g k0 w)) (aft g (w + 1)) (b % (aft g (w + 1))) ((s * (sF g w)) + (fgo g k0 w)) (by omega) (by omega) (by rw [hm, thr, tur]; first | rw [if_pos (by rw [← hs]; assumption)] | rw [if_neg (by rw [← hs]; assumption)]) rfl (by rw [hb, dig_rest (by omega)]) (by rw [hs, swp])
        · skip
          have c2 : (s % 2) = 1 := (nI_eq (a := (s % 2)) (b := 1) (by omega) (by omega)).mp (Classical.not_not.mp c2)
          refine exf_go 5 (show Go d true 266 83 [.ref 130, .int (nI k0), .int (nI m), .int (nI (aft g (w + 1))), .int (nI (b % (aft g (w + 1)))), .int (nI s), .int (nI w), .int (nI (fgo g k0 w))] [.int (10 + (nI w)), .ref 131, .int (nI (m * (sF g w)))] h Q from ?_)
          rw [show (10 + (nI w) : Int32) = nI (10 + w) from nI_add 10 w]
          refine exf_go 1 (show vp_in (nI (10 + w)) 41523 ∧ (Go d true 266 84 [.ref 130, .int (nI k0), .int (nI m), .int (nI (aft g (w + 1))), .int (nI (b % (aft g (w + 1)))), .int (nI s), .int (nI w), .int (nI (fgo g k0 w))] [.int (rI h 131 ((nI (10 + w)).toNatClampNeg)), .int (nI (m * (sF g w)))] h Q) from ⟨(vp_in_nI (by omega) (by omega)), ?_⟩)
          rw [show (rI h 131 ((nI (10 + w)).toNatClampNeg) : Int32) = nI (sF g w) from ms_F ms (n := w) (by omega)]
          have := sF_b ms.1.1 w
          refine exf_go 2 (show Go d true 266 86 [.ref 130, .int (nI k0), .int (nI m), .int (nI (aft g (w + 1))), .int (nI (b % (aft g (w + 1)))), .int (nI s), .int (nI w), .int (nI (fgo g k0 w))] [.int ((nI (sF g w)) - 1), .int (nI (m * (sF g w)))] h Q from ?_)
          rw [show ((nI (sF g w)) - 1 : Int32) = nI ((sF g w) - 1) from pk_sub (a := (sF g w)) (b := 1) (by omega)]
          refine exf_go 2 (show Go d true 266 89 [.ref 130, .int (nI k0), .int (nI m), .int (nI (aft g (w + 1))), .int (nI (b % (aft g (w + 1)))), .int (nI s), .int (nI w), .int (nI (fgo g k0 w))] [.int ((nI ((sF g w) - 1)) - (nI (fgo g k0 w))), .int (nI (m * (sF g w)))] h Q from ?_)
          rw [show ((nI ((sF g w) - 1)) - (nI (fgo g k0 w)) : Int32) = nI (((sF g w) - 1) - (fgo g k0 w)) from pk_sub (a := ((sF g w) - 1)) (b := (fgo g k0 w)) (by omega)]
          refine exf_go 2 (show Go d true 266 95 [.ref 130, .int (nI k0), .int (nI m), .int (nI (aft g (w + 1))), .int (nI (b % (aft g (w + 1)))), .int (nI s), .int (nI w), .int (nI (fgo g k0 w))] [.int ((nI (m * (sF g w))) + (nI (((sF g w) - 1) - (fgo g k0 w))))] h Q from ?_)
          rw [show ((nI (m * (sF g w))) + (nI (((sF g w) - 1) - (fgo g k0 w))) : Int32) = nI ((m * (sF g w)) + (((sF g w) - 1) - (fgo g k0 w))) from nI_add (m * (sF g w)) (((sF g w) - 1) - (fgo g k0 w))]
          refine exf_go 7 (show Go d true 266 107 [.ref 130, .int (nI k0), .int (nI ((m * (sF g w)) + (((sF g w) - 1) - (fgo g k0 w)))), .int (nI (aft g (w + 1))), .int (nI (b % (aft g (w + 1)))), .int (nI s), .int (nI w), .int (nI (fgo g k0 w))] [.int (10 + (nI w)), .ref 131, .int (nI s)] h Q from ?_)
          rw [show (10 + (nI w) : Int32) = nI (10 + w) from nI_add 10 w]
          refine exf_go 1 (show vp_in (nI (10 + w)) 41523 ∧ (Go d true 266 108 [.ref 130, .int (nI k0), .int (nI ((m * (sF g w)) + (((sF g w) - 1) - (fgo g k0 w)))), .int (nI (aft g (w + 1))), .int (nI (b % (aft g (w + 1)))), .int (nI s), .int (nI w), .int (nI (fgo g k0 w))] [.int (rI h 131 ((nI (10 + w)).toNatClampNeg)), .int (nI s)] h Q) from ⟨(vp_in_nI (by omega) (by omega)), ?_⟩)
          rw [show (rI h 131 ((nI (10 + w)).toNatClampNeg) : Int32) = nI (sF g w) from ms_F ms (n := w) (by omega)]
          have := sF_b ms.1.1 w
          refine exf_go 1 (show Go d true 266 109 [.ref 130, .int (nI k0), .int (nI ((m * (sF g w)) + (((sF g w) - 1) - (fgo g k0 w)))), .int (nI (aft g (w + 1))), .int (nI (b % (aft g (w + 1)))), .int (nI s), .int (nI w), .int (nI (fgo g k0 w))] [.int ((nI s) * (nI (sF g w)))] h Q from ?_)
          rw [show ((nI s) * (nI (sF g w)) : Int32) = nI (s * (sF g w)) from pk_mul s (sF g w)]
          refine exf_go 2 (show Go d true 266 112 [.ref 130, .int (nI k0), .int (nI ((m * (sF g w)) + (((sF g w) - 1) - (fgo g k0 w)))), .int (nI (aft g (w + 1))), .int (nI (b % (aft g (w + 1)))), .int (nI s), .int (nI w), .int (nI (fgo g k0 w))] [.int ((nI (s * (sF g w))) + (nI (fgo g k0 w)))] h Q from ?_)
          rw [show ((nI (s * (sF g w))) + (nI (fgo g k0 w)) : Int32) = nI ((s * (sF g w)) + (fgo g k0 w)) from nI_add (s * (sF g w)) (fgo g k0 w)]
          refine exf_go 2 (show Go d true 266 117 [.ref 130, .int (nI k0), .int (nI ((m * (sF g w)) + (((sF g w) - 1) - (fgo g k0 w)))), .int (nI (aft g (w + 1))), .int (nI (b % (aft g (w + 1)))), .int (nI ((s * (sF g w)) + (fgo g k0 w))), .int ((nI w) + 1), .int (nI (fgo g k0 w))] [] h Q from ?_)
          rw [show ((nI w) + 1 : Int32) = nI (w + 1) from nI_add w 1]
          refine exf_go 1 (show Go d true 266 18 [.ref 130, .int (nI k0), .int (nI ((m * (sF g w)) + (((sF g w) - 1) - (fgo g k0 w)))), .int (nI (aft g (w + 1))), .int (nI (b % (aft g (w + 1)))), .int (nI ((s * (sF g w)) + (fgo g k0 w))), .int (nI (w + 1)), .int (nI (fgo g k0 w))] [] h Q from ?_)
          exact ih18 (.int (nI (fgo g k0 w))) (w + 1) ((m * (sF g w)) + (((sF g w) - 1) - (fgo g k0 w))) (aft g (w + 1)) (b % (aft g (w + 1))) ((s * (sF g w)) + (fgo g k0 w)) (by omega) (by omega) (by rw [hm, thr, tur]; first | rw [if_pos (by rw [← hs]; assumption)] | rw [if_neg (by rw [← hs]; assumption)]) rfl (by rw [hb, dig_rest (by omega)]) (by rw [hs, swp])
  exact L18 (4 + 1) mk_ 0 0 (tot g) k0 0 (by omega) (by omega) rfl rfl (Nat.mod_eq_of_lt hk0).symm rfl
theorem m_alongOf {d : Nat} {h : Hp} {g : ShG} {l : LkG} {k0 : Nat} {Q : Po} (ms : MS g l h) (hk0 : k0 < tot g) (k : Q (.int (nI (alo g k0 (sW g)))) h) : wpC (d + 2) true 268 [.ref 130, .int (nI k0)] h Q := by
  have hN := tot_b ms.1.1
  have h4 := ms.1.1.1
  have h8 := ms.1.1.2.2.2.1
  have he := evr_b ms.1.1
  have hev : evr g = 2 ^ sC g - 1 := rfl
  refine go_in rfl ?_
  refine exf_go 4 (show Go (d + 1) true 268 4 [.ref 130, .int (nI k0), .int 0, .int 0, mk_] [] h Q from ?_)
  have L4 : ∀ (k4 : Nat) (z4 : Value) (w s : Nat), (4 - w) < k4 → (w ≤ sW g) → (s = alo g k0 w) → Go (d + 1) true 268 4 [.ref 130, .int (nI k0), .int (nI s), .int (nI w), z4] [] h Q := by
    intro k4
    induction k4 with
    | zero => intro z4 w s hk; exact absurd hk (Nat.not_lt_zero _)
    | succ k4 ih4 =>
      intro z4 w s hk hw hs
      have l1 := alo_lt ms.1.1 k0 w; have l2 := bef_4 ms.1.1 (w := w) (by omega); have l7 := sF_b ms.1.1 w
      refine exf_go 5 (show vp_in 1 41523 ∧ (Go (d + 1) true 268 11 [.ref 130, .int (nI k0), .int (nI s), .int (nI w), z4] [.int (rI h 131 1), .int (nI w)] h Q) from ⟨(vp_in_nI (n := 1) (by decide) (by decide)), ?_⟩)
      rw [show (rI h 131 1 : Int32) = nI (sW g) from ms_W ms]
      refine exf_go 1 (show ((nI (sW g)) ≤ (nI w) → Go (d + 1) true 268 67 [.ref 130, .int (nI k0), .int (nI s), .int (nI w), z4] [] h Q) ∧ (¬ ((nI (sW g)) ≤ (nI w)) → Go (d + 1) true 268 14 [.ref 130, .int (nI k0), .int (nI s), .int (nI w), z4] [] h Q) from ⟨fun c1 => ?_, fun c1 => ?_⟩)
      · skip
        have c1 : (sW g) ≤ w := (nI_leI (a := (sW g)) (b := w) (by omega) (by omega)).mp c1
        refine exf_go 2 (show Q (.int (nI s)) h from ?_)
        rw [hs, show w = sW g from by omega]; exact k
      · skip
        have c1 : ¬ (sW g) ≤ w := fun q => c1 ((nI_leI (a := (sW g)) (b := w) (by omega) (by omega)).mpr q)
        refine exf_go 4 (show wpC (d + 1) true 220 [.ref 130, .int (nI k0), .int (nI w)] h (fun r h' => Go (d + 1) true 268 20 [.ref 130, .int (nI k0), .int (nI s), .int (nI w), z4] [r] h' Q) from ?_)
        refine m_figureOf ms (by omega) (by omega) ?_
        have := fgo_lt ms.1.1 k0 w; have := sF_b ms.1.1 w
        show Go (d + 1) true 268 20 [.ref 130, .int (nI k0), .int (nI s), .int (nI w), z4] [.int (nI (fgo g k0 w))] h Q
        refine exf_go 7 (show Go (d + 1) true 268 31 [.ref 130, .int (nI k0), .int (nI s), .int (nI w), .int (nI (fgo g k0 w))] [.int (10 + (nI w)), .ref 131, .int (nI s)] h Q from ?_)
        rw [show (10 + (nI w) : Int32) = nI (10 + w) from nI_add 10 w]
        refine exf_go 1 (show vp_in (nI (10 + w)) 41523 ∧ (Go (d + 1) true 268 32 [.ref 130, .int (nI k0), .int (nI s), .int (nI w), .int (nI (fgo g k0 w))] [.int (rI h 131 ((nI (10 + w)).toNatClampNeg)), .int (nI s)] h Q) from ⟨(vp_in_nI (by omega) (by omega)), ?_⟩)
        rw [show (rI h 131 ((nI (10 + w)).toNatClampNeg) : Int32) = nI (sF g w) from ms_F ms (n := w) (by omega)]
        have := sF_b ms.1.1 w
        refine exf_go 1 (show Go (d + 1) true 268 33 [.ref 130, .int (nI k0), .int (nI s), .int (nI w), .int (nI (fgo g k0 w))] [.int ((nI s) * (nI (sF g w)))] h Q from ?_)
        rw [show ((nI s) * (nI (sF g w)) : Int32) = nI (s * (sF g w)) from pk_mul s (sF g w)]
        refine exf_go 3 (show ¬ 2 = 0 ∧ (Go (d + 1) true 268 36 [.ref 130, .int (nI k0), .int (nI s), .int (nI w), .int (nI (fgo g k0 w))] [.int ((nI s) - (nI s) / 2 * 2), .int (nI (s * (sF g w)))] h Q) from ⟨(by decide), ?_⟩)
        rw [show ((nI s) - (nI s) / 2 * 2 : Int32) = nI (s % 2) from pk_rem (a := s) (d := 2) (by omega) (by omega) (by omega)]
        refine exf_go 2 (show (¬ (nI (s % 2)) = 1 → Go (d + 1) true 268 57 [.ref 130, .int (nI k0), .int (nI s), .int (nI w), .int (nI (fgo g k0 w))] [.int (nI (s * (sF g w)))] h Q) ∧ (¬ (¬ (nI (s % 2)) = 1) → Go (d + 1) true 268 40 [.ref 130, .int (nI k0), .int (nI s), .int (nI w), .int (nI (fgo g k0 w))] [.int (nI (s * (sF g w)))] h Q) from ⟨fun c2 => ?_, fun c2 => ?_⟩)
        · skip
          have c2 : ¬ (s % 2) = 1 := fun q => c2 ((nI_eq (a := (s % 2)) (b := 1) (by omega) (by omega)).mpr q)
          refine exf_go 2 (show Go (d + 1) true 268 60 [.ref 130, .int (nI k0), .int (nI s), .int (nI w), .int (nI (fgo g k0 w))] [.int ((nI (s * (sF g w))) + (nI (fgo g k0 w)))] h Q from ?_)
          rw [show ((nI (s * (sF g w))) + (nI (fgo g k0 w)) : Int32) = nI ((s * (sF g w)) + (fgo g k0 w)) from nI_add (s * (sF g w)) (fgo g k0 w)]
          refine exf_go 2 (show Go (d + 1) true 268 64 [.ref 130, .int (nI k0), .int (nI ((s * (sF g w)) + (fgo g k0 w))), .int ((nI w) + 1), .int (nI (fgo g k0 w))] [] h Q from ?_)
          rw [show ((nI w) + 1 : Int32) = nI (w + 1) from nI_add w 1]
          refine exf_go 1 (show Go (d + 1) true 268 4 [.ref 130, .int (nI k0), .int (nI ((s * (sF g w)) + (fgo g k0 w))), .int (nI (w + 1)), .int (nI (fgo g k0 w))] [] h Q from ?_)
          exact ih4 (.int (nI (fgo g k0 w))) (w + 1) ((s * (sF g w)) + (fgo g k0 w)) (by omega) (by omega) (by rw [hs, alo, tur]; first | rw [if_pos (by rw [← hs]; assumption)] | rw [if_neg (by rw [← hs]; assumption)])
        · skip
          have c2 : (s % 2) = 1 := (nI_eq (a := (s % 2)) (b := 1) (by omega) (by omega)).mp (Classical.not_not.mp c2)
          refine exf_go 5 (show Go (d + 1) true 268 48 [.ref 130, .int (nI k0), .int (nI s), .int (nI w), .int (nI (fgo g k0 w))] [.int (10 + (nI w)), .ref 131, .int (nI (s * (sF g w)))] h Q from ?_)
          rw [show (10 + (nI w) : Int32) = nI (10 + w) from nI_add 10 w]
          refine exf_go 1 (show vp_in (nI (10 + w)) 41523 ∧ (Go (d + 1) true 268 49 [.ref 130, .int (nI k0), .int (nI s), .int (nI w), .int (nI (fgo g k0 w))] [.int (rI h 131 ((nI (10 + w)).toNatClampNeg)), .int (nI (s * (sF g w)))] h Q) from ⟨(vp_in_nI (by omega) (by omega)), ?_⟩)
          rw [show (rI h 131 ((nI (10 + w)).toNatClampNeg) : Int32) = nI (sF g w) from ms_F ms (n := w) (by omega)]
          have := sF_b ms.1.1 w
          refine exf_go 2 (show Go (d + 1) true 268 51 [.ref 130, .int (nI k0), .int (nI s), .int (nI w), .int (nI (fgo g k0 w))] [.int ((nI (sF g w)) - 1), .int (nI (s * (sF g w)))] h Q from ?_)
          rw [show ((nI (sF g w)) - 1 : Int32) = nI ((sF g w) - 1) from pk_sub (a := (sF g w)) (b := 1) (by omega)]
          refine exf_go 2 (show Go (d + 1) true 268 54 [.ref 130, .int (nI k0), .int (nI s), .int (nI w), .int (nI (fgo g k0 w))] [.int ((nI ((sF g w) - 1)) - (nI (fgo g k0 w))), .int (nI (s * (sF g w)))] h Q from ?_)
          rw [show ((nI ((sF g w) - 1)) - (nI (fgo g k0 w)) : Int32) = nI (((sF g w) - 1) - (fgo g k0 w)) from pk_sub (a := ((sF g w) - 1)) (b := (fgo g k0 w)) (by omega)]
          refine exf_go 2 (show Go (d + 1) true 268 60 [.ref 130, .int (nI k0), .int (nI s), .int (nI w), .int (nI (fgo g k0 w))] [.int ((nI (s * (sF g w))) + (nI (((sF g w) - 1) - (fgo g k0 w))))] h Q from ?_)
          rw [show ((nI (s * (sF g w))) + (nI (((sF g w) - 1) - (fgo g k0 w))) : Int32) = nI ((s * (sF g w)) + (((sF g w) - 1) - (fgo g k0 w))) from nI_add (s * (sF g w)) (((sF g w) - 1) - (fgo g k0 w))]
          refine exf_go 2 (show Go (d + 1) true 268 64 [.ref 130, .int (nI k0), .int (nI ((s * (sF g w)) + (((sF g w) - 1) - (fgo g k0 w)))), .int ((nI w) + 1), .int (nI (fgo g k0 w))] [] h Q from ?_)
          rw [show ((nI w) + 1 : Int32) = nI (w + 1) from nI_add w 1]
          refine exf_go 1 (show Go (d + 1) true 268 4 [.ref 130, .int (nI k0), .int (nI ((s * (sF g w)) + (((sF g w) - 1) - (fgo g k0 w)))), .int (nI (w + 1)), .int (nI (fgo g k0 w))] [] h Q from ?_)
          exact ih4 (.int (nI (fgo g k0 w))) (w + 1) ((s * (sF g w)) + (((sF g w) - 1) - (fgo g k0 w))) (by omega) (by omega) (by rw [hs, alo, tur]; first | rw [if_pos (by rw [← hs]; assumption)] | rw [if_neg (by rw [← hs]; assumption)])
  exact L4 (4 + 1) mk_ 0 0 (by omega) (by omega) rfl
theorem m_through {d : Nat} {h : Hp} {g : ShG} {l : LkG} {x : Int32} {Q : Po} (ms : MS g l h) (k : ∀ h1, Fq scM h h1 → Q (.int (fThrough g x)) h1) : wpC (d + 3) true 267 [.ref 130, .int x] h Q := by
  have hN := tot_b ms.1.1
  have h4 := ms.1.1.1
  have h8 := ms.1.1.2.2.2.1
  have he := evr_b ms.1.1
  have hev : evr g = 2 ^ sC g - 1 := rfl
  refine go_in rfl ?_
  refine exf_go 7 (show wpC (d + 2) true 218 [.ref 130, .long x.toInt64] (uI h 130 0 0) (fun r h' => Go (d + 2) true 267 11 [.ref 130, .int x] [r] h' Q) from ?_)
  refine m_isNumber (x := x) (ms_fq ms (Fq.uI' Fq.rfl' _ _ _ rfl)) (fun j1 e1 q1 r1 => ?_) (fun e1 => ?_)
  · skip
    subst q1
    show Go (d + 2) true 267 11 [.ref 130, .int (nI j1)] [.int 1] (uI h 130 0 0) Q
    refine exf_go 1 (show ((1 : Int32) = 0 → Go (d + 2) true 267 22 [.ref 130, .int (nI j1)] [] (uI h 130 0 0) Q) ∧ (¬ ((1 : Int32) = 0) → Go (d + 2) true 267 14 [.ref 130, .int (nI j1)] [] (uI h 130 0 0) Q) from ⟨fun c2 => ?_, fun c2 => ?_⟩)
    · skip
      exact absurd c2 (by decide)
    · skip
      refine exf_go 3 (show wpC (d + 2) true 266 [.ref 130, .int (nI j1)] (uI h 130 0 0) (fun r h' => Go (d + 2) true 267 19 [.ref 130, .int (nI j1)] [r] h' Q) from ?_)
      refine m_throughOf (ms_fq ms (Fq.uI' Fq.rfl' _ _ _ rfl)) (by omega) ?_
      show Go (d + 2) true 267 19 [.ref 130, .int (nI j1)] [.int (nI (thr g j1 (sW g)))] (uI h 130 0 0) Q
      refine exf_go 2 (show Q (.int (nI (thr g j1 (sW g)))) (uI h 130 0 0) from ?_)
      simp only [fThrough, *] at k
      exact k _ (Fq.uI' Fq.rfl' _ _ _ rfl)
  · skip
    show Go (d + 2) true 267 11 [.ref 130, .int x] [.int 0] (uI h 130 0 0) Q
    refine exf_go 1 (show ((0 : Int32) = 0 → Go (d + 2) true 267 22 [.ref 130, .int x] [] (uI h 130 0 0) Q) ∧ (¬ ((0 : Int32) = 0) → Go (d + 2) true 267 14 [.ref 130, .int x] [] (uI h 130 0 0) Q) from ⟨fun c3 => ?_, fun c3 => ?_⟩)
    · skip
      refine exf_go 2 (show Q (.int (-3)) (uI h 130 0 0) from ?_)
      simp only [fThrough, *] at k
      exact k _ (Fq.uI' Fq.rfl' _ _ _ rfl)
    · skip
      exact absurd (by decide) c3
theorem m_along {d : Nat} {h : Hp} {g : ShG} {l : LkG} {x : Int32} {Q : Po} (ms : MS g l h) (k : ∀ h1, Fq scM h h1 → Q (.int (fAlong g x)) h1) : wpC (d + 3) true 269 [.ref 130, .int x] h Q := by
  have hN := tot_b ms.1.1
  have h4 := ms.1.1.1
  have h8 := ms.1.1.2.2.2.1
  have he := evr_b ms.1.1
  have hev : evr g = 2 ^ sC g - 1 := rfl
  refine go_in rfl ?_
  refine exf_go 7 (show wpC (d + 2) true 218 [.ref 130, .long x.toInt64] (uI h 130 0 0) (fun r h' => Go (d + 2) true 269 11 [.ref 130, .int x] [r] h' Q) from ?_)
  refine m_isNumber (x := x) (ms_fq ms (Fq.uI' Fq.rfl' _ _ _ rfl)) (fun j1 e1 q1 r1 => ?_) (fun e1 => ?_)
  · skip
    subst q1
    show Go (d + 2) true 269 11 [.ref 130, .int (nI j1)] [.int 1] (uI h 130 0 0) Q
    refine exf_go 1 (show ((1 : Int32) = 0 → Go (d + 2) true 269 22 [.ref 130, .int (nI j1)] [] (uI h 130 0 0) Q) ∧ (¬ ((1 : Int32) = 0) → Go (d + 2) true 269 14 [.ref 130, .int (nI j1)] [] (uI h 130 0 0) Q) from ⟨fun c2 => ?_, fun c2 => ?_⟩)
    · skip
      exact absurd c2 (by decide)
    · skip
      refine exf_go 3 (show wpC (d + 2) true 268 [.ref 130, .int (nI j1)] (uI h 130 0 0) (fun r h' => Go (d + 2) true 269 19 [.ref 130, .int (nI j1)] [r] h' Q) from ?_)
      refine m_alongOf (ms_fq ms (Fq.uI' Fq.rfl' _ _ _ rfl)) (by omega) ?_
      show Go (d + 2) true 269 19 [.ref 130, .int (nI j1)] [.int (nI (alo g j1 (sW g)))] (uI h 130 0 0) Q
      refine exf_go 2 (show Q (.int (nI (alo g j1 (sW g)))) (uI h 130 0 0) from ?_)
      simp only [fAlong, *] at k
      exact k _ (Fq.uI' Fq.rfl' _ _ _ rfl)
  · skip
    show Go (d + 2) true 269 11 [.ref 130, .int x] [.int 0] (uI h 130 0 0) Q
    refine exf_go 1 (show ((0 : Int32) = 0 → Go (d + 2) true 269 22 [.ref 130, .int x] [] (uI h 130 0 0) Q) ∧ (¬ ((0 : Int32) = 0) → Go (d + 2) true 269 14 [.ref 130, .int x] [] (uI h 130 0 0) Q) from ⟨fun c3 => ?_, fun c3 => ?_⟩)
    · skip
      refine exf_go 2 (show Q (.int (-3)) (uI h 130 0 0) from ?_)
      simp only [fAlong, *] at k
      exact k _ (Fq.uI' Fq.rfl' _ _ _ rfl)
    · skip
      exact absurd (by decide) c3
