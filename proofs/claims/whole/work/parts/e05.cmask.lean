/-! The class: which clues hold for a number. -/
def sLk (a i : Nat) : Bool := Nat.beq a 22 || (Nat.beq a 17 && (Nat.ble 8 i && Nat.ble i 11))
theorem cs_lk {g : ShG} {h h1 : Hp} (cs : CS 31 g h) (q : Fq sLk h h1) : CS 31 g h1 := cs_same cs (fun a h1 h2 => by
  have e : a = 31 ∨ a = 32 ∨ a = 33 ∨ a = 34 ∨ a = 35 ∨ a = 36 ∨ a = 37 ∨ a = 38 := by omega
  rcases e with e | e | e | e | e | e | e | e <;> subst e <;> exact funext fun i => (q.1 _ i rfl).1)
theorem f10 {g : ShG} (h : ShW g) (nn w : Nat) : fgo g nn w < 10 := by have := fgo_lt h nn w; have := sF_b h w; omega
theorem sum40 {g : ShG} (h : ShW g) (nn : Nat) {w : Nat} (hw : w ≤ 4) : sumN (fgo g nn) w ≤ 40 := by
  have : sumN (fgo g nn) w ≤ w * 10 := sumN_le _ (fun k _ => Nat.le_of_lt (f10 h nn k))
  omega
theorem c_look {d : Nat} {h : Hp} {g : ShG} {nn : Nat} {Q : Po} (cs : CS 31 g h) (hnn : nn < 2 ^ 31) (k : ∀ h1, Fq sLk h h1 → CE (fgo g nn) (sW g) nn h1 → Q mk_ h1) : wpC (d + 2) true 6 [.ref 17, .ref 31, .int (nI nn)] h Q := by
  have h4 := cs.1.1
  refine go_in rfl ?_
  refine exf_go 14 (show Go (d + 1) true 6 22 [.ref 17, .ref 31, .int (nI nn), .int 0, mk_] [] (uI (uI (uI (uI h 17 8 (nI nn)) 17 9 0) 17 10 0) 17 11 0) Q from ?_)
  have L22 : ∀ (k22 : Nat) (z4 : Value) (w : Nat) (hL : Hp), (sW g - w) < k22 → (w ≤ sW g) → (Fq sLk h hL) → ((rI hL 17 8 = nI nn ∧ rI hL 17 9 = nI (sumN (fgo g nn) w) ∧ rI hL 17 10 = nI (alk (fgo g nn) w) ∧ rI hL 17 11 = nI (seN (fgo g nn) w)) ∧ ∀ v, v < w → rI hL 22 v = nI (fgo g nn v)) → Go (d + 1) true 6 22 [.ref 17, .ref 31, .int (nI nn), .int (nI w), z4] [] hL Q := by
    intro k22
    induction k22 with
    | zero => intro z4 w hL hk; exact absurd hk (Nat.not_lt_zero _)
    | succ k22 ih22 =>
      intro z4 w hL hk hw qL hcl
      have csL := cs_lk cs qL
      have hsb := sum40 cs.1 nn (w := w) (by omega); have hab := alk_b (fgo g nn) (W := w) (by omega); have hse := se_b (f10 cs.1 nn) w
      have hfw := f10 cs.1 nn w
      refine exf_go 3 (show Go (d + 1) true 6 27 [.ref 17, .ref 31, .int (nI nn), .int (nI w), z4] [.int (rI hL 31 0), .int (nI w)] hL Q from ?_)
      rw [show (rI hL 31 0 : Int32) = nI (sW g) from cs_W csL]
      refine exf_go 1 (show ((nI (sW g)) ≤ (nI w) → Go (d + 1) true 6 121 [.ref 17, .ref 31, .int (nI nn), .int (nI w), z4] [] hL Q) ∧ (¬ ((nI (sW g)) ≤ (nI w)) → Go (d + 1) true 6 30 [.ref 17, .ref 31, .int (nI nn), .int (nI w), z4] [] hL Q) from ⟨fun c1 => ?_, fun c1 => ?_⟩)
      · skip
        have c1 : (sW g) ≤ w := (nI_leI (a := (sW g)) (b := w) (by omega) (by omega)).mp c1
        refine exf_go 1 (show Q (mk_) hL from ?_)
        rw [show w = sW g from by omega] at hcl; exact k _ qL ⟨⟨cs.1.1, f10 cs.1 nn⟩, hcl⟩
      · skip
        have c1 : ¬ (sW g) ≤ w := fun q => c1 ((nI_leI (a := (sW g)) (b := w) (by omega) (by omega)).mpr q)
        refine exf_go 7 (show wpC (d + 1) true 81 [.ref 31, .int (nI nn), .int (nI w)] hL (fun r h' => Go (d + 1) true 6 41 [.ref 17, .ref 31, .int (nI nn), .int (nI w), z4] [r, .int (nI w), .ref 22] h' Q) from ?_)
        refine c_figureOf csL (n := nn) (w := w) (by omega) (by omega) ?_
        show Go (d + 1) true 6 41 [.ref 17, .ref 31, .int (nI nn), .int (nI w), z4] [.int (nI (fgo g nn w)), .int (nI w), .ref 22] hL Q
        refine exf_go 4 (show vp_in (nI w) 4 ∧ (Go (d + 1) true 6 47 [.ref 17, .ref 31, .int (nI nn), .int (nI w), z4] [.int (rI hL 17 9), .ref 17] (uI hL 22 ((nI w).toNatClampNeg) (nI (fgo g nn w))) Q) from ⟨(vp_in_nI (by omega) (by omega)), ?_⟩)
        rw [show (rI hL 17 9 : Int32) = nI (sumN (fgo g nn) w) from hcl.1.2.1]
        refine exf_go 4 (show vp_in (nI w) 4 ∧ (Go (d + 1) true 6 53 [.ref 17, .ref 31, .int (nI nn), .int (nI w), z4] [.int (rI (uI hL 22 ((nI w).toNatClampNeg) (nI (fgo g nn w))) 22 ((nI w).toNatClampNeg)), .int (nI (sumN (fgo g nn) w)), .ref 17] (uI hL 22 ((nI w).toNatClampNeg) (nI (fgo g nn w))) Q) from ⟨(vp_in_nI (by omega) (by omega)), ?_⟩)
        rw [show (rI (uI hL 22 ((nI w).toNatClampNeg) (nI (fgo g nn w))) 22 ((nI w).toNatClampNeg) : Int32) = nI (fgo g nn w) from rI_uI_eq]
        refine exf_go 1 (show Go (d + 1) true 6 54 [.ref 17, .ref 31, .int (nI nn), .int (nI w), z4] [.int ((nI (sumN (fgo g nn) w)) + (nI (fgo g nn w))), .ref 17] (uI hL 22 ((nI w).toNatClampNeg) (nI (fgo g nn w))) Q from ?_)
        rw [show ((nI (sumN (fgo g nn) w)) + (nI (fgo g nn w)) : Int32) = nI (sumN (fgo g nn) (w + 1)) from nI_add _ _]
        refine exf_go 4 (show Go (d + 1) true 6 62 [.ref 17, .ref 31, .int (nI nn), .int (nI w), z4] [.int (rI hL 17 11), .ref 17] (uI (uI hL 22 ((nI w).toNatClampNeg) (nI (fgo g nn w))) 17 9 (nI (sumN (fgo g nn) (w + 1)))) Q from ?_)
        rw [show (rI hL 17 11 : Int32) = nI (seN (fgo g nn) w) from hcl.1.2.2.2]
        refine exf_go 5 (show vp_in (nI w) 4 ∧ (Go (d + 1) true 6 69 [.ref 17, .ref 31, .int (nI nn), .int (nI w), z4] [.int (rI (uI hL 22 ((nI w).toNatClampNeg) (nI (fgo g nn w))) 22 ((nI w).toNatClampNeg)), .int 1, .int (nI (seN (fgo g nn) w)), .ref 17] (uI (uI hL 22 ((nI w).toNatClampNeg) (nI (fgo g nn w))) 17 9 (nI (sumN (fgo g nn) (w + 1)))) Q) from ⟨(vp_in_nI (by omega) (by omega)), ?_⟩)
        rw [show (rI (uI hL 22 ((nI w).toNatClampNeg) (nI (fgo g nn w))) 22 ((nI w).toNatClampNeg) : Int32) = nI (fgo g nn w) from rI_uI_eq]
        refine exf_go 1 (show Go (d + 1) true 6 70 [.ref 17, .ref 31, .int (nI nn), .int (nI w), z4] [.int (1 <<< ((nI (fgo g nn w)) &&& 31)), .int (nI (seN (fgo g nn) w)), .ref 17] (uI (uI hL 22 ((nI w).toNatClampNeg) (nI (fgo g nn w))) 17 9 (nI (sumN (fgo g nn) (w + 1)))) Q from ?_)
        rw [show (1 <<< ((nI (fgo g nn w)) &&& 31) : Int32) = nI (2 ^ (fgo g nn w)) from nI_1shl (k := (fgo g nn w)) (by omega)]
        refine exf_go 1 (show Go (d + 1) true 6 71 [.ref 17, .ref 31, .int (nI nn), .int (nI w), z4] [.int ((nI (seN (fgo g nn) w)) ||| (nI (2 ^ (fgo g nn w)))), .ref 17] (uI (uI hL 22 ((nI w).toNatClampNeg) (nI (fgo g nn w))) 17 9 (nI (sumN (fgo g nn) (w + 1)))) Q from ?_)
        rw [show ((nI (seN (fgo g nn) w)) ||| (nI (2 ^ (fgo g nn w))) : Int32) = nI (seN (fgo g nn) (w + 1)) from nI_or _ _]
        refine exf_go 3 (show Go (d + 1) true 6 77 [.ref 17, .ref 31, .int (nI nn), .int (nI w), .int 0] [] (uI (uI (uI hL 22 ((nI w).toNatClampNeg) (nI (fgo g nn w))) 17 9 (nI (sumN (fgo g nn) (w + 1)))) 17 11 (nI (seN (fgo g nn) (w + 1)))) Q from ?_)
        have L77 : ∀ (k77 : Nat) (v : Nat) (hI : Hp), (w - v) < k77 → (v ≤ w) → (Fq sLk h hI) → ((rI hI 17 8 = nI nn ∧ rI hI 17 9 = nI (sumN (fgo g nn) (w + 1)) ∧ rI hI 17 10 = nI (alk (fgo g nn) w + cntN (fun v => fgo g nn v == fgo g nn w) v) ∧ rI hI 17 11 = nI (seN (fgo g nn) (w + 1))) ∧ ∀ v, v < w + 1 → rI hI 22 v = nI (fgo g nn v)) → Go (d + 1) true 6 77 [.ref 17, .ref 31, .int (nI nn), .int (nI w), .int (nI v)] [] hI Q := by
          intro k77
          induction k77 with
          | zero => intro v hI hk; exact absurd hk (Nat.not_lt_zero _)
          | succ k77 ih77 =>
            intro v hI hk hv qI hci
            have hcb := cntN_le (fun v => fgo g nn v == fgo g nn w) v
            have hfv := f10 cs.1 nn v; have hfw := f10 cs.1 nn w
            refine exf_go 3 (show ((nI w) ≤ (nI v) → Go (d + 1) true 6 115 [.ref 17, .ref 31, .int (nI nn), .int (nI w), .int (nI v)] [] hI Q) ∧ (¬ ((nI w) ≤ (nI v)) → Go (d + 1) true 6 83 [.ref 17, .ref 31, .int (nI nn), .int (nI w), .int (nI v)] [] hI Q) from ⟨fun c2 => ?_, fun c2 => ?_⟩)
            · skip
              have c2 : w ≤ v := (nI_leI (a := w) (b := v) (by omega) (by omega)).mp c2
              refine exf_go 1 (show Go (d + 1) true 6 118 [.ref 17, .ref 31, .int (nI nn), .int ((nI w) + 1), .int (nI v)] [] hI Q from ?_)
              rw [show ((nI w) + 1 : Int32) = nI (w + 1) from nI_add w 1]
              refine exf_go 1 (show Go (d + 1) true 6 22 [.ref 17, .ref 31, .int (nI nn), .int (nI (w + 1)), .int (nI v)] [] hI Q from ?_)
              have hci2 := hci
              rw [show alk (fgo g nn) w + cntN (fun v => fgo g nn v == fgo g nn w) v = alk (fgo g nn) (w + 1) from by rw [show v = w from by omega]; rfl] at hci2
              exact ih22 (.int (nI v)) (w + 1) _ (by omega) (by omega) qI hci2
            · skip
              have c2 : ¬ w ≤ v := fun q => c2 ((nI_leI (a := w) (b := v) (by omega) (by omega)).mpr q)
              refine exf_go 4 (show vp_in (nI v) 4 ∧ (Go (d + 1) true 6 90 [.ref 17, .ref 31, .int (nI nn), .int (nI w), .int (nI v)] [.int (rI hI 22 ((nI v).toNatClampNeg))] hI Q) from ⟨(vp_in_nI (by omega) (by omega)), ?_⟩)
              rw [show (rI hI 22 ((nI v).toNatClampNeg) : Int32) = nI (fgo g nn v) from by rw [nI_clamp (by omega)]; exact hci.2 _ (by omega)]
              refine exf_go 4 (show vp_in (nI w) 4 ∧ (Go (d + 1) true 6 96 [.ref 17, .ref 31, .int (nI nn), .int (nI w), .int (nI v)] [.int (rI hI 22 ((nI w).toNatClampNeg)), .int (nI (fgo g nn v))] hI Q) from ⟨(vp_in_nI (by omega) (by omega)), ?_⟩)
              rw [show (rI hI 22 ((nI w).toNatClampNeg) : Int32) = nI (fgo g nn w) from by rw [nI_clamp (by omega)]; exact hci.2 _ (by omega)]
              refine exf_go 1 (show (¬ (nI (fgo g nn v)) = (nI (fgo g nn w)) → Go (d + 1) true 6 109 [.ref 17, .ref 31, .int (nI nn), .int (nI w), .int (nI v)] [] hI Q) ∧ (¬ (¬ (nI (fgo g nn v)) = (nI (fgo g nn w))) → Go (d + 1) true 6 99 [.ref 17, .ref 31, .int (nI nn), .int (nI w), .int (nI v)] [] hI Q) from ⟨fun c3 => ?_, fun c3 => ?_⟩)
              · skip
                have c3 : ¬ (fgo g nn v) = (fgo g nn w) := fun q => c3 ((nI_eq (a := (fgo g nn v)) (b := (fgo g nn w)) (by omega) (by omega)).mpr q)
                have hvw : ¬ fgo g nn v = fgo g nn w := by omega
                refine exf_go 1 (show Go (d + 1) true 6 112 [.ref 17, .ref 31, .int (nI nn), .int (nI w), .int ((nI v) + 1)] [] hI Q from ?_)
                rw [show ((nI v) + 1 : Int32) = nI (v + 1) from nI_add v 1]
                refine exf_go 1 (show Go (d + 1) true 6 77 [.ref 17, .ref 31, .int (nI nn), .int (nI w), .int (nI (v + 1))] [] hI Q from ?_)
                exact ih77 (v + 1) hI (by omega) (by omega) qI ⟨⟨hci.1.1, hci.1.2.1, (by rw [cntN, if_neg (by simpa using hvw)]; exact hci.1.2.2.1), hci.1.2.2.2⟩, hci.2⟩
              · skip
                have c3 : (fgo g nn v) = (fgo g nn w) := (nI_eq (a := (fgo g nn v)) (b := (fgo g nn w)) (by omega) (by omega)).mp (Classical.not_not.mp c3)
                have hvw : fgo g nn v = fgo g nn w := by omega
                refine exf_go 3 (show Go (d + 1) true 6 104 [.ref 17, .ref 31, .int (nI nn), .int (nI w), .int (nI v)] [.int (rI hI 17 10), .ref 17] hI Q from ?_)
                rw [show (rI hI 17 10 : Int32) = nI (alk (fgo g nn) w + cntN (fun v => fgo g nn v == fgo g nn w) v) from hci.1.2.2.1]
                refine exf_go 2 (show Go (d + 1) true 6 106 [.ref 17, .ref 31, .int (nI nn), .int (nI w), .int (nI v)] [.int ((nI (alk (fgo g nn) w + cntN (fun v => fgo g nn v == fgo g nn w) v)) + 1), .ref 17] hI Q from ?_)
                rw [show ((nI (alk (fgo g nn) w + cntN (fun v => fgo g nn v == fgo g nn w) v)) + 1 : Int32) = nI ((alk (fgo g nn) w + cntN (fun v => fgo g nn v == fgo g nn w) v) + 1) from nI_add (alk (fgo g nn) w + cntN (fun v => fgo g nn v == fgo g nn w) v) 1]
                refine exf_go 2 (show Go (d + 1) true 6 112 [.ref 17, .ref 31, .int (nI nn), .int (nI w), .int ((nI v) + 1)] [] (uI hI 17 10 (nI ((alk (fgo g nn) w + cntN (fun v => fgo g nn v == fgo g nn w) v) + 1))) Q from ?_)
                rw [show ((nI v) + 1 : Int32) = nI (v + 1) from nI_add v 1]
                refine exf_go 1 (show Go (d + 1) true 6 77 [.ref 17, .ref 31, .int (nI nn), .int (nI w), .int (nI (v + 1))] [] (uI hI 17 10 (nI ((alk (fgo g nn) w + cntN (fun v => fgo g nn v == fgo g nn w) v) + 1))) Q from ?_)
                exact ih77 (v + 1) _ (by omega) (by omega) (qI.uI' _ _ _ rfl) ⟨⟨hci.1.1, hci.1.2.1, (by rw [cntN, if_pos (by simpa using hvw)]; rfl), hci.1.2.2.2⟩, hci.2⟩
        rw [show (nI w).toNatClampNeg = w from nI_clamp (by omega)]
        have hi7 : ∀ v, v < w + 1 → rI (uI hL 22 w (nI (fgo g nn w))) 22 v = nI (fgo g nn v) := by
          intro v hv
          rcases Nat.lt_or_ge v w with z | z
          · rw [rI_uI_at (by omega)]; exact hcl.2 v z
          · rw [show v = w from by omega]; exact rI_uI_eq
        exact L77 (w + 1) 0 _ (by omega) (by omega) (((qL.uI' _ _ _ rfl).uI' _ _ _ rfl).uI' _ _ _ rfl) ⟨⟨hcl.1.1, rfl, hcl.1.2.2.1, rfl⟩, hi7⟩
  exact L22 ((sW g) + 1) mk_ 0 _ (by omega) (by omega) ((((Fq.rfl'.uI' _ _ _ rfl).uI' _ _ _ rfl).uI' _ _ _ rfl).uI' _ _ _ rfl) ⟨⟨rfl, rfl, rfl, rfl⟩, fun v hv => absurd hv (Nat.not_lt_zero _)⟩
