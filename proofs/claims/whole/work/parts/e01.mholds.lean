/-! The model: whether a clue holds. -/
def s136 (a _ : Nat) : Bool := Nat.beq a 136
theorem fg_fq {f : Nat → Nat} {W : Nat} {h h1 : Hp} (fg : FG f W h) (q : Fq s136 h h1) : FG f W h1 := ⟨fg.1, (q.1 134 1 rfl).1.trans fg.2.1, fun w hw => (q.1 135 w rfl).1.trans (fg.2.2 w hw)⟩
theorem b01_ne {v : Int32} (h : b01 v) (h1 : ¬ v = 1) : v = 0 := h.elim id (fun z => absurd z h1)
theorem m_holdsFor {d : Nat} {h : Hp} {f code : Nat → Nat} {W cl nn a m : Nat} {P : List Int32 → Prop} {Q : Po} (fg : FG f W h) (hcl : cl < 8) (hnn : nn < 2 ^ 31) (hst : rI h 134 (30 + cl) = nI a) (hmn : rI h 134 (38 + cl) = nI m) (ham : a + m ≤ 900) (hcd : ∀ j, j < a + m → rI h 134 (2941 + j) = nI (code j)) (hr : rok W (wvI W f nn) code 18 P m a []) (hP : ∀ l, P l → ∃ v, l = [v] ∧ b01 v) (k1 : P [1] → ∀ h1, Fq s136 h h1 → Q (.int 1) h1) (k0 : P [0] → ∀ h1, Fq s136 h h1 → Q (.int 0) h1) : wpC (d + 2) true 213 [.ref 130, .int (nI cl), .int (nI nn)] h Q := by
  refine go_in rfl ?_
  refine exf_go 4 (show Go (d + 1) true 213 5 [.ref 130, .int (nI cl), .int (nI nn), .int 0, .int 0, mk_] [] h Q from ?_)
  have L5 : ∀ (k5 : Nat) (z5 : Value) (k q : Nat) (l : List Int32) (hL : Hp), (m - k) < k5 → (k ≤ m) → (l.length = q) → (q ≤ 18) → (Fq s136 h hL) → (SK 136 l hL) → (rok W (wvI W f nn) code 18 P (m - k) (a + k) l) → Go (d + 1) true 213 5 [.ref 130, .int (nI cl), .int (nI nn), .int (nI q), .int (nI k), z5] [] hL Q := by
    intro k5
    induction k5 with
    | zero => intro z5 k q l hL hk; exact absurd hk (Nat.not_lt_zero _)
    | succ k5 ih5 =>
      intro z5 k q l hL hk hk1 hq hq18 qL sk hrL
      have fgL := fg_fq fg qL
      refine exf_go 6 (show Go (d + 1) true 213 15 [.ref 130, .int (nI cl), .int (nI nn), .int (nI q), .int (nI k), z5] [.int (38 + (nI cl)), .ref 134, .int (nI k)] hL Q from ?_)
      rw [show (38 + (nI cl) : Int32) = nI (38 + cl) from nI_add 38 cl]
      refine exf_go 1 (show vp_in (nI (38 + cl)) 13841 ∧ (Go (d + 1) true 213 16 [.ref 130, .int (nI cl), .int (nI nn), .int (nI q), .int (nI k), z5] [.int (rI hL 134 ((nI (38 + cl)).toNatClampNeg)), .int (nI k)] hL Q) from ⟨(vp_in_nI (by omega) (by omega)), ?_⟩)
      rw [show (rI hL 134 ((nI (38 + cl)).toNatClampNeg) : Int32) = nI m from by rw [nI_clamp (by omega)]; exact (qL.1 134 _ rfl).1.trans hmn]
      refine exf_go 1 (show ((nI m) ≤ (nI k) → Go (d + 1) true 213 134 [.ref 130, .int (nI cl), .int (nI nn), .int (nI q), .int (nI k), z5] [] hL Q) ∧ (¬ ((nI m) ≤ (nI k)) → Go (d + 1) true 213 19 [.ref 130, .int (nI cl), .int (nI nn), .int (nI q), .int (nI k), z5] [] hL Q) from ⟨fun c1 => ?_, fun c1 => ?_⟩)
      · skip
        have c1 : m ≤ k := (nI_leI (a := m) (b := k) (by omega) (by omega)).mp c1
        rw [show m - k = 0 from by omega] at hrL
        obtain ⟨v, hlv, hbv⟩ := hP _ hrL
        rw [hlv] at sk hrL
        refine exf_go 4 (show vp_in 0 900 ∧ (Go (d + 1) true 213 140 [.ref 130, .int (nI cl), .int (nI nn), .int (nI q), .int (nI k), z5] [.int (rI hL 136 0)] hL Q) from ⟨(vp_in_nI (n := 0) (by decide) (by decide)), ?_⟩)
        rw [show (rI hL 136 0 : Int32) = v from sk.1]
        refine exf_go 2 (show (¬ v = 1 → Go (d + 1) true 213 148 [.ref 130, .int (nI cl), .int (nI nn), .int (nI q), .int (nI k), z5] [] hL Q) ∧ (¬ (¬ v = 1) → Go (d + 1) true 213 144 [.ref 130, .int (nI cl), .int (nI nn), .int (nI q), .int (nI k), z5] [] hL Q) from ⟨fun c2 => ?_, fun c2 => ?_⟩)
        · skip
          refine exf_go 2 (show ((0 : Int32) = 0 ∨ (0 : Int32) = 1) ∧ Q (.int 0) hL from ⟨(by first | exact Or.inl rfl | exact Or.inr rfl | assumption), ?_⟩)
          have hv0 := b01_ne hbv (by assumption)
          exact k0 (hv0 ▸ hrL) _ qL
        · skip
          refine exf_go 3 (show ((1 : Int32) = 0 ∨ (1 : Int32) = 1) ∧ Q (.int 1) hL from ⟨(by first | exact Or.inl rfl | exact Or.inr rfl | assumption), ?_⟩)
          have hv1 : v = 1 := by first | assumption | (refine Classical.not_not.mp ?_; assumption)
          exact k1 (hv1 ▸ hrL) _ qL
      · skip
        have c1 : ¬ m ≤ k := fun q => c1 ((nI_leI (a := m) (b := k) (by omega) (by omega)).mpr q)
        rw [show m - k = (m - (k + 1)) + 1 from by omega, rok] at hrL
        rcases hrL with ⟨g1, g2, g3, g4⟩ | ⟨g1, x, r, g2, g3, g4⟩ | ⟨g1, y, x, r, g2, g3, g4⟩
        · skip
          refine exf_go 8 (show Go (d + 1) true 213 34 [.ref 130, .int (nI cl), .int (nI nn), .int (nI q), .int (nI k), z5] [.int (30 + (nI cl)), .ref 134, .int 2941, .ref 134] hL Q from ?_)
          rw [show (30 + (nI cl) : Int32) = nI (30 + cl) from nI_add 30 cl]
          refine exf_go 1 (show vp_in (nI (30 + cl)) 13841 ∧ (Go (d + 1) true 213 35 [.ref 130, .int (nI cl), .int (nI nn), .int (nI q), .int (nI k), z5] [.int (rI hL 134 ((nI (30 + cl)).toNatClampNeg)), .int 2941, .ref 134] hL Q) from ⟨(vp_in_nI (by omega) (by omega)), ?_⟩)
          rw [show (rI hL 134 ((nI (30 + cl)).toNatClampNeg) : Int32) = nI a from by rw [nI_clamp (by omega)]; exact (qL.1 134 _ rfl).1.trans hst]
          refine exf_go 1 (show Go (d + 1) true 213 36 [.ref 130, .int (nI cl), .int (nI nn), .int (nI q), .int (nI k), z5] [.int (2941 + (nI a)), .ref 134] hL Q from ?_)
          rw [show (2941 + (nI a) : Int32) = nI (2941 + a) from nI_add 2941 a]
          refine exf_go 2 (show Go (d + 1) true 213 39 [.ref 130, .int (nI cl), .int (nI nn), .int (nI q), .int (nI k), z5] [.int ((nI (2941 + a)) + (nI k)), .ref 134] hL Q from ?_)
          rw [show ((nI (2941 + a)) + (nI k) : Int32) = nI ((2941 + a) + k) from nI_add (2941 + a) k]
          refine exf_go 1 (show vp_in (nI ((2941 + a) + k)) 13841 ∧ (Go (d + 1) true 213 40 [.ref 130, .int (nI cl), .int (nI nn), .int (nI q), .int (nI k), z5] [.int (rI hL 134 ((nI ((2941 + a) + k)).toNatClampNeg))] hL Q) from ⟨(vp_in_nI (by omega) (by omega)), ?_⟩)
          rw [show (rI hL 134 ((nI ((2941 + a) + k)).toNatClampNeg) : Int32) = nI (code (a + k)) from by rw [nI_clamp (by omega), show 2941 + a + k = 2941 + (a + k) from by omega]; exact (qL.1 134 _ rfl).1.trans (hcd (a + k) (by omega))]
          have hcb : code (a + k) ≤ 3008 := by omega
          refine exf_go 4 (show (3000 ≤ (nI (code (a + k))) → Go (d + 1) true 213 69 [.ref 130, .int (nI cl), .int (nI nn), .int (nI q), .int (nI k), .int (nI (code (a + k)))] [] hL Q) ∧ (¬ (3000 ≤ (nI (code (a + k)))) → Go (d + 1) true 213 50 [.ref 130, .int (nI cl), .int (nI nn), .int (nI q), .int (nI k), .int (nI (code (a + k)))] [] hL Q) from ⟨fun c3 => ?_, fun c3 => ?_⟩)
          · skip
            have c3 : 3000 ≤ (code (a + k)) := (nI_leI (a := 3000) (b := (code (a + k))) (by omega) (by omega)).mp c3
            exfalso; omega
          · skip
            have c3 : ¬ 3000 ≤ (code (a + k)) := fun q => c3 ((nI_leI (a := 3000) (b := (code (a + k))) (by omega) (by omega)).mpr q)
            refine exf_go 7 (show wpC (d + 1) true 211 [.ref 130, .int (nI (code (a + k))), .int (nI nn)] hL (fun r h' => Go (d + 1) true 213 62 [.ref 130, .int (nI cl), .int (nI nn), .int (nI q), .int (nI k), .int (nI (code (a + k)))] [r, .int (nI q), .ref 136] h' Q) from ?_)
            refine m_wordOf (c := code (a + k)) fgL g2 hnn ?_
            show Go (d + 1) true 213 62 [.ref 130, .int (nI cl), .int (nI nn), .int (nI q), .int (nI k), .int (nI (code (a + k)))] [.int (wvI W f nn (code (a + k))), .int (nI q), .ref 136] hL Q
            refine exf_go 2 (show vp_in (nI q) 900 ∧ (Go (d + 1) true 213 66 [.ref 130, .int (nI cl), .int (nI nn), .int ((nI q) + 1), .int (nI k), .int (nI (code (a + k)))] [] (uI hL 136 ((nI q).toNatClampNeg) (wvI W f nn (code (a + k)))) Q) from ⟨(vp_in_nI (by omega) (by omega)), ?_⟩)
            rw [show ((nI q) + 1 : Int32) = nI (q + 1) from nI_add q 1]
            refine exf_go 2 (show Go (d + 1) true 213 131 [.ref 130, .int (nI cl), .int (nI nn), .int (nI (q + 1)), .int ((nI k) + 1), .int (nI (code (a + k)))] [] (uI hL 136 ((nI q).toNatClampNeg) (wvI W f nn (code (a + k)))) Q from ?_)
            rw [show ((nI k) + 1 : Int32) = nI (k + 1) from nI_add k 1]
            refine exf_go 1 (show Go (d + 1) true 213 5 [.ref 130, .int (nI cl), .int (nI nn), .int (nI (q + 1)), .int (nI (k + 1)), .int (nI (code (a + k)))] [] (uI hL 136 ((nI q).toNatClampNeg) (wvI W f nn (code (a + k)))) Q from ?_)
            rw [show (nI q).toNatClampNeg = q from nI_clamp (by omega)]
            exact ih5 (.int (nI (code (a + k)))) (k + 1) (q + 1) (wvI W f nn (code (a + k)) :: l) _ (by omega) (by omega) (congrArg (· + 1) hq) (by omega) (qL.uI' _ _ _ rfl) ⟨by rw [hq]; exact rI_uI_eq, sk_up l (by omega) sk⟩ g4
        · skip
          subst g2
          have hq1 : r.length + 1 = q := hq
          refine exf_go 8 (show Go (d + 1) true 213 34 [.ref 130, .int (nI cl), .int (nI nn), .int (nI q), .int (nI k), z5] [.int (30 + (nI cl)), .ref 134, .int 2941, .ref 134] hL Q from ?_)
          rw [show (30 + (nI cl) : Int32) = nI (30 + cl) from nI_add 30 cl]
          refine exf_go 1 (show vp_in (nI (30 + cl)) 13841 ∧ (Go (d + 1) true 213 35 [.ref 130, .int (nI cl), .int (nI nn), .int (nI q), .int (nI k), z5] [.int (rI hL 134 ((nI (30 + cl)).toNatClampNeg)), .int 2941, .ref 134] hL Q) from ⟨(vp_in_nI (by omega) (by omega)), ?_⟩)
          rw [show (rI hL 134 ((nI (30 + cl)).toNatClampNeg) : Int32) = nI a from by rw [nI_clamp (by omega)]; exact (qL.1 134 _ rfl).1.trans hst]
          refine exf_go 1 (show Go (d + 1) true 213 36 [.ref 130, .int (nI cl), .int (nI nn), .int (nI q), .int (nI k), z5] [.int (2941 + (nI a)), .ref 134] hL Q from ?_)
          rw [show (2941 + (nI a) : Int32) = nI (2941 + a) from nI_add 2941 a]
          refine exf_go 2 (show Go (d + 1) true 213 39 [.ref 130, .int (nI cl), .int (nI nn), .int (nI q), .int (nI k), z5] [.int ((nI (2941 + a)) + (nI k)), .ref 134] hL Q from ?_)
          rw [show ((nI (2941 + a)) + (nI k) : Int32) = nI ((2941 + a) + k) from nI_add (2941 + a) k]
          refine exf_go 1 (show vp_in (nI ((2941 + a) + k)) 13841 ∧ (Go (d + 1) true 213 40 [.ref 130, .int (nI cl), .int (nI nn), .int (nI q), .int (nI k), z5] [.int (rI hL 134 ((nI ((2941 + a) + k)).toNatClampNeg))] hL Q) from ⟨(vp_in_nI (by omega) (by omega)), ?_⟩)
          rw [show (rI hL 134 ((nI ((2941 + a) + k)).toNatClampNeg) : Int32) = nI (code (a + k)) from by rw [nI_clamp (by omega), show 2941 + a + k = 2941 + (a + k) from by omega]; exact (qL.1 134 _ rfl).1.trans (hcd (a + k) (by omega))]
          have hcb : code (a + k) ≤ 3008 := by omega
          refine exf_go 4 (show (3000 ≤ (nI (code (a + k))) → Go (d + 1) true 213 69 [.ref 130, .int (nI cl), .int (nI nn), .int (nI q), .int (nI k), .int (nI (code (a + k)))] [] hL Q) ∧ (¬ (3000 ≤ (nI (code (a + k)))) → Go (d + 1) true 213 50 [.ref 130, .int (nI cl), .int (nI nn), .int (nI q), .int (nI k), .int (nI (code (a + k)))] [] hL Q) from ⟨fun c4 => ?_, fun c4 => ?_⟩)
          · skip
            have c4 : 3000 ≤ (code (a + k)) := (nI_leI (a := 3000) (b := (code (a + k))) (by omega) (by omega)).mp c4
            refine exf_go 3 (show (¬ (nI (code (a + k))) = 3008 → Go (d + 1) true 213 98 [.ref 130, .int (nI cl), .int (nI nn), .int (nI q), .int (nI k), .int (nI (code (a + k)))] [] hL Q) ∧ (¬ (¬ (nI (code (a + k))) = 3008) → Go (d + 1) true 213 77 [.ref 130, .int (nI cl), .int (nI nn), .int (nI q), .int (nI k), .int (nI (code (a + k)))] [] hL Q) from ⟨fun c5 => ?_, fun c5 => ?_⟩)
            · skip
              have c5 : ¬ (code (a + k)) = 3008 := fun q => c5 ((nI_eq (a := (code (a + k))) (b := 3008) (by omega) (by omega)).mpr q)
              exfalso; omega
            · skip
              have c5 : (code (a + k)) = 3008 := (nI_eq (a := (code (a + k))) (b := 3008) (by omega) (by omega)).mp (Classical.not_not.mp c5)
              refine exf_go 5 (show Go (d + 1) true 213 84 [.ref 130, .int (nI cl), .int (nI nn), .int (nI q), .int (nI k), .int (nI (code (a + k)))] [.int ((nI q) - 1), .ref 136] hL Q from ?_)
              rw [show ((nI q) - 1 : Int32) = nI (q - 1) from pk_sub (a := q) (b := 1) (by omega)]
              refine exf_go 6 (show Go (d + 1) true 213 92 [.ref 130, .int (nI cl), .int (nI nn), .int (nI q), .int (nI k), .int (nI (code (a + k)))] [.int ((nI q) - 1), .ref 136, .int 1, .int (nI (q - 1)), .ref 136] hL Q from ?_)
              rw [show ((nI q) - 1 : Int32) = nI (q - 1) from pk_sub (a := q) (b := 1) (by omega)]
              refine exf_go 1 (show vp_in (nI (q - 1)) 900 ∧ (Go (d + 1) true 213 93 [.ref 130, .int (nI cl), .int (nI nn), .int (nI q), .int (nI k), .int (nI (code (a + k)))] [.int (rI hL 136 ((nI (q - 1)).toNatClampNeg)), .int 1, .int (nI (q - 1)), .ref 136] hL Q) from ⟨(vp_in_nI (by omega) (by omega)), ?_⟩)
              rw [show (rI hL 136 ((nI (q - 1)).toNatClampNeg) : Int32) = x from by rw [nI_clamp (by omega), show q - 1 = r.length from by omega]; exact sk.1]
              refine exf_go 4 (show vp_in (nI (q - 1)) 900 ∧ (Go (d + 1) true 213 131 [.ref 130, .int (nI cl), .int (nI nn), .int (nI q), .int ((nI k) + 1), .int (nI (code (a + k)))] [] (uI hL 136 ((nI (q - 1)).toNatClampNeg) (1 - x)) Q) from ⟨(vp_in_nI (by omega) (by omega)), ?_⟩)
              rw [show ((nI k) + 1 : Int32) = nI (k + 1) from nI_add k 1]
              refine exf_go 1 (show Go (d + 1) true 213 5 [.ref 130, .int (nI cl), .int (nI nn), .int (nI q), .int (nI (k + 1)), .int (nI (code (a + k)))] [] (uI hL 136 ((nI (q - 1)).toNatClampNeg) (1 - x)) Q from ?_)
              rw [show (nI (q - 1)).toNatClampNeg = r.length from by rw [nI_clamp (by omega)]; omega]
              exact ih5 (.int (nI (code (a + k)))) (k + 1) q ((1 - x) :: r) _ (by omega) (by omega) hq (by omega) (qL.uI' _ _ _ rfl) ⟨rI_uI_eq, sk_up r (Nat.le_refl _) sk.2⟩ g4
          · skip
            have c4 : ¬ 3000 ≤ (code (a + k)) := fun q => c4 ((nI_leI (a := 3000) (b := (code (a + k))) (by omega) (by omega)).mpr q)
            exfalso; omega
        · skip
          subst g2
          have hq1 : r.length + 1 + 1 = q := hq
          refine exf_go 8 (show Go (d + 1) true 213 34 [.ref 130, .int (nI cl), .int (nI nn), .int (nI q), .int (nI k), z5] [.int (30 + (nI cl)), .ref 134, .int 2941, .ref 134] hL Q from ?_)
          rw [show (30 + (nI cl) : Int32) = nI (30 + cl) from nI_add 30 cl]
          refine exf_go 1 (show vp_in (nI (30 + cl)) 13841 ∧ (Go (d + 1) true 213 35 [.ref 130, .int (nI cl), .int (nI nn), .int (nI q), .int (nI k), z5] [.int (rI hL 134 ((nI (30 + cl)).toNatClampNeg)), .int 2941, .ref 134] hL Q) from ⟨(vp_in_nI (by omega) (by omega)), ?_⟩)
          rw [show (rI hL 134 ((nI (30 + cl)).toNatClampNeg) : Int32) = nI a from by rw [nI_clamp (by omega)]; exact (qL.1 134 _ rfl).1.trans hst]
          refine exf_go 1 (show Go (d + 1) true 213 36 [.ref 130, .int (nI cl), .int (nI nn), .int (nI q), .int (nI k), z5] [.int (2941 + (nI a)), .ref 134] hL Q from ?_)
          rw [show (2941 + (nI a) : Int32) = nI (2941 + a) from nI_add 2941 a]
          refine exf_go 2 (show Go (d + 1) true 213 39 [.ref 130, .int (nI cl), .int (nI nn), .int (nI q), .int (nI k), z5] [.int ((nI (2941 + a)) + (nI k)), .ref 134] hL Q from ?_)
          rw [show ((nI (2941 + a)) + (nI k) : Int32) = nI ((2941 + a) + k) from nI_add (2941 + a) k]
          refine exf_go 1 (show vp_in (nI ((2941 + a) + k)) 13841 ∧ (Go (d + 1) true 213 40 [.ref 130, .int (nI cl), .int (nI nn), .int (nI q), .int (nI k), z5] [.int (rI hL 134 ((nI ((2941 + a) + k)).toNatClampNeg))] hL Q) from ⟨(vp_in_nI (by omega) (by omega)), ?_⟩)
          rw [show (rI hL 134 ((nI ((2941 + a) + k)).toNatClampNeg) : Int32) = nI (code (a + k)) from by rw [nI_clamp (by omega), show 2941 + a + k = 2941 + (a + k) from by omega]; exact (qL.1 134 _ rfl).1.trans (hcd (a + k) (by omega))]
          have hcb : code (a + k) ≤ 3008 := by omega
          refine exf_go 4 (show (3000 ≤ (nI (code (a + k))) → Go (d + 1) true 213 69 [.ref 130, .int (nI cl), .int (nI nn), .int (nI q), .int (nI k), .int (nI (code (a + k)))] [] hL Q) ∧ (¬ (3000 ≤ (nI (code (a + k)))) → Go (d + 1) true 213 50 [.ref 130, .int (nI cl), .int (nI nn), .int (nI q), .int (nI k), .int (nI (code (a + k)))] [] hL Q) from ⟨fun c6 => ?_, fun c6 => ?_⟩)
          · skip
            have c6 : 3000 ≤ (code (a + k)) := (nI_leI (a := 3000) (b := (code (a + k))) (by omega) (by omega)).mp c6
            refine exf_go 3 (show (¬ (nI (code (a + k))) = 3008 → Go (d + 1) true 213 98 [.ref 130, .int (nI cl), .int (nI nn), .int (nI q), .int (nI k), .int (nI (code (a + k)))] [] hL Q) ∧ (¬ (¬ (nI (code (a + k))) = 3008) → Go (d + 1) true 213 77 [.ref 130, .int (nI cl), .int (nI nn), .int (nI q), .int (nI k), .int (nI (code (a + k)))] [] hL Q) from ⟨fun c7 => ?_, fun c7 => ?_⟩)
            · skip
              have c7 : ¬ (code (a + k)) = 3008 := fun q => c7 ((nI_eq (a := (code (a + k))) (b := 3008) (by omega) (by omega)).mpr q)
              refine exf_go 1 (show Go (d + 1) true 213 101 [.ref 130, .int (nI cl), .int (nI nn), .int ((nI q) + (-1)), .int (nI k), .int (nI (code (a + k)))] [] hL Q from ?_)
              rw [show ((nI q) + (-1) : Int32) = nI (q - 1) from nI_dec (n := q) (by omega)]
              refine exf_go 5 (show Go (d + 1) true 213 108 [.ref 130, .int (nI cl), .int (nI nn), .int (nI (q - 1)), .int (nI k), .int (nI (code (a + k)))] [.int ((nI (q - 1)) - 1), .ref 136] hL Q from ?_)
              rw [show ((nI (q - 1)) - 1 : Int32) = nI ((q - 1) - 1) from pk_sub (a := (q - 1)) (b := 1) (by omega)]
              refine exf_go 6 (show Go (d + 1) true 213 117 [.ref 130, .int (nI cl), .int (nI nn), .int (nI (q - 1)), .int (nI k), .int (nI (code (a + k)))] [.int ((nI (q - 1)) - 1), .ref 136, .int (nI (code (a + k))), .int (nI ((q - 1) - 1)), .ref 136] hL Q from ?_)
              rw [show ((nI (q - 1)) - 1 : Int32) = nI ((q - 1) - 1) from pk_sub (a := (q - 1)) (b := 1) (by omega)]
              refine exf_go 1 (show vp_in (nI ((q - 1) - 1)) 900 ∧ (Go (d + 1) true 213 118 [.ref 130, .int (nI cl), .int (nI nn), .int (nI (q - 1)), .int (nI k), .int (nI (code (a + k)))] [.int (rI hL 136 ((nI ((q - 1) - 1)).toNatClampNeg)), .int (nI (code (a + k))), .int (nI ((q - 1) - 1)), .ref 136] hL Q) from ⟨(vp_in_nI (by omega) (by omega)), ?_⟩)
              rw [show (rI hL 136 ((nI ((q - 1) - 1)).toNatClampNeg) : Int32) = x from by rw [nI_clamp (by omega), show q - 1 - 1 = r.length from by omega]; exact sk.2.1]
              refine exf_go 4 (show vp_in (nI (q - 1)) 900 ∧ (Go (d + 1) true 213 124 [.ref 130, .int (nI cl), .int (nI nn), .int (nI (q - 1)), .int (nI k), .int (nI (code (a + k)))] [.int (rI hL 136 ((nI (q - 1)).toNatClampNeg)), .int x, .int (nI (code (a + k))), .int (nI ((q - 1) - 1)), .ref 136] hL Q) from ⟨(vp_in_nI (by omega) (by omega)), ?_⟩)
              rw [show (rI hL 136 ((nI (q - 1)).toNatClampNeg) : Int32) = y from by rw [nI_clamp (by omega), show q - 1 = r.length + 1 from by omega]; exact sk.1]
              refine exf_go 1 (show wpC (d + 1) true 212 [.int (nI (code (a + k))), .int x, .int y] hL (fun r h' => Go (d + 1) true 213 127 [.ref 130, .int (nI cl), .int (nI nn), .int (nI (q - 1)), .int (nI k), .int (nI (code (a + k)))] [r, .int (nI ((q - 1) - 1)), .ref 136] h' Q) from ?_)
              refine m_between (c := code (a + k)) g1.1 g1.2 g3 ?_
              show Go (d + 1) true 213 127 [.ref 130, .int (nI cl), .int (nI nn), .int (nI (q - 1)), .int (nI k), .int (nI (code (a + k)))] [.int (joinV (code (a + k)) x y), .int (nI ((q - 1) - 1)), .ref 136] hL Q
              refine exf_go 2 (show vp_in (nI ((q - 1) - 1)) 900 ∧ (Go (d + 1) true 213 131 [.ref 130, .int (nI cl), .int (nI nn), .int (nI (q - 1)), .int ((nI k) + 1), .int (nI (code (a + k)))] [] (uI hL 136 ((nI ((q - 1) - 1)).toNatClampNeg) (joinV (code (a + k)) x y)) Q) from ⟨(vp_in_nI (by omega) (by omega)), ?_⟩)
              rw [show ((nI k) + 1 : Int32) = nI (k + 1) from nI_add k 1]
              refine exf_go 1 (show Go (d + 1) true 213 5 [.ref 130, .int (nI cl), .int (nI nn), .int (nI (q - 1)), .int (nI (k + 1)), .int (nI (code (a + k)))] [] (uI hL 136 ((nI ((q - 1) - 1)).toNatClampNeg) (joinV (code (a + k)) x y)) Q from ?_)
              rw [show (nI (q - 1 - 1)).toNatClampNeg = r.length from by rw [nI_clamp (by omega)]; omega]
              exact ih5 (.int (nI (code (a + k)))) (k + 1) (q - 1) (joinV (code (a + k)) x y :: r) _ (by omega) (by omega) (show r.length + 1 = q - 1 from by omega) (by omega) (qL.uI' _ _ _ rfl) ⟨rI_uI_eq, sk_up r (Nat.le_refl _) sk.2.2⟩ g4
            · skip
              have c7 : (code (a + k)) = 3008 := (nI_eq (a := (code (a + k))) (b := 3008) (by omega) (by omega)).mp (Classical.not_not.mp c7)
              exfalso; omega
          · skip
            have c6 : ¬ 3000 ≤ (code (a + k)) := fun q => c6 ((nI_leI (a := 3000) (b := (code (a + k))) (by omega) (by omega)).mpr q)
            exfalso; omega
  exact L5 (m + 1) mk_ 0 0 [] h (by omega) (by omega) rfl (by omega) Fq.rfl' trivial hr
