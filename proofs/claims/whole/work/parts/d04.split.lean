/-! The class: a text is split. -/
theorem kd_b (b : Nat → Nat) (n q : Nat) : kd b n q < 37 := Nat.lt_of_le_of_lt (tK_b b n (tkP b n q)) (by decide)
def TKp (b : Nat → Nat) (n j : Nat) (h : Hp) : Prop := rI h 12 3 = nI j ∧ ∀ q, q < j → rI h 13 q = nI (ckd (kd b n q)) ∧ rI h 15 q = nI (tkP b n q) ∧ (kd b n q = 21 → rI h 14 q = nI (vl b n q))
theorem c_pushT {d : Nat} {h : Hp} {b : Nat → Nat} {n j : Nat} {x y z : Int32} {Q : Po} (htp : TKp b n j h) (hj : j < 901) (hx : x = nI (ckd (kd b n j))) (hy : kd b n j = 21 → y = nI (vl b n j)) (hz : z = nI (tkP b n j)) (k : ∀ h1, Fq sTk h h1 → TKp b n (j + 1) h1 → Q mk_ h1) : wpC (d + 1) true 93 [.ref 12, .int x, .int y, .int z] h Q := by
  refine go_in rfl ?_
  refine exf_go 2 (show Go d true 93 4 [.ref 12, .int x, .int y, .int z] [.int (rI h 12 3)] h Q from ?_)
  rw [show (rI h 12 3 : Int32) = nI j from htp.1]
  refine exf_go 3 (show Go d true 93 9 [.ref 12, .int x, .int y, .int z] [.int (nI 901), .int (nI j)] h Q from ?_)
  rw [show (nI 901 : Int32) = nI 901 from rfl]
  refine exf_go 1 (show ((nI 901) ≤ (nI j) → Go d true 93 52 [.ref 12, .int x, .int y, .int z] [] h Q) ∧ (¬ ((nI 901) ≤ (nI j)) → Go d true 93 12 [.ref 12, .int x, .int y, .int z] [] h Q) from ⟨fun c1 => ?_, fun c1 => ?_⟩)
  · skip
    have c1 : 901 ≤ j := (nI_leI (a := 901) (b := j) (by omega) (by omega)).mp c1
    refine exf_go 1 (show Q (mk_) h from ?_)
    exfalso; omega
  · skip
    have c1 : ¬ 901 ≤ j := fun q => c1 ((nI_leI (a := 901) (b := j) (by omega) (by omega)).mpr q)
    refine exf_go 4 (show Go d true 93 20 [.ref 12, .int x, .int y, .int z] [.int (rI h 12 3), .ref 13] h Q from ?_)
    rw [show (rI h 12 3 : Int32) = nI j from htp.1]
    refine exf_go 6 (show vp_in (nI j) 901 ∧ (Go d true 93 30 [.ref 12, .int x, .int y, .int z] [.int (rI h 12 3), .ref 14] (uI h 13 ((nI j).toNatClampNeg) x) Q) from ⟨(vp_in_nI (n := j) (by omega) (by omega)), ?_⟩)
    rw [show (rI h 12 3 : Int32) = nI j from htp.1]
    refine exf_go 6 (show vp_in (nI j) 901 ∧ (Go d true 93 40 [.ref 12, .int x, .int y, .int z] [.int (rI h 12 3), .ref 15] (uI (uI h 13 ((nI j).toNatClampNeg) x) 14 ((nI j).toNatClampNeg) y) Q) from ⟨(vp_in_nI (n := j) (by omega) (by omega)), ?_⟩)
    rw [show (rI h 12 3 : Int32) = nI j from htp.1]
    refine exf_go 5 (show vp_in (nI j) 901 ∧ (Go d true 93 47 [.ref 12, .int x, .int y, .int z] [.int (rI h 12 3), .ref 12] (uI (uI (uI h 13 ((nI j).toNatClampNeg) x) 14 ((nI j).toNatClampNeg) y) 15 ((nI j).toNatClampNeg) z) Q) from ⟨(vp_in_nI (n := j) (by omega) (by omega)), ?_⟩)
    rw [show (rI h 12 3 : Int32) = nI j from htp.1]
    refine exf_go 2 (show Go d true 93 49 [.ref 12, .int x, .int y, .int z] [.int ((nI j) + 1), .ref 12] (uI (uI (uI h 13 ((nI j).toNatClampNeg) x) 14 ((nI j).toNatClampNeg) y) 15 ((nI j).toNatClampNeg) z) Q from ?_)
    rw [show ((nI j) + 1 : Int32) = nI (j + 1) from nI_add j 1]
    refine exf_go 2 (show Q (mk_) (uI (uI (uI (uI h 13 ((nI j).toNatClampNeg) x) 14 ((nI j).toNatClampNeg) y) 15 ((nI j).toNatClampNeg) z) 12 3 (nI (j + 1))) from ?_)
    have hcl : (nI j).toNatClampNeg = j := nI_clamp (by omega)
    rw [hcl]
    have q1 : Fq sTk h (uI (uI (uI (uI h 13 (j) x) 14 (j) y) 15 (j) z) 12 3 (nI (j + 1))) := (((Fq.rfl'.uI' _ _ _ rfl).uI' _ _ _ rfl).uI' _ _ _ rfl).uI' _ _ _ rfl
    refine k _ q1 ⟨rfl, fun q hq => ?_⟩
    rcases Nat.lt_or_ge q j with z | z
    · have h3 := htp.2 q z
      refine ⟨(rI_uI_at (a := 13) (by omega)).trans h3.1, (rI_uI_at (a := 15) (by omega)).trans h3.2.1, fun e => (rI_uI_at (a := 14) (by omega)).trans (h3.2.2 e)⟩
    · have ej : q = j := by omega
      subst ej
      exact ⟨(rI_uI_eq (a := 13)).trans (by rw [hx]), (rI_uI_eq (a := 15)).trans (by rw [hz]), fun e => (rI_uI_eq (a := 14)).trans (hy e)⟩
theorem wk_21 (b : Nat → Nat) (a e : Nat) : ∀ f, f ≤ 18 → ¬ wkF b a e f = 21
  | 0, _ => by rw [wkF]; decide
  | f + 1, h => by rw [wkF]; split; omega; exact wk_21 b a e f (by omega)
theorem sg_21 (c : Nat) : ∀ k, k ≤ 12 → ¬ sgF c k = 21
  | 0, _ => by rw [sgF]; decide
  | k + 1, h => by rw [sgF]; split; omega; exact sg_21 c k (by omega)
theorem tK_21 {b : Nat → Nat} {n a : Nat} (h : tK b n a = 21) (ha : a < n) : dgt (b a) = true ∧ tE b n a - a ≤ 3 ∧ ∀ i, a ≤ i → i < tE b n a → dgt (b i) = true := by
  unfold tK at h
  rw [if_neg (by omega)] at h
  split at h
  · exact absurd h (wk_21 b a (tE b n a) 18 (by omega))
  · rename_i c1
    split at h
    · rename_i c2
      split at h
      · omega
      · refine ⟨c2, by omega, fun i h1 h2 => ?_⟩
        have e : tE b n a = scF (fun i => dgt (b i)) n a := by unfold tE; rw [if_neg (by omega), if_neg c1, if_pos c2]
        rw [e] at h2
        exact scF_all (q := fun i => dgt (b i)) h1 h2
    · exact absurd h (sg_21 (b a) 12 (by omega))
theorem wk_22 (b : Nat → Nat) (a e : Nat) : ∀ f, f ≤ 18 → ¬ wkF b a e f = 22
  | 0, _ => by rw [wkF]; decide
  | f + 1, h => by rw [wkF]; split; omega; exact wk_22 b a e f (by omega)
theorem tK_22 {b : Nat → Nat} {n a : Nat} (h : tK b n a = 22) : n ≤ a := by
  rcases Nat.lt_or_ge a n with c | c
  · exfalso
    unfold tK at h
    rw [if_neg (by omega)] at h
    split at h
    · exact wk_22 b a (tE b n a) 18 (by omega) h
    · split at h
      · split at h <;> omega
      · have := sg_b (b a) 12 (by omega); omega
  · exact c
theorem c_splitT {d : Nat} {h : Hp} {b : Nat → Nat} {n : Nat} {Q : Po} (cx : CX b n h) (k : ∀ N h1, Fq sTk h h1 → TK b n N h1 → Q mk_ h1) : wpC (d + 8) true 89 [.ref 12, .ref 11, .int (nI n)] h Q := by
  have hn9 := cx.1.1
  refine go_in rfl ?_
  refine exf_go 7 (show Go (d + 7) true 89 10 [.ref 12, .ref 11, .int (nI n), .int 0, .int 0, mk_, mk_, mk_] [] (uI h 12 3 0) Q from ?_)
  have L10 : ∀ (k10 : Nat) (z5 z6 z7 : Value) (i p j : Nat) (hL : Hp), (900 - i) < k10 → (i ≤ p) → (p ≤ n) → (j ≤ i) → (Fq sTk h hL) → (TKp b n j hL) → (skF b n p = tkP b n j) → (∀ q, q < j → ¬ kd b n q = 22 ∧ ¬ kd b n q = 23) → Go (d + 7) true 89 10 [.ref 12, .ref 11, .int (nI n), .int (nI p), .int (nI i), z5, z6, z7] [] hL Q := by
    intro k10
    induction k10 with
    | zero => intro z5 z6 z7 i p j hL hk; exact absurd hk (Nat.not_lt_zero _)
    | succ k10 ih10 =>
      intro z5 z6 z7 i p j hL hk hip hpn hji qL htpL hsk hno
      have cxL := cx_fq cx qL
      refine exf_go 3 (show (900 ≤ (nI i) → Go (d + 7) true 89 105 [.ref 12, .ref 11, .int (nI n), .int (nI p), .int (nI i), z5, z6, z7] [] hL Q) ∧ (¬ (900 ≤ (nI i)) → Go (d + 7) true 89 18 [.ref 12, .ref 11, .int (nI n), .int (nI p), .int (nI i), z5, z6, z7] [] hL Q) from ⟨fun c1 => ?_, fun c1 => ?_⟩)
      · skip
        have c1 : 900 ≤ i := (nI_leI (a := 900) (b := i) (by omega) (by omega)).mp c1
        refine exf_go 5 (show wpC (d + 7) true 93 [.ref 12, .int 0, .int 0, .int (nI n)] hL (fun _ h' => Go (d + 7) true 89 112 [.ref 12, .ref 11, .int (nI n), .int (nI p), .int (nI i), z5, z6, z7] [] h' Q) from ?_)
        have hpe : p = n := by omega
        have hpj : tkP b n j = n := by rw [← hsk, hpe]; exact scF_n (fun q => absurd q.1 (by omega))
        have hk22 : kd b n j = 22 := by unfold kd; rw [hpj]; exact if_pos (Nat.le_refl _)
        refine c_pushT htpL (by omega) (by rw [hk22]; rfl) (fun e => absurd (hk22.symm.trans e) (by decide)) (by rw [hpj]) (fun h1 q1 htp1 => ?_)
        show Go (d + 7) true 89 112 [.ref 12, .ref 11, .int (nI n), .int (nI p), .int (nI i), z5, z6, z7] [] h1 Q
        refine exf_go 1 (show Q (mk_) h1 from ?_)
        exact k j _ (qL.tr q1) ⟨⟨by omega, htp1.1⟩, fun q hq => htp1.2 q (by omega), hno, Or.inl hk22⟩
      · skip
        have c1 : ¬ 900 ≤ i := fun q => c1 ((nI_leI (a := 900) (b := i) (by omega) (by omega)).mpr q)
        refine exf_go 3 (show ((nI n) ≤ (nI p) → Go (d + 7) true 89 105 [.ref 12, .ref 11, .int (nI n), .int (nI p), .int (nI i), z5, z6, z7] [] hL Q) ∧ (¬ ((nI n) ≤ (nI p)) → Go (d + 7) true 89 23 [.ref 12, .ref 11, .int (nI n), .int (nI p), .int (nI i), z5, z6, z7] [] hL Q) from ⟨fun c2 => ?_, fun c2 => ?_⟩)
        · skip
          have c2 : n ≤ p := (nI_leI (a := n) (b := p) (by omega) (by omega)).mp c2
          refine exf_go 5 (show wpC (d + 7) true 93 [.ref 12, .int 0, .int 0, .int (nI n)] hL (fun _ h' => Go (d + 7) true 89 112 [.ref 12, .ref 11, .int (nI n), .int (nI p), .int (nI i), z5, z6, z7] [] h' Q) from ?_)
          have hpe : p = n := by omega
          have hpj : tkP b n j = n := by rw [← hsk, hpe]; exact scF_n (fun q => absurd q.1 (by omega))
          have hk22 : kd b n j = 22 := by unfold kd; rw [hpj]; exact if_pos (Nat.le_refl _)
          refine c_pushT htpL (by omega) (by rw [hk22]; rfl) (fun e => absurd (hk22.symm.trans e) (by decide)) (by rw [hpj]) (fun h2 q2 htp2 => ?_)
          show Go (d + 7) true 89 112 [.ref 12, .ref 11, .int (nI n), .int (nI p), .int (nI i), z5, z6, z7] [] h2 Q
          refine exf_go 1 (show Q (mk_) h2 from ?_)
          exact k j _ (qL.tr q2) ⟨⟨by omega, htp2.1⟩, fun q hq => htp2.2 q (by omega), hno, Or.inl hk22⟩
        · skip
          have c2 : ¬ n ≤ p := fun q => c2 ((nI_leI (a := n) (b := p) (by omega) (by omega)).mpr q)
          refine exf_go 3 (show vp_in (nI p) 900 ∧ (Go (d + 7) true 89 26 [.ref 12, .ref 11, .int (nI n), .int (nI p), .int (nI i), z5, z6, z7] [.int (rI hL 11 ((nI p).toNatClampNeg))] hL Q) from ⟨(vp_in_nI (by omega) (by omega)), ?_⟩)
          rw [show (rI hL 11 ((nI p).toNatClampNeg) : Int32) = sb (b p) from by rw [nI_clamp (by omega)]; exact cxL.2 _ (by omega)]
          have hbb := cxL.1.2 p
          refine exf_go 4 (show ((sb (b p)) = 10 → Go (d + 7) true 89 42 [.ref 12, .ref 11, .int (nI n), .int (nI p), .int (nI i), .int (sb (b p)), z6, z7] [] hL Q) ∧ (¬ ((sb (b p)) = 10) → Go (d + 7) true 89 35 [.ref 12, .ref 11, .int (nI n), .int (nI p), .int (nI i), .int (sb (b p)), z6, z7] [] hL Q) from ⟨fun c3 => ?_, fun c3 => ?_⟩)
          · skip
            have c3 : b p = 10 := (sb_eq _ hbb).1.mp c3
            refine exf_go 1 (show Go (d + 7) true 89 45 [.ref 12, .ref 11, .int (nI n), .int ((nI p) + 1), .int (nI i), .int (sb (b p)), z6, z7] [] hL Q from ?_)
            rw [show ((nI p) + 1 : Int32) = nI (p + 1) from nI_add p 1]
            refine exf_go 2 (show Go (d + 7) true 89 102 [.ref 12, .ref 11, .int (nI n), .int (nI (p + 1)), .int ((nI i) + 1), .int (sb (b p)), z6, z7] [] hL Q from ?_)
            rw [show ((nI i) + 1 : Int32) = nI (i + 1) from nI_add i 1]
            refine exf_go 1 (show Go (d + 7) true 89 10 [.ref 12, .ref 11, .int (nI n), .int (nI (p + 1)), .int (nI (i + 1)), .int (sb (b p)), z6, z7] [] hL Q from ?_)
            exact ih10 (.int (sb (b p))) z6 z7 (i + 1) (p + 1) j hL (by omega) (by omega) (by omega) (by omega) qL htpL (by rw [← hsk]; exact (scF_y (q := fun i => spc (b i)) (by omega) (spc_y (by omega))).symm) hno
          · skip
            have c3 : ¬ b p = 10 := fun z => c3 ((sb_eq _ hbb).1.mpr z)
            refine exf_go 3 (show (¬ (sb (b p)) = 32 → Go (d + 7) true 89 48 [.ref 12, .ref 11, .int (nI n), .int (nI p), .int (nI i), .int (sb (b p)), z6, z7] [] hL Q) ∧ (¬ (¬ (sb (b p)) = 32) → Go (d + 7) true 89 42 [.ref 12, .ref 11, .int (nI n), .int (nI p), .int (nI i), .int (sb (b p)), z6, z7] [] hL Q) from ⟨fun c4 => ?_, fun c4 => ?_⟩)
            · skip
              have c4 : ¬ b p = 32 := fun z => c4 ((sb_eq _ hbb).2.mpr z)
              refine exf_go 4 (show wpC (d + 7) true 96 [.ref 11, .int (nI p), .int (nI n)] hL (fun r h' => Go (d + 7) true 89 54 [.ref 12, .ref 11, .int (nI n), .int (nI p), .int (nI i), .int (sb (b p)), z6, z7] [r] h' Q) from ?_)
              have hpj : tkP b n j = p := by rw [← hsk]; exact scF_n (fun q => absurd (q.2.symm.trans (spc_n (by omega) (by omega))) (by decide))
              have htb := tE_b (b := b) (n := n) (a := p) (by omega); have htl := tE_lt (b := b) (n := n) (a := p) (by omega); have hkl := kd_b b n j; have hcb := ckd_b (kd b n j) hkl
              have hkj : tK b n p = kd b n j := by unfold kd; rw [hpj]
              refine c_endOfRun cxL (a := p) (by omega) ?_
              show Go (d + 7) true 89 54 [.ref 12, .ref 11, .int (nI n), .int (nI p), .int (nI i), .int (sb (b p)), z6, z7] [.int (nI (tE b n p))] hL Q
              refine exf_go 5 (show wpC (d + 7) true 97 [.ref 11, .int (nI p), .int (nI (tE b n p))] hL (fun r h' => Go (d + 7) true 89 63 [.ref 12, .ref 11, .int (nI n), .int (nI p), .int (nI i), .int (sb (b p)), .int (nI (tE b n p)), z7] [r] h' Q) from ?_)
              refine c_kindOf cxL (a := p) (by omega) ?_
              rw [hkj]
              show Go (d + 7) true 89 63 [.ref 12, .ref 11, .int (nI n), .int (nI p), .int (nI i), .int (sb (b p)), .int (nI (tE b n p)), z7] [.int (nI (ckd (kd b n j)))] hL Q
              refine exf_go 6 (show (¬ (nI (ckd (kd b n j))) = 2 → Go (d + 7) true 89 84 [.ref 12, .ref 11, .int (nI n), .int (nI p), .int (nI i), .int (sb (b p)), .int (nI (tE b n p)), .int (nI (ckd (kd b n j)))] [.int (nI (ckd (kd b n j))), .ref 12] hL Q) ∧ (¬ (¬ (nI (ckd (kd b n j))) = 2) → Go (d + 7) true 89 74 [.ref 12, .ref 11, .int (nI n), .int (nI p), .int (nI i), .int (sb (b p)), .int (nI (tE b n p)), .int (nI (ckd (kd b n j)))] [.int (nI (ckd (kd b n j))), .ref 12] hL Q) from ⟨fun c5 => ?_, fun c5 => ?_⟩)
              · skip
                have c5 : ¬ (ckd (kd b n j)) = 2 := fun q => c5 ((nI_eq (a := (ckd (kd b n j))) (b := 2) (by omega) (by omega)).mpr q)
                refine exf_go 3 (show wpC (d + 7) true 93 [.ref 12, .int (nI (ckd (kd b n j))), .int 0, .int (nI p)] hL (fun _ h' => Go (d + 7) true 89 89 [.ref 12, .ref 11, .int (nI n), .int (nI p), .int (nI i), .int (sb (b p)), .int (nI (tE b n p)), .int (nI (ckd (kd b n j)))] [] h' Q) from ?_)
                refine c_pushT htpL (by omega) rfl (fun e => absurd (show ckd (kd b n j) = 2 from by rw [e]; rfl) (by omega)) (by rw [hpj]) (fun h3 q3 htp3 => ?_)
                show Go (d + 7) true 89 89 [.ref 12, .ref 11, .int (nI n), .int (nI p), .int (nI i), .int (sb (b p)), .int (nI (tE b n p)), .int (nI (ckd (kd b n j)))] [] h3 Q
                refine exf_go 3 (show (¬ (nI (ckd (kd b n j))) = 1 → Go (d + 7) true 89 96 [.ref 12, .ref 11, .int (nI n), .int (nI p), .int (nI i), .int (sb (b p)), .int (nI (tE b n p)), .int (nI (ckd (kd b n j)))] [] h3 Q) ∧ (¬ (¬ (nI (ckd (kd b n j))) = 1) → Go (d + 7) true 89 95 [.ref 12, .ref 11, .int (nI n), .int (nI p), .int (nI i), .int (sb (b p)), .int (nI (tE b n p)), .int (nI (ckd (kd b n j)))] [] h3 Q) from ⟨fun c6 => ?_, fun c6 => ?_⟩)
                · skip
                  have c6 : ¬ (ckd (kd b n j)) = 1 := fun q => c6 ((nI_eq (a := (ckd (kd b n j))) (b := 1) (by omega) (by omega)).mpr q)
                  refine exf_go 3 (show Go (d + 7) true 89 102 [.ref 12, .ref 11, .int (nI n), .int (nI (tE b n p)), .int ((nI i) + 1), .int (sb (b p)), .int (nI (tE b n p)), .int (nI (ckd (kd b n j)))] [] h3 Q from ?_)
                  rw [show ((nI i) + 1 : Int32) = nI (i + 1) from nI_add i 1]
                  refine exf_go 1 (show Go (d + 7) true 89 10 [.ref 12, .ref 11, .int (nI n), .int (nI (tE b n p)), .int (nI (i + 1)), .int (sb (b p)), .int (nI (tE b n p)), .int (nI (ckd (kd b n j)))] [] h3 Q from ?_)
                  have hn2 : ∀ q, q < j + 1 → ¬ kd b n q = 22 ∧ ¬ kd b n q = 23 := by
                    intro q hq
                    rcases Nat.lt_or_ge q j with z | z
                    · exact hno q z
                    · rw [show q = j from by omega]; exact ⟨fun z => absurd (tK_22 (hkj.trans z)) (by omega), fun z => absurd (show ckd (kd b n j) = 1 from by rw [z]; rfl) (by omega)⟩
                  exact ih10 (.int (sb (b p))) (.int (nI (tE b n p))) (.int (nI (ckd (kd b n j)))) (i + 1) (tE b n p) (j + 1) h3 (by omega) (by omega) htb.2 (by omega) (qL.tr q3) htp3 (by show skF b n (tE b n p) = skF b n (tE b n (tkP b n j)); rw [hpj]) hn2
                · skip
                  have c6 : (ckd (kd b n j)) = 1 := (nI_eq (a := (ckd (kd b n j))) (b := 1) (by omega) (by omega)).mp (Classical.not_not.mp c6)
                  refine exf_go 1 (show Q (mk_) h3 from ?_)
                  exact k j _ (qL.tr q3) ⟨⟨by omega, htp3.1⟩, fun q hq => htp3.2 q (by omega), hno, Or.inr ((ckd_inj _ hkl 23 (by decide)).mp (show ckd (kd b n j) = 1 from by omega))⟩
              · skip
                have c5 : (ckd (kd b n j)) = 2 := (nI_eq (a := (ckd (kd b n j))) (b := 2) (by omega) (by omega)).mp (Classical.not_not.mp c5)
                have c21 : ckd (kd b n j) = 2 := by omega
                refine exf_go 4 (show wpC (d + 7) true 98 [.ref 11, .int (nI p), .int (nI (tE b n p))] hL (fun r h' => Go (d + 7) true 89 81 [.ref 12, .ref 11, .int (nI n), .int (nI p), .int (nI i), .int (sb (b p)), .int (nI (tE b n p)), .int (nI (ckd (kd b n j)))] [r, .int (nI (ckd (kd b n j))), .ref 12] h' Q) from ?_)
                have hk21 : kd b n j = 21 := (ckd_inj _ hkl 21 (by decide)).mp c21
                obtain ⟨hd0, hd1, hd2⟩ := tK_21 (hkj.trans hk21) (by omega)
                refine c_valueOf cxL (a := p) (by omega) (e := tE b n p) (by omega) htb.2 hd1 hd2 ?_
                rw [show vlF b p (tE b n p - p) = vl b n j from by unfold vl tV; rw [hpj]]
                show Go (d + 7) true 89 81 [.ref 12, .ref 11, .int (nI n), .int (nI p), .int (nI i), .int (sb (b p)), .int (nI (tE b n p)), .int (nI (ckd (kd b n j)))] [.int (nI (vl b n j)), .int (nI (ckd (kd b n j))), .ref 12] hL Q
                refine exf_go 3 (show wpC (d + 7) true 93 [.ref 12, .int (nI (ckd (kd b n j))), .int (nI (vl b n j)), .int (nI p)] hL (fun _ h' => Go (d + 7) true 89 89 [.ref 12, .ref 11, .int (nI n), .int (nI p), .int (nI i), .int (sb (b p)), .int (nI (tE b n p)), .int (nI (ckd (kd b n j)))] [] h' Q) from ?_)
                refine c_pushT htpL (by omega) rfl (fun e => rfl) (by rw [hpj]) (fun h4 q4 htp4 => ?_)
                show Go (d + 7) true 89 89 [.ref 12, .ref 11, .int (nI n), .int (nI p), .int (nI i), .int (sb (b p)), .int (nI (tE b n p)), .int (nI (ckd (kd b n j)))] [] h4 Q
                refine exf_go 3 (show (¬ (nI (ckd (kd b n j))) = 1 → Go (d + 7) true 89 96 [.ref 12, .ref 11, .int (nI n), .int (nI p), .int (nI i), .int (sb (b p)), .int (nI (tE b n p)), .int (nI (ckd (kd b n j)))] [] h4 Q) ∧ (¬ (¬ (nI (ckd (kd b n j))) = 1) → Go (d + 7) true 89 95 [.ref 12, .ref 11, .int (nI n), .int (nI p), .int (nI i), .int (sb (b p)), .int (nI (tE b n p)), .int (nI (ckd (kd b n j)))] [] h4 Q) from ⟨fun c7 => ?_, fun c7 => ?_⟩)
                · skip
                  have c7 : ¬ (ckd (kd b n j)) = 1 := fun q => c7 ((nI_eq (a := (ckd (kd b n j))) (b := 1) (by omega) (by omega)).mpr q)
                  refine exf_go 3 (show Go (d + 7) true 89 102 [.ref 12, .ref 11, .int (nI n), .int (nI (tE b n p)), .int ((nI i) + 1), .int (sb (b p)), .int (nI (tE b n p)), .int (nI (ckd (kd b n j)))] [] h4 Q from ?_)
                  rw [show ((nI i) + 1 : Int32) = nI (i + 1) from nI_add i 1]
                  refine exf_go 1 (show Go (d + 7) true 89 10 [.ref 12, .ref 11, .int (nI n), .int (nI (tE b n p)), .int (nI (i + 1)), .int (sb (b p)), .int (nI (tE b n p)), .int (nI (ckd (kd b n j)))] [] h4 Q from ?_)
                  have hn2 : ∀ q, q < j + 1 → ¬ kd b n q = 22 ∧ ¬ kd b n q = 23 := by
                    intro q hq
                    rcases Nat.lt_or_ge q j with z | z
                    · exact hno q z
                    · rw [show q = j from by omega]; exact ⟨fun z => absurd (tK_22 (hkj.trans z)) (by omega), fun z => absurd (show ckd (kd b n j) = 1 from by rw [z]; rfl) (by omega)⟩
                  exact ih10 (.int (sb (b p))) (.int (nI (tE b n p))) (.int (nI (ckd (kd b n j)))) (i + 1) (tE b n p) (j + 1) h4 (by omega) (by omega) htb.2 (by omega) (qL.tr q4) htp4 (by show skF b n (tE b n p) = skF b n (tE b n (tkP b n j)); rw [hpj]) hn2
                · skip
                  have c7 : (ckd (kd b n j)) = 1 := (nI_eq (a := (ckd (kd b n j))) (b := 1) (by omega) (by omega)).mp (Classical.not_not.mp c7)
                  refine exf_go 1 (show Q (mk_) h4 from ?_)
                  exact k j _ (qL.tr q4) ⟨⟨by omega, htp4.1⟩, fun q hq => htp4.2 q (by omega), hno, Or.inr ((ckd_inj _ hkl 23 (by decide)).mp (show ckd (kd b n j) = 1 from by omega))⟩
            · skip
              have c4 : b p = 32 := (sb_eq _ hbb).2.mp (Classical.not_not.mp c4)
              refine exf_go 1 (show Go (d + 7) true 89 45 [.ref 12, .ref 11, .int (nI n), .int ((nI p) + 1), .int (nI i), .int (sb (b p)), z6, z7] [] hL Q from ?_)
              rw [show ((nI p) + 1 : Int32) = nI (p + 1) from nI_add p 1]
              refine exf_go 2 (show Go (d + 7) true 89 102 [.ref 12, .ref 11, .int (nI n), .int (nI (p + 1)), .int ((nI i) + 1), .int (sb (b p)), z6, z7] [] hL Q from ?_)
              rw [show ((nI i) + 1 : Int32) = nI (i + 1) from nI_add i 1]
              refine exf_go 1 (show Go (d + 7) true 89 10 [.ref 12, .ref 11, .int (nI n), .int (nI (p + 1)), .int (nI (i + 1)), .int (sb (b p)), z6, z7] [] hL Q from ?_)
              exact ih10 (.int (sb (b p))) z6 z7 (i + 1) (p + 1) j hL (by omega) (by omega) (by omega) (by omega) qL htpL (by rw [← hsk]; exact (scF_y (q := fun i => spc (b i)) (by omega) (spc_y (by omega))).symm) hno
  exact L10 (900 + 1) mk_ mk_ mk_ 0 0 0 _ (by omega) (by omega) (by omega) (by omega) (Fq.rfl'.uI' _ _ _ rfl) ⟨rfl, fun q hq => absurd hq (Nat.not_lt_zero _)⟩ rfl (fun q hq => absurd hq (Nat.not_lt_zero _))
