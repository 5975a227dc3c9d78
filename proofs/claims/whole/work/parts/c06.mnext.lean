/-! The model: the next token. -/
def sNx (a i : Nat) : Bool := Nat.beq a 130 && (Nat.beq i 6 || Nat.beq i 7 || Nat.beq i 9 || Nat.beq i 10)
theorem mx_fq {b : Nat → Nat} {n : Nat} {h h1 : Hp} (mx : MX b n h) (q : Fq sNx h h1) : MX b n h1 := ⟨mx.1, (q.1 130 8 rfl).1.trans mx.2.1, fun i hi => ((q.1 133 i rfl).1).trans (mx.2.2 i hi)⟩
theorem vl_b {b : Nat → Nat} (hb : ∀ i, b i < 256) (a : Nat) : ∀ i, vlF b a i ≤ (if i = 0 then 0 else if i = 1 then 300 else if i = 2 then 3300 else 33300)
  | 0 => by rw [vlF]; simp
  | i + 1 => by
    have h1 := vl_b hb a i
    have h2 := hb (a + i)
    rw [vlF]
    split at h1
    · subst_vars; (try simp at h2); simp; omega
    · split at h1
      · subst_vars; (try simp at h2); simp; omega
      · split at h1
        · subst_vars; (try simp at h2); simp; omega
        · rw [if_neg (show ¬ i < 3 from by omega), if_neg (by omega), if_neg (by omega), if_neg (by omega)]; exact h1
theorem vl_b2 {b : Nat → Nat} (hb : ∀ i, b i < 256) (a i : Nat) : vlF b a i ≤ 33300 := by
  have := vl_b hb a i
  split at this
  · omega
  · split at this
    · omega
    · split at this <;> omega
theorem vl_y {b : Nat → Nat} {a e : Nat} (hae : a ≤ e) (h : e - a < 3) (hd : dgt (b e) = true) : 10 * vlF b a (e - a) + b e - 48 = vlF b a (e + 1 - a) := by
  rw [show e + 1 - a = (e - a) + 1 from by omega, vlF, if_pos h, show a + (e - a) = e from by omega]
  have := of_decide_eq_true hd
  omega
theorem vl_n {b : Nat → Nat} {a e : Nat} (hae : a ≤ e) (h : ¬ e - a < 3) : vlF b a (e - a) = vlF b a (e + 1 - a) := by
  rw [show e + 1 - a = (e - a) + 1 from by omega, vlF, if_neg h]
theorem cb85 : ∀ j, j < 12 → cb 8 j = cb 5 j := by decide +kernel
theorem sg_b (c : Nat) : ∀ k, k ≤ 12 → 23 ≤ sgF c k ∧ sgF c k ≤ 36
  | 0, _ => by rw [sgF]; omega
  | k + 1, h => by rw [sgF]; split; omega; exact sg_b c k (by omega)
theorem spc_y {c : Nat} (h : c = 10 ∨ c = 32) : spc c = true := decide_eq_true h
theorem spc_n {c : Nat} (h1 : ¬ c = 10) (h2 : ¬ c = 32) : spc c = false := decide_eq_false (by omega)
theorem m_next {d : Nat} {h : Hp} {b : Nat → Nat} {n : Nat} {p : Nat} {Q : Po} (mx : MX b n h) (hp : rI h 130 7 = nI p) (hpn : p ≤ n) (k : ∀ h1, Fq sNx h h1 → rI h1 130 6 = nI (skF b n p) → rI h1 130 7 = nI (tE b n (skF b n p)) → rI h1 130 9 = nI (tK b n (skF b n p)) → (tK b n (skF b n p) = 21 → rI h1 130 10 = nI (tV b n (skF b n p))) → Q mk_ h1) : wpC (d + 6) true 191 [.ref 130] h Q := by
  have hn9 := mx.1.1
  refine go_in rfl ?_
  refine exf_go 3 (show Go (d + 5) true 191 5 [.ref 130, mk_] [.int (rI h 130 7), .ref 130] h Q from ?_)
  rw [show (rI h 130 7 : Int32) = nI p from hp]
  refine exf_go 1 (show Go (d + 5) true 191 8 [.ref 130, mk_] [] (uI h 130 6 (nI p)) Q from ?_)
  have L8 : ∀ (k8 : Nat) (z1 : Value) (a : Nat) (h1 : Hp), (n - a) < k8 → (p ≤ a) → (a ≤ n) → (Fq sNx h h1) → (rI h1 130 6 = nI a) → (skF b n p = skF b n a) → Go (d + 5) true 191 8 [.ref 130, z1] [] h1 Q := by
    intro k8
    induction k8 with
    | zero => intro z1 a h1 hk; exact absurd hk (Nat.not_lt_zero _)
    | succ k8 ih8 =>
      intro z1 a h1 hk ha0 han q1 ha1 hsk
      have mx1 := mx_fq mx q1
      refine exf_go 3 (show Go (d + 5) true 191 13 [.ref 130, z1] [.int (rI h1 130 6), .ref 130] h1 Q from ?_)
      rw [show (rI h1 130 6 : Int32) = nI a from ha1]
      refine exf_go 1 (show wpC (d + 5) true 187 [.ref 130, .int (nI a)] h1 (fun r h' => Go (d + 5) true 191 16 [.ref 130, z1] [r] h' Q) from ?_)
      refine m_see (p := a) mx1 (by omega) (fun hlt => ?_) (fun hlt => ?_)
      · skip
        have := mx.1.2 a
        show Go (d + 5) true 191 16 [.ref 130, z1] [.int (nI (b a))] h1 Q
        refine exf_go 2 (show ((nI (b a)) = 10 → Go (d + 5) true 191 34 [.ref 130, z1] [] h1 Q) ∧ (¬ ((nI (b a)) = 10) → Go (d + 5) true 191 21 [.ref 130, z1] [] h1 Q) from ⟨fun c1 => ?_, fun c1 => ?_⟩)
        · skip
          have c1 : (b a) = 10 := (nI_eq (a := (b a)) (b := 10) (by omega) (by omega)).mp c1
          refine exf_go 3 (show Go (d + 5) true 191 39 [.ref 130, z1] [.int (rI h1 130 6), .ref 130] h1 Q from ?_)
          rw [show (rI h1 130 6 : Int32) = nI a from ha1]
          refine exf_go 2 (show Go (d + 5) true 191 41 [.ref 130, z1] [.int ((nI a) + 1), .ref 130] h1 Q from ?_)
          rw [show ((nI a) + 1 : Int32) = nI (a + 1) from nI_add a 1]
          refine exf_go 2 (show Go (d + 5) true 191 8 [.ref 130, z1] [] (uI h1 130 6 (nI (a + 1))) Q from ?_)
          exact ih8 z1 (a + 1) _ (by omega) (by omega) (by omega) (q1.uI' _ _ _ rfl) rfl (by rw [hsk]; exact scF_y (by omega) (spc_y (by omega)))
        · skip
          have c1 : ¬ (b a) = 10 := fun q => c1 ((nI_eq (a := (b a)) (b := 10) (by omega) (by omega)).mpr q)
          refine exf_go 3 (show Go (d + 5) true 191 26 [.ref 130, z1] [.int (rI h1 130 6), .ref 130] h1 Q from ?_)
          rw [show (rI h1 130 6 : Int32) = nI a from ha1]
          refine exf_go 1 (show wpC (d + 5) true 187 [.ref 130, .int (nI a)] h1 (fun r h' => Go (d + 5) true 191 29 [.ref 130, z1] [r] h' Q) from ?_)
          refine m_see (p := a) mx1 (by omega) (fun _ => ?_) (fun hx => absurd (show a < n from by omega) hx)
          have := mx.1.2 a
          show Go (d + 5) true 191 29 [.ref 130, z1] [.int (nI (b a))] h1 Q
          refine exf_go 2 (show (¬ (nI (b a)) = 32 → Go (d + 5) true 191 47 [.ref 130, z1] [] h1 Q) ∧ (¬ (¬ (nI (b a)) = 32) → Go (d + 5) true 191 34 [.ref 130, z1] [] h1 Q) from ⟨fun c2 => ?_, fun c2 => ?_⟩)
          · skip
            have c2 : ¬ (b a) = 32 := fun q => c2 ((nI_eq (a := (b a)) (b := 32) (by omega) (by omega)).mpr q)
            refine exf_go 3 (show Go (d + 5) true 191 52 [.ref 130, z1] [.int (rI h1 130 6), .ref 130] h1 Q from ?_)
            rw [show (rI h1 130 6 : Int32) = nI a from ha1]
            refine exf_go 3 (show Go (d + 5) true 191 59 [.ref 130, z1] [.int (rI h1 130 6)] (uI h1 130 7 (nI a)) Q from ?_)
            rw [show (rI h1 130 6 : Int32) = nI a from ha1]
            refine exf_go 2 (show Go (d + 5) true 191 63 [.ref 130, z1] [.int (rI h1 130 8), .int (nI a)] (uI h1 130 7 (nI a)) Q from ?_)
            rw [show (rI h1 130 8 : Int32) = nI n from mx1.2.1]
            refine exf_go 1 (show ((nI a) < (nI n) → Go (d + 5) true 191 75 [.ref 130, z1] [] (uI h1 130 7 (nI a)) Q) ∧ (¬ ((nI a) < (nI n)) → Go (d + 5) true 191 66 [.ref 130, z1] [] (uI h1 130 7 (nI a)) Q) from ⟨fun c3 => ?_, fun c3 => ?_⟩)
            · skip
              have c3 : a < n := (nI_ltI (a := a) (b := n) (by omega) (by omega)).mp c3
              refine exf_go 3 (show Go (d + 5) true 191 80 [.ref 130, z1] [.int (rI h1 130 6), .ref 130] (uI h1 130 7 (nI a)) Q from ?_)
              rw [show (rI h1 130 6 : Int32) = nI a from ha1]
              refine exf_go 1 (show wpC (d + 5) true 187 [.ref 130, .int (nI a)] (uI h1 130 7 (nI a)) (fun r h' => Go (d + 5) true 191 83 [.ref 130, z1] [r] h' Q) from ?_)
              refine m_see (p := a) (mx_fq mx1 (Fq.uI' Fq.rfl' _ _ _ rfl)) (by omega) (fun _ => ?_) (fun hx => absurd (show a < n from by omega) hx)
              have := mx.1.2 a
              show Go (d + 5) true 191 83 [.ref 130, z1] [.int (nI (b a))] (uI h1 130 7 (nI a)) Q
              refine exf_go 1 (show wpC (d + 5) true 188 [.int (nI (b a))] (uI h1 130 7 (nI a)) (fun r h' => Go (d + 5) true 191 86 [.ref 130, z1] [r] h' Q) from ?_)
              refine m_small (c := b a) (by omega) (fun hqa => ?_) (fun hqa => ?_)
              · skip
                show Go (d + 5) true 191 86 [.ref 130, z1] [.int 1] (uI h1 130 7 (nI a)) Q
                refine exf_go 1 (show ((1 : Int32) = 0 → Go (d + 5) true 191 127 [.ref 130, z1] [] (uI h1 130 7 (nI a)) Q) ∧ (¬ ((1 : Int32) = 0) → Go (d + 5) true 191 89 [.ref 130, z1] [] (uI h1 130 7 (nI a)) Q) from ⟨fun c4 => ?_, fun c4 => ?_⟩)
                · skip
                  exact absurd c4 (by decide)
                · skip
                  have L89 : ∀ (k89 : Nat) (z1 : Value) (e : Nat) (h2 : Hp), (n - e) < k89 → (a ≤ e) → (e ≤ n) → (Fq sNx h h2) → (rI h2 130 6 = nI a) → (rI h2 130 7 = nI e) → (scF (fun i => sml (b i)) n a = scF (fun i => sml (b i)) n e) → Go (d + 5) true 191 89 [.ref 130, z1] [] h2 Q := by
                    intro k89
                    induction k89 with
                    | zero => intro z1 e h2 hk; exact absurd hk (Nat.not_lt_zero _)
                    | succ k89 ih89 =>
                      intro z1 e h2 hk hae hen q2 ha2 he2 hsc
                      have mx2 := mx_fq mx q2
                      refine exf_go 3 (show Go (d + 5) true 191 94 [.ref 130, z1] [.int (rI h2 130 7), .ref 130] h2 Q from ?_)
                      rw [show (rI h2 130 7 : Int32) = nI e from he2]
                      refine exf_go 1 (show wpC (d + 5) true 187 [.ref 130, .int (nI e)] h2 (fun r h' => Go (d + 5) true 191 97 [.ref 130, z1] [r] h' Q) from ?_)
                      refine m_see (p := e) mx2 (by omega) (fun hlt => ?_) (fun hlt => ?_)
                      · skip
                        have := mx.1.2 e
                        show Go (d + 5) true 191 97 [.ref 130, z1] [.int (nI (b e))] h2 Q
                        refine exf_go 1 (show wpC (d + 5) true 188 [.int (nI (b e))] h2 (fun r h' => Go (d + 5) true 191 100 [.ref 130, z1] [r] h' Q) from ?_)
                        refine m_small (c := b e) (by omega) (fun hqe => ?_) (fun hqe => ?_)
                        · skip
                          show Go (d + 5) true 191 100 [.ref 130, z1] [.int 1] h2 Q
                          refine exf_go 1 (show ((1 : Int32) = 0 → Go (d + 5) true 191 116 [.ref 130, z1] [] h2 Q) ∧ (¬ ((1 : Int32) = 0) → Go (d + 5) true 191 103 [.ref 130, z1] [] h2 Q) from ⟨fun c5 => ?_, fun c5 => ?_⟩)
                          · skip
                            exact absurd c5 (by decide)
                          · skip
                            refine exf_go 3 (show Go (d + 5) true 191 108 [.ref 130, z1] [.int (rI h2 130 7), .ref 130] h2 Q from ?_)
                            rw [show (rI h2 130 7 : Int32) = nI e from he2]
                            refine exf_go 2 (show Go (d + 5) true 191 110 [.ref 130, z1] [.int ((nI e) + 1), .ref 130] h2 Q from ?_)
                            rw [show ((nI e) + 1 : Int32) = nI (e + 1) from nI_add e 1]
                            refine exf_go 2 (show Go (d + 5) true 191 89 [.ref 130, z1] [] (uI h2 130 7 (nI (e + 1))) Q from ?_)
                            exact ih89 z1 (e + 1) _ (by omega) (by omega) (by omega) (q2.uI' _ _ _ rfl) ha2 rfl (by rw [hsc]; exact scF_y (q := fun i => sml (b i)) (by omega) hqe)
                        · skip
                          show Go (d + 5) true 191 100 [.ref 130, z1] [.int 0] h2 Q
                          refine exf_go 1 (show ((0 : Int32) = 0 → Go (d + 5) true 191 116 [.ref 130, z1] [] h2 Q) ∧ (¬ ((0 : Int32) = 0) → Go (d + 5) true 191 103 [.ref 130, z1] [] h2 Q) from ⟨fun c6 => ?_, fun c6 => ?_⟩)
                          · skip
                            refine exf_go 3 (show wpC (d + 5) true 190 [.ref 130] h2 (fun r h' => Go (d + 5) true 191 121 [.ref 130, z1] [r, .ref 130] h' Q) from ?_)
                            refine m_keyAt (a := a) (e := e) mx2 ha2 he2 (by omega) (by omega) ?_
                            have hwb := wk_b b a e 18 (by omega)
                            show Go (d + 5) true 191 121 [.ref 130, z1] [.int (nI (wkF b a e 18)), .ref 130] h2 Q
                            refine exf_go 3 (show Q (mk_) (uI h2 130 9 (nI (wkF b a e 18))) from ?_)
                            have hA : skF b n p = a := by rw [hsk]; exact scF_n (fun q => by have := of_decide_eq_true q.2; omega)
                            rw [hA] at k
                            have e1 : tE b n a = e := by unfold tE; rw [if_neg (by omega), if_pos hqa, hsc]; exact scF_n (fun q => absurd (q.2.symm.trans hqe) (by decide))
                            have e2 : tK b n a = wkF b a e 18 := by unfold tK; rw [if_neg (by omega), if_pos hqa, e1]
                            rw [e1, e2] at k
                            exact k _ (q2.uI' _ _ _ rfl) ha2 he2 rfl (fun q => by omega)
                          · skip
                            exact absurd (by decide) c6
                      · skip
                        show Go (d + 5) true 191 97 [.ref 130, z1] [.int (-1)] h2 Q
                        refine exf_go 1 (show wpC (d + 5) true 188 [.int (-1)] h2 (fun r h' => Go (d + 5) true 191 100 [.ref 130, z1] [r] h' Q) from ?_)
                        refine m_smallN (by decide) ?_
                        show Go (d + 5) true 191 100 [.ref 130, z1] [.int 0] h2 Q
                        refine exf_go 1 (show ((0 : Int32) = 0 → Go (d + 5) true 191 116 [.ref 130, z1] [] h2 Q) ∧ (¬ ((0 : Int32) = 0) → Go (d + 5) true 191 103 [.ref 130, z1] [] h2 Q) from ⟨fun c7 => ?_, fun c7 => ?_⟩)
                        · skip
                          refine exf_go 3 (show wpC (d + 5) true 190 [.ref 130] h2 (fun r h' => Go (d + 5) true 191 121 [.ref 130, z1] [r, .ref 130] h' Q) from ?_)
                          refine m_keyAt (a := a) (e := e) mx2 ha2 he2 (by omega) (by omega) ?_
                          have hwb := wk_b b a e 18 (by omega)
                          show Go (d + 5) true 191 121 [.ref 130, z1] [.int (nI (wkF b a e 18)), .ref 130] h2 Q
                          refine exf_go 3 (show Q (mk_) (uI h2 130 9 (nI (wkF b a e 18))) from ?_)
                          have hA : skF b n p = a := by rw [hsk]; exact scF_n (fun q => by have := of_decide_eq_true q.2; omega)
                          rw [hA] at k
                          have e1 : tE b n a = e := by unfold tE; rw [if_neg (by omega), if_pos hqa, hsc]; exact scF_n (fun q => hlt q.1)
                          have e2 : tK b n a = wkF b a e 18 := by unfold tK; rw [if_neg (by omega), if_pos hqa, e1]
                          rw [e1, e2] at k
                          exact k _ (q2.uI' _ _ _ rfl) ha2 he2 rfl (fun q => by omega)
                        · skip
                          exact absurd (by decide) c7
                  exact L89 (n + 1) z1 a _ (by omega) (by omega) (by omega) (q1.uI' _ _ _ rfl) ha1 rfl rfl
              · skip
                show Go (d + 5) true 191 86 [.ref 130, z1] [.int 0] (uI h1 130 7 (nI a)) Q
                refine exf_go 1 (show ((0 : Int32) = 0 → Go (d + 5) true 191 127 [.ref 130, z1] [] (uI h1 130 7 (nI a)) Q) ∧ (¬ ((0 : Int32) = 0) → Go (d + 5) true 191 89 [.ref 130, z1] [] (uI h1 130 7 (nI a)) Q) from ⟨fun c8 => ?_, fun c8 => ?_⟩)
                · skip
                  have hqa0 := hqa
                  refine exf_go 3 (show Go (d + 5) true 191 132 [.ref 130, z1] [.int (rI h1 130 6), .ref 130] (uI h1 130 7 (nI a)) Q from ?_)
                  rw [show (rI h1 130 6 : Int32) = nI a from ha1]
                  refine exf_go 1 (show wpC (d + 5) true 187 [.ref 130, .int (nI a)] (uI h1 130 7 (nI a)) (fun r h' => Go (d + 5) true 191 135 [.ref 130, z1] [r] h' Q) from ?_)
                  refine m_see (p := a) (mx_fq mx1 (Fq.uI' Fq.rfl' _ _ _ rfl)) (by omega) (fun _ => ?_) (fun hx => absurd (show a < n from by omega) hx)
                  have := mx.1.2 a
                  show Go (d + 5) true 191 135 [.ref 130, z1] [.int (nI (b a))] (uI h1 130 7 (nI a)) Q
                  refine exf_go 1 (show wpC (d + 5) true 189 [.int (nI (b a))] (uI h1 130 7 (nI a)) (fun r h' => Go (d + 5) true 191 138 [.ref 130, z1] [r] h' Q) from ?_)
                  refine m_digit (c := b a) (by omega) (fun hqa => ?_) (fun hqa => ?_)
                  · skip
                    show Go (d + 5) true 191 138 [.ref 130, z1] [.int 1] (uI h1 130 7 (nI a)) Q
                    refine exf_go 1 (show ((1 : Int32) = 0 → Go (d + 5) true 191 236 [.ref 130, z1] [] (uI h1 130 7 (nI a)) Q) ∧ (¬ ((1 : Int32) = 0) → Go (d + 5) true 191 141 [.ref 130, z1] [] (uI h1 130 7 (nI a)) Q) from ⟨fun c9 => ?_, fun c9 => ?_⟩)
                    · skip
                      exact absurd c9 (by decide)
                    · skip
                      refine exf_go 3 (show Go (d + 5) true 191 146 [.ref 130, z1] [] (uI (uI h1 130 7 (nI a)) 130 10 0) Q from ?_)
                      have L146 : ∀ (k146 : Nat) (z1 : Value) (e : Nat) (h3 : Hp), (n - e) < k146 → (a ≤ e) → (e ≤ n) → (Fq sNx h h3) → (rI h3 130 6 = nI a) → (rI h3 130 7 = nI e) → (rI h3 130 10 = nI (vlF b a (e - a))) → (scF (fun i => dgt (b i)) n a = scF (fun i => dgt (b i)) n e) → Go (d + 5) true 191 146 [.ref 130, z1] [] h3 Q := by
                        intro k146
                        induction k146 with
                        | zero => intro z1 e h3 hk; exact absurd hk (Nat.not_lt_zero _)
                        | succ k146 ih146 =>
                          intro z1 e h3 hk hae hen q3 ha3 he3 hv3 hsc
                          have mx3 := mx_fq mx q3
                          refine exf_go 3 (show Go (d + 5) true 191 151 [.ref 130, z1] [.int (rI h3 130 7), .ref 130] h3 Q from ?_)
                          rw [show (rI h3 130 7 : Int32) = nI e from he3]
                          refine exf_go 1 (show wpC (d + 5) true 187 [.ref 130, .int (nI e)] h3 (fun r h' => Go (d + 5) true 191 154 [.ref 130, z1] [r] h' Q) from ?_)
                          refine m_see (p := e) mx3 (by omega) (fun hlt => ?_) (fun hlt => ?_)
                          · skip
                            have := mx.1.2 e
                            show Go (d + 5) true 191 154 [.ref 130, z1] [.int (nI (b e))] h3 Q
                            refine exf_go 1 (show wpC (d + 5) true 189 [.int (nI (b e))] h3 (fun r h' => Go (d + 5) true 191 157 [.ref 130, z1] [r] h' Q) from ?_)
                            refine m_digit (c := b e) (by omega) (fun hqe => ?_) (fun hqe => ?_)
                            · skip
                              show Go (d + 5) true 191 157 [.ref 130, z1] [.int 1] h3 Q
                              refine exf_go 1 (show ((1 : Int32) = 0 → Go (d + 5) true 191 209 [.ref 130, z1] [] h3 Q) ∧ (¬ ((1 : Int32) = 0) → Go (d + 5) true 191 160 [.ref 130, z1] [] h3 Q) from ⟨fun c10 => ?_, fun c10 => ?_⟩)
                              · skip
                                exact absurd c10 (by decide)
                              · skip
                                refine exf_go 2 (show Go (d + 5) true 191 164 [.ref 130, z1] [.int (rI h3 130 7)] h3 Q from ?_)
                                rw [show (rI h3 130 7 : Int32) = nI e from he3]
                                refine exf_go 2 (show Go (d + 5) true 191 168 [.ref 130, z1] [.int (rI h3 130 6), .int (nI e)] h3 Q from ?_)
                                rw [show (rI h3 130 6 : Int32) = nI a from ha3]
                                refine exf_go 1 (show Go (d + 5) true 191 169 [.ref 130, z1] [.int ((nI e) - (nI a))] h3 Q from ?_)
                                rw [show ((nI e) - (nI a) : Int32) = nI (e - a) from pk_sub (a := e) (b := a) (by omega)]
                                refine exf_go 2 (show (3 ≤ (nI (e - a)) → Go (d + 5) true 191 196 [.ref 130, z1] [] h3 Q) ∧ (¬ (3 ≤ (nI (e - a))) → Go (d + 5) true 191 173 [.ref 130, z1] [] h3 Q) from ⟨fun c11 => ?_, fun c11 => ?_⟩)
                                · skip
                                  have c11 : 3 ≤ (e - a) := (nI_leI (a := 3) (b := (e - a)) (by omega) (by omega)).mp c11
                                  refine exf_go 3 (show Go (d + 5) true 191 201 [.ref 130, z1] [.int (rI h3 130 7), .ref 130] h3 Q from ?_)
                                  rw [show (rI h3 130 7 : Int32) = nI e from he3]
                                  refine exf_go 2 (show Go (d + 5) true 191 203 [.ref 130, z1] [.int ((nI e) + 1), .ref 130] h3 Q from ?_)
                                  rw [show ((nI e) + 1 : Int32) = nI (e + 1) from nI_add e 1]
                                  refine exf_go 2 (show Go (d + 5) true 191 146 [.ref 130, z1] [] (uI h3 130 7 (nI (e + 1))) Q from ?_)
                                  exact ih146 z1 (e + 1) _ (by omega) (by omega) (by omega) (q3.uI' _ _ _ rfl) ha3 rfl (by rw [← vl_n hae (by omega)]; exact hv3) (by rw [hsc]; exact scF_y (q := fun i => dgt (b i)) (by omega) hqe)
                                · skip
                                  have c11 : ¬ 3 ≤ (e - a) := fun q => c11 ((nI_leI (a := 3) (b := (e - a)) (by omega) (by omega)).mpr q)
                                  refine exf_go 4 (show Go (d + 5) true 191 180 [.ref 130, z1] [.int (rI h3 130 10), .int 10, .ref 130] h3 Q from ?_)
                                  rw [show (rI h3 130 10 : Int32) = nI (vlF b a (e - a)) from hv3]
                                  have hvb := vl_b2 mx.1.2 a (e - a)
                                  refine exf_go 1 (show Go (d + 5) true 191 181 [.ref 130, z1] [.int (10 * (nI (vlF b a (e - a)))), .ref 130] h3 Q from ?_)
                                  rw [show (10 * (nI (vlF b a (e - a))) : Int32) = nI (10 * (vlF b a (e - a))) from pk_mul 10 (vlF b a (e - a))]
                                  refine exf_go 3 (show Go (d + 5) true 191 186 [.ref 130, z1] [.int (rI h3 130 7), .ref 130, .int (nI (10 * (vlF b a (e - a)))), .ref 130] h3 Q from ?_)
                                  rw [show (rI h3 130 7 : Int32) = nI e from he3]
                                  refine exf_go 1 (show wpC (d + 5) true 187 [.ref 130, .int (nI e)] h3 (fun r h' => Go (d + 5) true 191 189 [.ref 130, z1] [r, .int (nI (10 * (vlF b a (e - a)))), .ref 130] h' Q) from ?_)
                                  refine m_see (p := e) mx3 (by omega) (fun _ => ?_) (fun hx => absurd (show e < n from by omega) hx)
                                  have := mx.1.2 e
                                  have hdq : 48 ≤ b e ∧ b e ≤ 57 := of_decide_eq_true hqe
                                  show Go (d + 5) true 191 189 [.ref 130, z1] [.int (nI (b e)), .int (nI (10 * (vlF b a (e - a)))), .ref 130] h3 Q
                                  refine exf_go 1 (show Go (d + 5) true 191 190 [.ref 130, z1] [.int ((nI (10 * (vlF b a (e - a)))) + (nI (b e))), .ref 130] h3 Q from ?_)
                                  rw [show ((nI (10 * (vlF b a (e - a)))) + (nI (b e)) : Int32) = nI ((10 * (vlF b a (e - a))) + (b e)) from nI_add (10 * (vlF b a (e - a))) (b e)]
                                  refine exf_go 2 (show Go (d + 5) true 191 193 [.ref 130, z1] [.int ((nI ((10 * (vlF b a (e - a))) + (b e))) - 48), .ref 130] h3 Q from ?_)
                                  rw [show ((nI ((10 * (vlF b a (e - a))) + (b e))) - 48 : Int32) = nI (((10 * (vlF b a (e - a))) + (b e)) - 48) from pk_sub (a := ((10 * (vlF b a (e - a))) + (b e))) (b := 48) (by omega)]
                                  refine exf_go 4 (show Go (d + 5) true 191 201 [.ref 130, z1] [.int (rI h3 130 7), .ref 130] (uI h3 130 10 (nI (((10 * (vlF b a (e - a))) + (b e)) - 48))) Q from ?_)
                                  rw [show (rI h3 130 7 : Int32) = nI e from he3]
                                  refine exf_go 2 (show Go (d + 5) true 191 203 [.ref 130, z1] [.int ((nI e) + 1), .ref 130] (uI h3 130 10 (nI (((10 * (vlF b a (e - a))) + (b e)) - 48))) Q from ?_)
                                  rw [show ((nI e) + 1 : Int32) = nI (e + 1) from nI_add e 1]
                                  refine exf_go 2 (show Go (d + 5) true 191 146 [.ref 130, z1] [] (uI (uI h3 130 10 (nI (((10 * (vlF b a (e - a))) + (b e)) - 48))) 130 7 (nI (e + 1))) Q from ?_)
                                  exact ih146 z1 (e + 1) _ (by omega) (by omega) (by omega) ((q3.uI' _ _ _ rfl).uI' _ _ _ rfl) ha3 rfl (by rw [← vl_y hae (by omega) hqe]; rfl) (by rw [hsc]; exact scF_y (q := fun i => dgt (b i)) (by omega) hqe)
                            · skip
                              show Go (d + 5) true 191 157 [.ref 130, z1] [.int 0] h3 Q
                              refine exf_go 1 (show ((0 : Int32) = 0 → Go (d + 5) true 191 209 [.ref 130, z1] [] h3 Q) ∧ (¬ ((0 : Int32) = 0) → Go (d + 5) true 191 160 [.ref 130, z1] [] h3 Q) from ⟨fun c12 => ?_, fun c12 => ?_⟩)
                              · skip
                                refine exf_go 3 (show Go (d + 5) true 191 214 [.ref 130, z1] [.int (rI h3 130 7), .ref 130] h3 Q from ?_)
                                rw [show (rI h3 130 7 : Int32) = nI e from he3]
                                refine exf_go 2 (show Go (d + 5) true 191 218 [.ref 130, z1] [.int (rI h3 130 6), .int (nI e), .ref 130] h3 Q from ?_)
                                rw [show (rI h3 130 6 : Int32) = nI a from ha3]
                                refine exf_go 1 (show Go (d + 5) true 191 219 [.ref 130, z1] [.int ((nI e) - (nI a)), .ref 130] h3 Q from ?_)
                                rw [show ((nI e) - (nI a) : Int32) = nI (e - a) from pk_sub (a := e) (b := a) (by omega)]
                                refine exf_go 2 (show ((nI (e - a)) ≤ 3 → Go (d + 5) true 191 228 [.ref 130, z1] [.ref 130] h3 Q) ∧ (¬ ((nI (e - a)) ≤ 3) → Go (d + 5) true 191 223 [.ref 130, z1] [.ref 130] h3 Q) from ⟨fun c13 => ?_, fun c13 => ?_⟩)
                                · skip
                                  have c13 : (e - a) ≤ 3 := (nI_leI (a := (e - a)) (b := 3) (by omega) (by omega)).mp c13
                                  refine exf_go 4 (show Q (mk_) (uI h3 130 9 21) from ?_)
                                  have hA : skF b n p = a := by rw [hsk]; exact scF_n (fun q => by have := of_decide_eq_true q.2; omega)
                                  rw [hA] at k
                                  have e1 : tE b n a = e := by unfold tE; rw [if_neg (by omega), if_neg (by rw [hqa0]; decide), if_pos hqa, hsc]; exact scF_n (fun q => absurd (q.2.symm.trans hqe) (by decide))
                                  have e2 : tK b n a = (if 3 < e - a then 23 else 21) := by unfold tK; rw [if_neg (by omega), if_neg (by rw [hqa0]; decide), if_pos hqa, e1]
                                  have e3 : tV b n a = vlF b a (e - a) := by unfold tV; rw [e1]
                                  rw [e1, e2, e3] at k
                                  rw [if_neg (by omega)] at k
                                  exact k _ (q3.uI' _ _ _ rfl) ha3 he3 rfl (fun _ => hv3)
                                · skip
                                  have c13 : ¬ (e - a) ≤ 3 := fun q => c13 ((nI_leI (a := (e - a)) (b := 3) (by omega) (by omega)).mpr q)
                                  refine exf_go 5 (show Q (mk_) (uI h3 130 9 23) from ?_)
                                  have hA : skF b n p = a := by rw [hsk]; exact scF_n (fun q => by have := of_decide_eq_true q.2; omega)
                                  rw [hA] at k
                                  have e1 : tE b n a = e := by unfold tE; rw [if_neg (by omega), if_neg (by rw [hqa0]; decide), if_pos hqa, hsc]; exact scF_n (fun q => absurd (q.2.symm.trans hqe) (by decide))
                                  have e2 : tK b n a = (if 3 < e - a then 23 else 21) := by unfold tK; rw [if_neg (by omega), if_neg (by rw [hqa0]; decide), if_pos hqa, e1]
                                  have e3 : tV b n a = vlF b a (e - a) := by unfold tV; rw [e1]
                                  rw [e1, e2, e3] at k
                                  rw [if_pos (by omega)] at k
                                  exact k _ (q3.uI' _ _ _ rfl) ha3 he3 rfl (fun _ => hv3)
                              · skip
                                exact absurd (by decide) c12
                          · skip
                            show Go (d + 5) true 191 154 [.ref 130, z1] [.int (-1)] h3 Q
                            refine exf_go 1 (show wpC (d + 5) true 189 [.int (-1)] h3 (fun r h' => Go (d + 5) true 191 157 [.ref 130, z1] [r] h' Q) from ?_)
                            refine m_digitN (by decide) ?_
                            show Go (d + 5) true 191 157 [.ref 130, z1] [.int 0] h3 Q
                            refine exf_go 1 (show ((0 : Int32) = 0 → Go (d + 5) true 191 209 [.ref 130, z1] [] h3 Q) ∧ (¬ ((0 : Int32) = 0) → Go (d + 5) true 191 160 [.ref 130, z1] [] h3 Q) from ⟨fun c14 => ?_, fun c14 => ?_⟩)
                            · skip
                              refine exf_go 3 (show Go (d + 5) true 191 214 [.ref 130, z1] [.int (rI h3 130 7), .ref 130] h3 Q from ?_)
                              rw [show (rI h3 130 7 : Int32) = nI e from he3]
                              refine exf_go 2 (show Go (d + 5) true 191 218 [.ref 130, z1] [.int (rI h3 130 6), .int (nI e), .ref 130] h3 Q from ?_)
                              rw [show (rI h3 130 6 : Int32) = nI a from ha3]
                              refine exf_go 1 (show Go (d + 5) true 191 219 [.ref 130, z1] [.int ((nI e) - (nI a)), .ref 130] h3 Q from ?_)
                              rw [show ((nI e) - (nI a) : Int32) = nI (e - a) from pk_sub (a := e) (b := a) (by omega)]
                              refine exf_go 2 (show ((nI (e - a)) ≤ 3 → Go (d + 5) true 191 228 [.ref 130, z1] [.ref 130] h3 Q) ∧ (¬ ((nI (e - a)) ≤ 3) → Go (d + 5) true 191 223 [.ref 130, z1] [.ref 130] h3 Q) from ⟨fun c15 => ?_, fun c15 => ?_⟩)
                              · skip
                                have c15 : (e - a) ≤ 3 := (nI_leI (a := (e - a)) (b := 3) (by omega) (by omega)).mp c15
                                refine exf_go 4 (show Q (mk_) (uI h3 130 9 21) from ?_)
                                have hA : skF b n p = a := by rw [hsk]; exact scF_n (fun q => by have := of_decide_eq_true q.2; omega)
                                rw [hA] at k
                                have e1 : tE b n a = e := by unfold tE; rw [if_neg (by omega), if_neg (by rw [hqa0]; decide), if_pos hqa, hsc]; exact scF_n (fun q => hlt q.1)
                                have e2 : tK b n a = (if 3 < e - a then 23 else 21) := by unfold tK; rw [if_neg (by omega), if_neg (by rw [hqa0]; decide), if_pos hqa, e1]
                                have e3 : tV b n a = vlF b a (e - a) := by unfold tV; rw [e1]
                                rw [e1, e2, e3] at k
                                rw [if_neg (by omega)] at k
                                exact k _ (q3.uI' _ _ _ rfl) ha3 he3 rfl (fun _ => hv3)
                              · skip
                                have c15 : ¬ (e - a) ≤ 3 := fun q => c15 ((nI_leI (a := (e - a)) (b := 3) (by omega) (by omega)).mpr q)
                                refine exf_go 5 (show Q (mk_) (uI h3 130 9 23) from ?_)
                                have hA : skF b n p = a := by rw [hsk]; exact scF_n (fun q => by have := of_decide_eq_true q.2; omega)
                                rw [hA] at k
                                have e1 : tE b n a = e := by unfold tE; rw [if_neg (by omega), if_neg (by rw [hqa0]; decide), if_pos hqa, hsc]; exact scF_n (fun q => hlt q.1)
                                have e2 : tK b n a = (if 3 < e - a then 23 else 21) := by unfold tK; rw [if_neg (by omega), if_neg (by rw [hqa0]; decide), if_pos hqa, e1]
                                have e3 : tV b n a = vlF b a (e - a) := by unfold tV; rw [e1]
                                rw [e1, e2, e3] at k
                                rw [if_pos (by omega)] at k
                                exact k _ (q3.uI' _ _ _ rfl) ha3 he3 rfl (fun _ => hv3)
                            · skip
                              exact absurd (by decide) c14
                      exact L146 (n + 1) z1 a _ (by omega) (by omega) (by omega) ((q1.uI' _ _ _ rfl).uI' _ _ _ rfl) ha1 rfl (by rw [Nat.sub_self]; rfl) rfl
                  · skip
                    show Go (d + 5) true 191 138 [.ref 130, z1] [.int 0] (uI h1 130 7 (nI a)) Q
                    refine exf_go 1 (show ((0 : Int32) = 0 → Go (d + 5) true 191 236 [.ref 130, z1] [] (uI h1 130 7 (nI a)) Q) ∧ (¬ ((0 : Int32) = 0) → Go (d + 5) true 191 141 [.ref 130, z1] [] (uI h1 130 7 (nI a)) Q) from ⟨fun c16 => ?_, fun c16 => ?_⟩)
                    · skip
                      refine exf_go 5 (show Go (d + 5) true 191 243 [.ref 130, z1] [.int ((nI a) + 1), .ref 130] (uI h1 130 7 (nI a)) Q from ?_)
                      rw [show ((nI a) + 1 : Int32) = nI (a + 1) from nI_add a 1]
                      refine exf_go 6 (show Go (d + 5) true 191 254 [.ref 130, .int 0] [] (uI (uI (uI h1 130 7 (nI a)) 130 7 (nI (a + 1))) 130 9 23) Q from ?_)
                      have L254 : ∀ (k254 : Nat) (j : Nat) (h4 : Hp), (12 - j) < k254 → (j ≤ 12) → (Fq sNx h h4) → (rI h4 130 6 = nI a) → (rI h4 130 7 = nI (a + 1)) → (rI h4 130 9 = nI (sgF (b a) j)) → Go (d + 5) true 191 254 [.ref 130, .int (nI j)] [] h4 Q := by
                        intro k254
                        induction k254 with
                        | zero => intro j h4 hk; exact absurd hk (Nat.not_lt_zero _)
                        | succ k254 ih254 =>
                          intro j h4 hk hj q4 ha4 he4 hk4
                          have mx4 := mx_fq mx q4
                          refine exf_go 3 (show wpC (d + 5) true 306 [.ref 4] h4 (fun r h' => Go (d + 5) true 191 260 [.ref 130, .int (nI j)] [r, .int (nI j)] h' Q) from ?_)
                          refine j_len4 ?_
                          show Go (d + 5) true 191 260 [.ref 130, .int (nI j)] [.int (nI 12), .int (nI j)] h4 Q
                          refine exf_go 1 (show ((nI 12) ≤ (nI j) → Go (d + 5) true 191 294 [.ref 130, .int (nI j)] [] h4 Q) ∧ (¬ ((nI 12) ≤ (nI j)) → Go (d + 5) true 191 263 [.ref 130, .int (nI j)] [] h4 Q) from ⟨fun c17 => ?_, fun c17 => ?_⟩)
                          · skip
                            have c17 : 12 ≤ j := (nI_leI (a := 12) (b := j) (by omega) (by omega)).mp c17
                            refine exf_go 1 (show Q (mk_) h4 from ?_)
                            have hA : skF b n p = a := by rw [hsk]; exact scF_n (fun q => by have := of_decide_eq_true q.2; omega)
                            rw [hA] at k
                            have e1 : tE b n a = a + 1 := by unfold tE; rw [if_neg (by omega), if_neg (by rw [hqa0]; decide), if_neg (by rw [hqa]; decide)]
                            have e2 : tK b n a = sgF (b a) 12 := by unfold tK; rw [if_neg (by omega), if_neg (by rw [hqa0]; decide), if_neg (by rw [hqa]; decide)]
                            rw [e1, e2] at k
                            exact k _ q4 ha4 he4 (by rw [← show j = 12 from by omega]; exact hk4) (fun q => by have := sg_b (b a) 12 (by omega); omega)
                          · skip
                            have c17 : ¬ 12 ≤ j := fun q => c17 ((nI_leI (a := 12) (b := j) (by omega) (by omega)).mpr q)
                            refine exf_go 3 (show Go (d + 5) true 191 268 [.ref 130, .int (nI j)] [.int (rI h4 130 6), .ref 130] h4 Q from ?_)
                            rw [show (rI h4 130 6 : Int32) = nI a from ha4]
                            refine exf_go 1 (show wpC (d + 5) true 187 [.ref 130, .int (nI a)] h4 (fun r h' => Go (d + 5) true 191 271 [.ref 130, .int (nI j)] [r] h' Q) from ?_)
                            refine m_see (p := a) mx4 (by omega) (fun _ => ?_) (fun hx => absurd (show a < n from by omega) hx)
                            have := mx.1.2 a
                            show Go (d + 5) true 191 271 [.ref 130, .int (nI j)] [.int (nI (b a))] h4 Q
                            refine exf_go 3 (show wpC (d + 5) true 307 [.ref 4, .int (nI j)] h4 (fun r h' => Go (d + 5) true 191 277 [.ref 130, .int (nI j)] [r, .int (nI (b a))] h' Q) from ?_)
                            refine j_char4 (i := j) (by omega) ?_
                            rw [cb85 j (by omega)]
                            have hcj := (cb5 j (by omega)).2
                            show Go (d + 5) true 191 277 [.ref 130, .int (nI j)] [.int (nI (cb 5 j)), .int (nI (b a))] h4 Q
                            refine exf_go 1 (show (¬ (nI (b a)) = (nI (cb 5 j)) → Go (d + 5) true 191 288 [.ref 130, .int (nI j)] [] h4 Q) ∧ (¬ (¬ (nI (b a)) = (nI (cb 5 j))) → Go (d + 5) true 191 280 [.ref 130, .int (nI j)] [] h4 Q) from ⟨fun c18 => ?_, fun c18 => ?_⟩)
                            · skip
                              have c18 : ¬ (b a) = (cb 5 j) := fun q => c18 ((nI_eq (a := (b a)) (b := (cb 5 j)) (by omega) (by omega)).mpr q)
                              refine exf_go 1 (show Go (d + 5) true 191 291 [.ref 130, .int ((nI j) + 1)] [] h4 Q from ?_)
                              rw [show ((nI j) + 1 : Int32) = nI (j + 1) from nI_add j 1]
                              refine exf_go 1 (show Go (d + 5) true 191 254 [.ref 130, .int (nI (j + 1))] [] h4 Q from ?_)
                              exact ih254 (j + 1) _ (by omega) (by omega) q4 ha4 he4 (by rw [sgF, if_neg (by omega)]; exact hk4)
                            · skip
                              have c18 : (b a) = (cb 5 j) := (nI_eq (a := (b a)) (b := (cb 5 j)) (by omega) (by omega)).mp (Classical.not_not.mp c18)
                              refine exf_go 4 (show Go (d + 5) true 191 285 [.ref 130, .int (nI j)] [.int (25 + (nI j)), .ref 130] h4 Q from ?_)
                              rw [show (25 + (nI j) : Int32) = nI (25 + j) from nI_add 25 j]
                              refine exf_go 2 (show Go (d + 5) true 191 291 [.ref 130, .int ((nI j) + 1)] [] (uI h4 130 9 (nI (25 + j))) Q from ?_)
                              rw [show ((nI j) + 1 : Int32) = nI (j + 1) from nI_add j 1]
                              refine exf_go 1 (show Go (d + 5) true 191 254 [.ref 130, .int (nI (j + 1))] [] (uI h4 130 9 (nI (25 + j))) Q from ?_)
                              exact ih254 (j + 1) _ (by omega) (by omega) (q4.uI' _ _ _ rfl) ha4 he4 (by rw [sgF, if_pos (by omega)]; rfl)
                      exact L254 (12 + 1) 0 _ (by omega) (by omega) (((q1.uI' _ _ _ rfl).uI' _ _ _ rfl).uI' _ _ _ rfl) ha1 rfl rfl
                    · skip
                      exact absurd (by decide) c16
                · skip
                  exact absurd (by decide) c8
            · skip
              have c3 : ¬ a < n := fun q => c3 ((nI_ltI (a := a) (b := n) (by omega) (by omega)).mpr q)
              refine exf_go 5 (show Q (mk_) (uI (uI h1 130 7 (nI a)) 130 9 22) from ?_)
              have hA : skF b n p = a := by rw [hsk]; exact scF_n (fun q => by have := of_decide_eq_true q.2; omega)
              rw [hA] at k
              have e1 : tE b n a = a := if_pos (by omega)
              have e2 : tK b n a = 22 := if_pos (by omega)
              rw [e1, e2] at k
              exact k _ ((q1.uI' _ _ _ rfl).uI' _ _ _ rfl) ha1 rfl rfl (fun q => absurd q (by decide))
          · skip
            have c2 : (b a) = 32 := (nI_eq (a := (b a)) (b := 32) (by omega) (by omega)).mp (Classical.not_not.mp c2)
            refine exf_go 3 (show Go (d + 5) true 191 39 [.ref 130, z1] [.int (rI h1 130 6), .ref 130] h1 Q from ?_)
            rw [show (rI h1 130 6 : Int32) = nI a from ha1]
            refine exf_go 2 (show Go (d + 5) true 191 41 [.ref 130, z1] [.int ((nI a) + 1), .ref 130] h1 Q from ?_)
            rw [show ((nI a) + 1 : Int32) = nI (a + 1) from nI_add a 1]
            refine exf_go 2 (show Go (d + 5) true 191 8 [.ref 130, z1] [] (uI h1 130 6 (nI (a + 1))) Q from ?_)
            exact ih8 z1 (a + 1) _ (by omega) (by omega) (by omega) (q1.uI' _ _ _ rfl) rfl (by rw [hsk]; exact scF_y (by omega) (spc_y (by omega)))
      · skip
        show Go (d + 5) true 191 16 [.ref 130, z1] [.int (-1)] h1 Q
        refine exf_go 2 (show (((-1) : Int32) = 10 → Go (d + 5) true 191 34 [.ref 130, z1] [] h1 Q) ∧ (¬ (((-1) : Int32) = 10) → Go (d + 5) true 191 21 [.ref 130, z1] [] h1 Q) from ⟨fun c19 => ?_, fun c19 => ?_⟩)
        · skip
          exact absurd c19 (by decide)
        · skip
          refine exf_go 3 (show Go (d + 5) true 191 26 [.ref 130, z1] [.int (rI h1 130 6), .ref 130] h1 Q from ?_)
          rw [show (rI h1 130 6 : Int32) = nI a from ha1]
          refine exf_go 1 (show wpC (d + 5) true 187 [.ref 130, .int (nI a)] h1 (fun r h' => Go (d + 5) true 191 29 [.ref 130, z1] [r] h' Q) from ?_)
          refine m_see (p := a) mx1 (by omega) (fun hx => absurd hx hlt) (fun _ => ?_)
          show Go (d + 5) true 191 29 [.ref 130, z1] [.int (-1)] h1 Q
          refine exf_go 2 (show (¬ ((-1) : Int32) = 32 → Go (d + 5) true 191 47 [.ref 130, z1] [] h1 Q) ∧ (¬ (¬ ((-1) : Int32) = 32) → Go (d + 5) true 191 34 [.ref 130, z1] [] h1 Q) from ⟨fun c20 => ?_, fun c20 => ?_⟩)
          · skip
            refine exf_go 3 (show Go (d + 5) true 191 52 [.ref 130, z1] [.int (rI h1 130 6), .ref 130] h1 Q from ?_)
            rw [show (rI h1 130 6 : Int32) = nI a from ha1]
            refine exf_go 3 (show Go (d + 5) true 191 59 [.ref 130, z1] [.int (rI h1 130 6)] (uI h1 130 7 (nI a)) Q from ?_)
            rw [show (rI h1 130 6 : Int32) = nI a from ha1]
            refine exf_go 2 (show Go (d + 5) true 191 63 [.ref 130, z1] [.int (rI h1 130 8), .int (nI a)] (uI h1 130 7 (nI a)) Q from ?_)
            rw [show (rI h1 130 8 : Int32) = nI n from mx1.2.1]
            refine exf_go 1 (show ((nI a) < (nI n) → Go (d + 5) true 191 75 [.ref 130, z1] [] (uI h1 130 7 (nI a)) Q) ∧ (¬ ((nI a) < (nI n)) → Go (d + 5) true 191 66 [.ref 130, z1] [] (uI h1 130 7 (nI a)) Q) from ⟨fun c21 => ?_, fun c21 => ?_⟩)
            · skip
              have c21 : a < n := (nI_ltI (a := a) (b := n) (by omega) (by omega)).mp c21
              refine exf_go 3 (show Go (d + 5) true 191 80 [.ref 130, z1] [.int (rI h1 130 6), .ref 130] (uI h1 130 7 (nI a)) Q from ?_)
              rw [show (rI h1 130 6 : Int32) = nI a from ha1]
              refine exf_go 1 (show wpC (d + 5) true 187 [.ref 130, .int (nI a)] (uI h1 130 7 (nI a)) (fun r h' => Go (d + 5) true 191 83 [.ref 130, z1] [r] h' Q) from ?_)
              refine m_see (p := a) (mx_fq mx1 (Fq.uI' Fq.rfl' _ _ _ rfl)) (by omega) (fun _ => ?_) (fun hx => absurd (show a < n from by omega) hx)
              have := mx.1.2 a
              show Go (d + 5) true 191 83 [.ref 130, z1] [.int (nI (b a))] (uI h1 130 7 (nI a)) Q
              refine exf_go 1 (show wpC (d + 5) true 188 [.int (nI (b a))] (uI h1 130 7 (nI a)) (fun r h' => Go (d + 5) true 191 86 [.ref 130, z1] [r] h' Q) from ?_)
              refine m_small (c := b a) (by omega) (fun hqa => ?_) (fun hqa => ?_)
              · skip
                show Go (d + 5) true 191 86 [.ref 130, z1] [.int 1] (uI h1 130 7 (nI a)) Q
                refine exf_go 1 (show ((1 : Int32) = 0 → Go (d + 5) true 191 127 [.ref 130, z1] [] (uI h1 130 7 (nI a)) Q) ∧ (¬ ((1 : Int32) = 0) → Go (d + 5) true 191 89 [.ref 130, z1] [] (uI h1 130 7 (nI a)) Q) from ⟨fun c22 => ?_, fun c22 => ?_⟩)
                · skip
                  exact absurd c22 (by decide)
                · skip
                  have L89 : ∀ (k89 : Nat) (z1 : Value) (e : Nat) (h2 : Hp), (n - e) < k89 → (a ≤ e) → (e ≤ n) → (Fq sNx h h2) → (rI h2 130 6 = nI a) → (rI h2 130 7 = nI e) → (scF (fun i => sml (b i)) n a = scF (fun i => sml (b i)) n e) → Go (d + 5) true 191 89 [.ref 130, z1] [] h2 Q := by
                    intro k89
                    induction k89 with
                    | zero => intro z1 e h2 hk; exact absurd hk (Nat.not_lt_zero _)
                    | succ k89 ih89 =>
                      intro z1 e h2 hk hae hen q2 ha2 he2 hsc
                      have mx2 := mx_fq mx q2
                      refine exf_go 3 (show Go (d + 5) true 191 94 [.ref 130, z1] [.int (rI h2 130 7), .ref 130] h2 Q from ?_)
                      rw [show (rI h2 130 7 : Int32) = nI e from he2]
                      refine exf_go 1 (show wpC (d + 5) true 187 [.ref 130, .int (nI e)] h2 (fun r h' => Go (d + 5) true 191 97 [.ref 130, z1] [r] h' Q) from ?_)
                      refine m_see (p := e) mx2 (by omega) (fun hlt => ?_) (fun hlt => ?_)
                      · skip
                        have := mx.1.2 e
                        show Go (d + 5) true 191 97 [.ref 130, z1] [.int (nI (b e))] h2 Q
                        refine exf_go 1 (show wpC (d + 5) true 188 [.int (nI (b e))] h2 (fun r h' => Go (d + 5) true 191 100 [.ref 130, z1] [r] h' Q) from ?_)
                        refine m_small (c := b e) (by omega) (fun hqe => ?_) (fun hqe => ?_)
                        · skip
                          show Go (d + 5) true 191 100 [.ref 130, z1] [.int 1] h2 Q
                          refine exf_go 1 (show ((1 : Int32) = 0 → Go (d + 5) true 191 116 [.ref 130, z1] [] h2 Q) ∧ (¬ ((1 : Int32) = 0) → Go (d + 5) true 191 103 [.ref 130, z1] [] h2 Q) from ⟨fun c23 => ?_, fun c23 => ?_⟩)
                          · skip
                            exact absurd c23 (by decide)
                          · skip
                            refine exf_go 3 (show Go (d + 5) true 191 108 [.ref 130, z1] [.int (rI h2 130 7), .ref 130] h2 Q from ?_)
                            rw [show (rI h2 130 7 : Int32) = nI e from he2]
                            refine exf_go 2 (show Go (d + 5) true 191 110 [.ref 130, z1] [.int ((nI e) + 1), .ref 130] h2 Q from ?_)
                            rw [show ((nI e) + 1 : Int32) = nI (e + 1) from nI_add e 1]
                            refine exf_go 2 (show Go (d + 5) true 191 89 [.ref 130, z1] [] (uI h2 130 7 (nI (e + 1))) Q from ?_)
                            exact ih89 z1 (e + 1) _ (by omega) (by omega) (by omega) (q2.uI' _ _ _ rfl) ha2 rfl (by rw [hsc]; exact scF_y (q := fun i => sml (b i)) (by omega) hqe)
                        · skip
                          show Go (d + 5) true 191 100 [.ref 130, z1] [.int 0] h2 Q
                          refine exf_go 1 (show ((0 : Int32) = 0 → Go (d + 5) true 191 116 [.ref 130, z1] [] h2 Q) ∧ (¬ ((0 : Int32) = 0) → Go (d + 5) true 191 103 [.ref 130, z1] [] h2 Q) from ⟨fun c24 => ?_, fun c24 => ?_⟩)
                          · skip
                            refine exf_go 3 (show wpC (d + 5) true 190 [.ref 130] h2 (fun r h' => Go (d + 5) true 191 121 [.ref 130, z1] [r, .ref 130] h' Q) from ?_)
                            refine m_keyAt (a := a) (e := e) mx2 ha2 he2 (by omega) (by omega) ?_
                            have hwb := wk_b b a e 18 (by omega)
                            show Go (d + 5) true 191 121 [.ref 130, z1] [.int (nI (wkF b a e 18)), .ref 130] h2 Q
                            refine exf_go 3 (show Q (mk_) (uI h2 130 9 (nI (wkF b a e 18))) from ?_)
                            have hA : skF b n p = a := by rw [hsk]; exact scF_n (fun q => by have := of_decide_eq_true q.2; omega)
                            rw [hA] at k
                            have e1 : tE b n a = e := by unfold tE; rw [if_neg (by omega), if_pos hqa, hsc]; exact scF_n (fun q => absurd (q.2.symm.trans hqe) (by decide))
                            have e2 : tK b n a = wkF b a e 18 := by unfold tK; rw [if_neg (by omega), if_pos hqa, e1]
                            rw [e1, e2] at k
                            exact k _ (q2.uI' _ _ _ rfl) ha2 he2 rfl (fun q => by omega)
                          · skip
                            exact absurd (by decide) c24
                      · skip
                        show Go (d + 5) true 191 97 [.ref 130, z1] [.int (-1)] h2 Q
                        refine exf_go 1 (show wpC (d + 5) true 188 [.int (-1)] h2 (fun r h' => Go (d + 5) true 191 100 [.ref 130, z1] [r] h' Q) from ?_)
                        refine m_smallN (by decide) ?_
                        show Go (d + 5) true 191 100 [.ref 130, z1] [.int 0] h2 Q
                        refine exf_go 1 (show ((0 : Int32) = 0 → Go (d + 5) true 191 116 [.ref 130, z1] [] h2 Q) ∧ (¬ ((0 : Int32) = 0) → Go (d + 5) true 191 103 [.ref 130, z1] [] h2 Q) from ⟨fun c25 => ?_, fun c25 => ?_⟩)
                        · skip
                          refine exf_go 3 (show wpC (d + 5) true 190 [.ref 130] h2 (fun r h' => Go (d + 5) true 191 121 [.ref 130, z1] [r, .ref 130] h' Q) from ?_)
                          refine m_keyAt (a := a) (e := e) mx2 ha2 he2 (by omega) (by omega) ?_
                          have hwb := wk_b b a e 18 (by omega)
                          show Go (d + 5) true 191 121 [.ref 130, z1] [.int (nI (wkF b a e 18)), .ref 130] h2 Q
                          refine exf_go 3 (show Q (mk_) (uI h2 130 9 (nI (wkF b a e 18))) from ?_)
                          have hA : skF b n p = a := by rw [hsk]; exact scF_n (fun q => by have := of_decide_eq_true q.2; omega)
                          rw [hA] at k
                          have e1 : tE b n a = e := by unfold tE; rw [if_neg (by omega), if_pos hqa, hsc]; exact scF_n (fun q => hlt q.1)
                          have e2 : tK b n a = wkF b a e 18 := by unfold tK; rw [if_neg (by omega), if_pos hqa, e1]
                          rw [e1, e2] at k
                          exact k _ (q2.uI' _ _ _ rfl) ha2 he2 rfl (fun q => by omega)
                        · skip
                          exact absurd (by decide) c25
                  exact L89 (n + 1) z1 a _ (by omega) (by omega) (by omega) (q1.uI' _ _ _ rfl) ha1 rfl rfl
              · skip
                show Go (d + 5) true 191 86 [.ref 130, z1] [.int 0] (uI h1 130 7 (nI a)) Q
                refine exf_go 1 (show ((0 : Int32) = 0 → Go (d + 5) true 191 127 [.ref 130, z1] [] (uI h1 130 7 (nI a)) Q) ∧ (¬ ((0 : Int32) = 0) → Go (d + 5) true 191 89 [.ref 130, z1] [] (uI h1 130 7 (nI a)) Q) from ⟨fun c26 => ?_, fun c26 => ?_⟩)
                · skip
                  have hqa0 := hqa
                  refine exf_go 3 (show Go (d + 5) true 191 132 [.ref 130, z1] [.int (rI h1 130 6), .ref 130] (uI h1 130 7 (nI a)) Q from ?_)
                  rw [show (rI h1 130 6 : Int32) = nI a from ha1]
                  refine exf_go 1 (show wpC (d + 5) true 187 [.ref 130, .int (nI a)] (uI h1 130 7 (nI a)) (fun r h' => Go (d + 5) true 191 135 [.ref 130, z1] [r] h' Q) from ?_)
                  refine m_see (p := a) (mx_fq mx1 (Fq.uI' Fq.rfl' _ _ _ rfl)) (by omega) (fun _ => ?_) (fun hx => absurd (show a < n from by omega) hx)
                  have := mx.1.2 a
                  show Go (d + 5) true 191 135 [.ref 130, z1] [.int (nI (b a))] (uI h1 130 7 (nI a)) Q
                  refine exf_go 1 (show wpC (d + 5) true 189 [.int (nI (b a))] (uI h1 130 7 (nI a)) (fun r h' => Go (d + 5) true 191 138 [.ref 130, z1] [r] h' Q) from ?_)
                  refine m_digit (c := b a) (by omega) (fun hqa => ?_) (fun hqa => ?_)
                  · skip
                    show Go (d + 5) true 191 138 [.ref 130, z1] [.int 1] (uI h1 130 7 (nI a)) Q
                    refine exf_go 1 (show ((1 : Int32) = 0 → Go (d + 5) true 191 236 [.ref 130, z1] [] (uI h1 130 7 (nI a)) Q) ∧ (¬ ((1 : Int32) = 0) → Go (d + 5) true 191 141 [.ref 130, z1] [] (uI h1 130 7 (nI a)) Q) from ⟨fun c27 => ?_, fun c27 => ?_⟩)
                    · skip
                      exact absurd c27 (by decide)
                    · skip
                      refine exf_go 3 (show Go (d + 5) true 191 146 [.ref 130, z1] [] (uI (uI h1 130 7 (nI a)) 130 10 0) Q from ?_)
                      have L146 : ∀ (k146 : Nat) (z1 : Value) (e : Nat) (h3 : Hp), (n - e) < k146 → (a ≤ e) → (e ≤ n) → (Fq sNx h h3) → (rI h3 130 6 = nI a) → (rI h3 130 7 = nI e) → (rI h3 130 10 = nI (vlF b a (e - a))) → (scF (fun i => dgt (b i)) n a = scF (fun i => dgt (b i)) n e) → Go (d + 5) true 191 146 [.ref 130, z1] [] h3 Q := by
                        intro k146
                        induction k146 with
                        | zero => intro z1 e h3 hk; exact absurd hk (Nat.not_lt_zero _)
                        | succ k146 ih146 =>
                          intro z1 e h3 hk hae hen q3 ha3 he3 hv3 hsc
                          have mx3 := mx_fq mx q3
                          refine exf_go 3 (show Go (d + 5) true 191 151 [.ref 130, z1] [.int (rI h3 130 7), .ref 130] h3 Q from ?_)
                          rw [show (rI h3 130 7 : Int32) = nI e from he3]
                          refine exf_go 1 (show wpC (d + 5) true 187 [.ref 130, .int (nI e)] h3 (fun r h' => Go (d + 5) true 191 154 [.ref 130, z1] [r] h' Q) from ?_)
                          refine m_see (p := e) mx3 (by omega) (fun hlt => ?_) (fun hlt => ?_)
                          · skip
                            have := mx.1.2 e
                            show Go (d + 5) true 191 154 [.ref 130, z1] [.int (nI (b e))] h3 Q
                            refine exf_go 1 (show wpC (d + 5) true 189 [.int (nI (b e))] h3 (fun r h' => Go (d + 5) true 191 157 [.ref 130, z1] [r] h' Q) from ?_)
                            refine m_digit (c := b e) (by omega) (fun hqe => ?_) (fun hqe => ?_)
                            · skip
                              show Go (d + 5) true 191 157 [.ref 130, z1] [.int 1] h3 Q
                              refine exf_go 1 (show ((1 : Int32) = 0 → Go (d + 5) true 191 209 [.ref 130, z1] [] h3 Q) ∧ (¬ ((1 : Int32) = 0) → Go (d + 5) true 191 160 [.ref 130, z1] [] h3 Q) from ⟨fun c28 => ?_, fun c28 => ?_⟩)
                              · skip
                                exact absurd c28 (by decide)
                              · skip
                                refine exf_go 2 (show Go (d + 5) true 191 164 [.ref 130, z1] [.int (rI h3 130 7)] h3 Q from ?_)
                                rw [show (rI h3 130 7 : Int32) = nI e from he3]
                                refine exf_go 2 (show Go (d + 5) true 191 168 [.ref 130, z1] [.int (rI h3 130 6), .int (nI e)] h3 Q from ?_)
                                rw [show (rI h3 130 6 : Int32) = nI a from ha3]
                                refine exf_go 1 (show Go (d + 5) true 191 169 [.ref 130, z1] [.int ((nI e) - (nI a))] h3 Q from ?_)
                                rw [show ((nI e) - (nI a) : Int32) = nI (e - a) from pk_sub (a := e) (b := a) (by omega)]
                                refine exf_go 2 (show (3 ≤ (nI (e - a)) → Go (d + 5) true 191 196 [.ref 130, z1] [] h3 Q) ∧ (¬ (3 ≤ (nI (e - a))) → Go (d + 5) true 191 173 [.ref 130, z1] [] h3 Q) from ⟨fun c29 => ?_, fun c29 => ?_⟩)
                                · skip
                                  have c29 : 3 ≤ (e - a) := (nI_leI (a := 3) (b := (e - a)) (by omega) (by omega)).mp c29
                                  refine exf_go 3 (show Go (d + 5) true 191 201 [.ref 130, z1] [.int (rI h3 130 7), .ref 130] h3 Q from ?_)
                                  rw [show (rI h3 130 7 : Int32) = nI e from he3]
                                  refine exf_go 2 (show Go (d + 5) true 191 203 [.ref 130, z1] [.int ((nI e) + 1), .ref 130] h3 Q from ?_)
                                  rw [show ((nI e) + 1 : Int32) = nI (e + 1) from nI_add e 1]
                                  refine exf_go 2 (show Go (d + 5) true 191 146 [.ref 130, z1] [] (uI h3 130 7 (nI (e + 1))) Q from ?_)
                                  exact ih146 z1 (e + 1) _ (by omega) (by omega) (by omega) (q3.uI' _ _ _ rfl) ha3 rfl (by rw [← vl_n hae (by omega)]; exact hv3) (by rw [hsc]; exact scF_y (q := fun i => dgt (b i)) (by omega) hqe)
                                · skip
                                  have c29 : ¬ 3 ≤ (e - a) := fun q => c29 ((nI_leI (a := 3) (b := (e - a)) (by omega) (by omega)).mpr q)
                                  refine exf_go 4 (show Go (d + 5) true 191 180 [.ref 130, z1] [.int (rI h3 130 10), .int 10, .ref 130] h3 Q from ?_)
                                  rw [show (rI h3 130 10 : Int32) = nI (vlF b a (e - a)) from hv3]
                                  have hvb := vl_b2 mx.1.2 a (e - a)
                                  refine exf_go 1 (show Go (d + 5) true 191 181 [.ref 130, z1] [.int (10 * (nI (vlF b a (e - a)))), .ref 130] h3 Q from ?_)
                                  rw [show (10 * (nI (vlF b a (e - a))) : Int32) = nI (10 * (vlF b a (e - a))) from pk_mul 10 (vlF b a (e - a))]
                                  refine exf_go 3 (show Go (d + 5) true 191 186 [.ref 130, z1] [.int (rI h3 130 7), .ref 130, .int (nI (10 * (vlF b a (e - a)))), .ref 130] h3 Q from ?_)
                                  rw [show (rI h3 130 7 : Int32) = nI e from he3]
                                  refine exf_go 1 (show wpC (d + 5) true 187 [.ref 130, .int (nI e)] h3 (fun r h' => Go (d + 5) true 191 189 [.ref 130, z1] [r, .int (nI (10 * (vlF b a (e - a)))), .ref 130] h' Q) from ?_)
                                  refine m_see (p := e) mx3 (by omega) (fun _ => ?_) (fun hx => absurd (show e < n from by omega) hx)
                                  have := mx.1.2 e
                                  have hdq : 48 ≤ b e ∧ b e ≤ 57 := of_decide_eq_true hqe
                                  show Go (d + 5) true 191 189 [.ref 130, z1] [.int (nI (b e)), .int (nI (10 * (vlF b a (e - a)))), .ref 130] h3 Q
                                  refine exf_go 1 (show Go (d + 5) true 191 190 [.ref 130, z1] [.int ((nI (10 * (vlF b a (e - a)))) + (nI (b e))), .ref 130] h3 Q from ?_)
                                  rw [show ((nI (10 * (vlF b a (e - a)))) + (nI (b e)) : Int32) = nI ((10 * (vlF b a (e - a))) + (b e)) from nI_add (10 * (vlF b a (e - a))) (b e)]
                                  refine exf_go 2 (show Go (d + 5) true 191 193 [.ref 130, z1] [.int ((nI ((10 * (vlF b a (e - a))) + (b e))) - 48), .ref 130] h3 Q from ?_)
                                  rw [show ((nI ((10 * (vlF b a (e - a))) + (b e))) - 48 : Int32) = nI (((10 * (vlF b a (e - a))) + (b e)) - 48) from pk_sub (a := ((10 * (vlF b a (e - a))) + (b e))) (b := 48) (by omega)]
                                  refine exf_go 4 (show Go (d + 5) true 191 201 [.ref 130, z1] [.int (rI h3 130 7), .ref 130] (uI h3 130 10 (nI (((10 * (vlF b a (e - a))) + (b e)) - 48))) Q from ?_)
                                  rw [show (rI h3 130 7 : Int32) = nI e from he3]
                                  refine exf_go 2 (show Go (d + 5) true 191 203 [.ref 130, z1] [.int ((nI e) + 1), .ref 130] (uI h3 130 10 (nI (((10 * (vlF b a (e - a))) + (b e)) - 48))) Q from ?_)
                                  rw [show ((nI e) + 1 : Int32) = nI (e + 1) from nI_add e 1]
                                  refine exf_go 2 (show Go (d + 5) true 191 146 [.ref 130, z1] [] (uI (uI h3 130 10 (nI (((10 * (vlF b a (e - a))) + (b e)) - 48))) 130 7 (nI (e + 1))) Q from ?_)
                                  exact ih146 z1 (e + 1) _ (by omega) (by omega) (by omega) ((q3.uI' _ _ _ rfl).uI' _ _ _ rfl) ha3 rfl (by rw [← vl_y hae (by omega) hqe]; rfl) (by rw [hsc]; exact scF_y (q := fun i => dgt (b i)) (by omega) hqe)
                            · skip
                              show Go (d + 5) true 191 157 [.ref 130, z1] [.int 0] h3 Q
                              refine exf_go 1 (show ((0 : Int32) = 0 → Go (d + 5) true 191 209 [.ref 130, z1] [] h3 Q) ∧ (¬ ((0 : Int32) = 0) → Go (d + 5) true 191 160 [.ref 130, z1] [] h3 Q) from ⟨fun c30 => ?_, fun c30 => ?_⟩)
                              · skip
                                refine exf_go 3 (show Go (d + 5) true 191 214 [.ref 130, z1] [.int (rI h3 130 7), .ref 130] h3 Q from ?_)
                                rw [show (rI h3 130 7 : Int32) = nI e from he3]
                                refine exf_go 2 (show Go (d + 5) true 191 218 [.ref 130, z1] [.int (rI h3 130 6), .int (nI e), .ref 130] h3 Q from ?_)
                                rw [show (rI h3 130 6 : Int32) = nI a from ha3]
                                refine exf_go 1 (show Go (d + 5) true 191 219 [.ref 130, z1] [.int ((nI e) - (nI a)), .ref 130] h3 Q from ?_)
                                rw [show ((nI e) - (nI a) : Int32) = nI (e - a) from pk_sub (a := e) (b := a) (by omega)]
                                refine exf_go 2 (show ((nI (e - a)) ≤ 3 → Go (d + 5) true 191 228 [.ref 130, z1] [.ref 130] h3 Q) ∧ (¬ ((nI (e - a)) ≤ 3) → Go (d + 5) true 191 223 [.ref 130, z1] [.ref 130] h3 Q) from ⟨fun c31 => ?_, fun c31 => ?_⟩)
                                · skip
                                  have c31 : (e - a) ≤ 3 := (nI_leI (a := (e - a)) (b := 3) (by omega) (by omega)).mp c31
                                  refine exf_go 4 (show Q (mk_) (uI h3 130 9 21) from ?_)
                                  have hA : skF b n p = a := by rw [hsk]; exact scF_n (fun q => by have := of_decide_eq_true q.2; omega)
                                  rw [hA] at k
                                  have e1 : tE b n a = e := by unfold tE; rw [if_neg (by omega), if_neg (by rw [hqa0]; decide), if_pos hqa, hsc]; exact scF_n (fun q => absurd (q.2.symm.trans hqe) (by decide))
                                  have e2 : tK b n a = (if 3 < e - a then 23 else 21) := by unfold tK; rw [if_neg (by omega), if_neg (by rw [hqa0]; decide), if_pos hqa, e1]
                                  have e3 : tV b n a = vlF b a (e - a) := by unfold tV; rw [e1]
                                  rw [e1, e2, e3] at k
                                  rw [if_neg (by omega)] at k
                                  exact k _ (q3.uI' _ _ _ rfl) ha3 he3 rfl (fun _ => hv3)
                                · skip
                                  have c31 : ¬ (e - a) ≤ 3 := fun q => c31 ((nI_leI (a := (e - a)) (b := 3) (by omega) (by omega)).mpr q)
                                  refine exf_go 5 (show Q (mk_) (uI h3 130 9 23) from ?_)
                                  have hA : skF b n p = a := by rw [hsk]; exact scF_n (fun q => by have := of_decide_eq_true q.2; omega)
                                  rw [hA] at k
                                  have e1 : tE b n a = e := by unfold tE; rw [if_neg (by omega), if_neg (by rw [hqa0]; decide), if_pos hqa, hsc]; exact scF_n (fun q => absurd (q.2.symm.trans hqe) (by decide))
                                  have e2 : tK b n a = (if 3 < e - a then 23 else 21) := by unfold tK; rw [if_neg (by omega), if_neg (by rw [hqa0]; decide), if_pos hqa, e1]
                                  have e3 : tV b n a = vlF b a (e - a) := by unfold tV; rw [e1]
                                  rw [e1, e2, e3] at k
                                  rw [if_pos (by omega)] at k
                                  exact k _ (q3.uI' _ _ _ rfl) ha3 he3 rfl (fun _ => hv3)
                              · skip
                                exact absurd (by decide) c30
                          · skip
                            show Go (d + 5) true 191 154 [.ref 130, z1] [.int (-1)] h3 Q
                            refine exf_go 1 (show wpC (d + 5) true 189 [.int (-1)] h3 (fun r h' => Go (d + 5) true 191 157 [.ref 130, z1] [r] h' Q) from ?_)
                            refine m_digitN (by decide) ?_
                            show Go (d + 5) true 191 157 [.ref 130, z1] [.int 0] h3 Q
                            refine exf_go 1 (show ((0 : Int32) = 0 → Go (d + 5) true 191 209 [.ref 130, z1] [] h3 Q) ∧ (¬ ((0 : Int32) = 0) → Go (d + 5) true 191 160 [.ref 130, z1] [] h3 Q) from ⟨fun c32 => ?_, fun c32 => ?_⟩)
                            · skip
                              refine exf_go 3 (show Go (d + 5) true 191 214 [.ref 130, z1] [.int (rI h3 130 7), .ref 130] h3 Q from ?_)
                              rw [show (rI h3 130 7 : Int32) = nI e from he3]
                              refine exf_go 2 (show Go (d + 5) true 191 218 [.ref 130, z1] [.int (rI h3 130 6), .int (nI e), .ref 130] h3 Q from ?_)
                              rw [show (rI h3 130 6 : Int32) = nI a from ha3]
                              refine exf_go 1 (show Go (d + 5) true 191 219 [.ref 130, z1] [.int ((nI e) - (nI a)), .ref 130] h3 Q from ?_)
                              rw [show ((nI e) - (nI a) : Int32) = nI (e - a) from pk_sub (a := e) (b := a) (by omega)]
                              refine exf_go 2 (show ((nI (e - a)) ≤ 3 → Go (d + 5) true 191 228 [.ref 130, z1] [.ref 130] h3 Q) ∧ (¬ ((nI (e - a)) ≤ 3) → Go (d + 5) true 191 223 [.ref 130, z1] [.ref 130] h3 Q) from ⟨fun c33 => ?_, fun c33 => ?_⟩)
                              · skip
                                have c33 : (e - a) ≤ 3 := (nI_leI (a := (e - a)) (b := 3) (by omega) (by omega)).mp c33
                                refine exf_go 4 (show Q (mk_) (uI h3 130 9 21) from ?_)
                                have hA : skF b n p = a := by rw [hsk]; exact scF_n (fun q => by have := of_decide_eq_true q.2; omega)
                                rw [hA] at k
                                have e1 : tE b n a = e := by unfold tE; rw [if_neg (by omega), if_neg (by rw [hqa0]; decide), if_pos hqa, hsc]; exact scF_n (fun q => hlt q.1)
                                have e2 : tK b n a = (if 3 < e - a then 23 else 21) := by unfold tK; rw [if_neg (by omega), if_neg (by rw [hqa0]; decide), if_pos hqa, e1]
                                have e3 : tV b n a = vlF b a (e - a) := by unfold tV; rw [e1]
                                rw [e1, e2, e3] at k
                                rw [if_neg (by omega)] at k
                                exact k _ (q3.uI' _ _ _ rfl) ha3 he3 rfl (fun _ => hv3)
                              · skip
                                have c33 : ¬ (e - a) ≤ 3 := fun q => c33 ((nI_leI (a := (e - a)) (b := 3) (by omega) (by omega)).mpr q)
                                refine exf_go 5 (show Q (mk_) (uI h3 130 9 23) from ?_)
                                have hA : skF b n p = a := by rw [hsk]; exact scF_n (fun q => by have := of_decide_eq_true q.2; omega)
                                rw [hA] at k
                                have e1 : tE b n a = e := by unfold tE; rw [if_neg (by omega), if_neg (by rw [hqa0]; decide), if_pos hqa, hsc]; exact scF_n (fun q => hlt q.1)
                                have e2 : tK b n a = (if 3 < e - a then 23 else 21) := by unfold tK; rw [if_neg (by omega), if_neg (by rw [hqa0]; decide), if_pos hqa, e1]
                                have e3 : tV b n a = vlF b a (e - a) := by unfold tV; rw [e1]
                                rw [e1, e2, e3] at k
                                rw [if_pos (by omega)] at k
                                exact k _ (q3.uI' _ _ _ rfl) ha3 he3 rfl (fun _ => hv3)
                            · skip
                              exact absurd (by decide) c32
                      exact L146 (n + 1) z1 a _ (by omega) (by omega) (by omega) ((q1.uI' _ _ _ rfl).uI' _ _ _ rfl) ha1 rfl (by rw [Nat.sub_self]; rfl) rfl
                  · skip
                    show Go (d + 5) true 191 138 [.ref 130, z1] [.int 0] (uI h1 130 7 (nI a)) Q
                    refine exf_go 1 (show ((0 : Int32) = 0 → Go (d + 5) true 191 236 [.ref 130, z1] [] (uI h1 130 7 (nI a)) Q) ∧ (¬ ((0 : Int32) = 0) → Go (d + 5) true 191 141 [.ref 130, z1] [] (uI h1 130 7 (nI a)) Q) from ⟨fun c34 => ?_, fun c34 => ?_⟩)
                    · skip
                      refine exf_go 5 (show Go (d + 5) true 191 243 [.ref 130, z1] [.int ((nI a) + 1), .ref 130] (uI h1 130 7 (nI a)) Q from ?_)
                      rw [show ((nI a) + 1 : Int32) = nI (a + 1) from nI_add a 1]
                      refine exf_go 6 (show Go (d + 5) true 191 254 [.ref 130, .int 0] [] (uI (uI (uI h1 130 7 (nI a)) 130 7 (nI (a + 1))) 130 9 23) Q from ?_)
                      have L254 : ∀ (k254 : Nat) (j : Nat) (h4 : Hp), (12 - j) < k254 → (j ≤ 12) → (Fq sNx h h4) → (rI h4 130 6 = nI a) → (rI h4 130 7 = nI (a + 1)) → (rI h4 130 9 = nI (sgF (b a) j)) → Go (d + 5) true 191 254 [.ref 130, .int (nI j)] [] h4 Q := by
                        intro k254
                        induction k254 with
                        | zero => intro j h4 hk; exact absurd hk (Nat.not_lt_zero _)
                        | succ k254 ih254 =>
                          intro j h4 hk hj q4 ha4 he4 hk4
                          have mx4 := mx_fq mx q4
                          refine exf_go 3 (show wpC (d + 5) true 306 [.ref 4] h4 (fun r h' => Go (d + 5) true 191 260 [.ref 130, .int (nI j)] [r, .int (nI j)] h' Q) from ?_)
                          refine j_len4 ?_
                          show Go (d + 5) true 191 260 [.ref 130, .int (nI j)] [.int (nI 12), .int (nI j)] h4 Q
                          refine exf_go 1 (show ((nI 12) ≤ (nI j) → Go (d + 5) true 191 294 [.ref 130, .int (nI j)] [] h4 Q) ∧ (¬ ((nI 12) ≤ (nI j)) → Go (d + 5) true 191 263 [.ref 130, .int (nI j)] [] h4 Q) from ⟨fun c35 => ?_, fun c35 => ?_⟩)
                          · skip
                            have c35 : 12 ≤ j := (nI_leI (a := 12) (b := j) (by omega) (by omega)).mp c35
                            refine exf_go 1 (show Q (mk_) h4 from ?_)
                            have hA : skF b n p = a := by rw [hsk]; exact scF_n (fun q => by have := of_decide_eq_true q.2; omega)
                            rw [hA] at k
                            have e1 : tE b n a = a + 1 := by unfold tE; rw [if_neg (by omega), if_neg (by rw [hqa0]; decide), if_neg (by rw [hqa]; decide)]
                            have e2 : tK b n a = sgF (b a) 12 := by unfold tK; rw [if_neg (by omega), if_neg (by rw [hqa0]; decide), if_neg (by rw [hqa]; decide)]
                            rw [e1, e2] at k
                            exact k _ q4 ha4 he4 (by rw [← show j = 12 from by omega]; exact hk4) (fun q => by have := sg_b (b a) 12 (by omega); omega)
                          · skip
                            have c35 : ¬ 12 ≤ j := fun q => c35 ((nI_leI (a := 12) (b := j) (by omega) (by omega)).mpr q)
                            refine exf_go 3 (show Go (d + 5) true 191 268 [.ref 130, .int (nI j)] [.int (rI h4 130 6), .ref 130] h4 Q from ?_)
                            rw [show (rI h4 130 6 : Int32) = nI a from ha4]
                            refine exf_go 1 (show wpC (d + 5) true 187 [.ref 130, .int (nI a)] h4 (fun r h' => Go (d + 5) true 191 271 [.ref 130, .int (nI j)] [r] h' Q) from ?_)
                            refine m_see (p := a) mx4 (by omega) (fun _ => ?_) (fun hx => absurd (show a < n from by omega) hx)
                            have := mx.1.2 a
                            show Go (d + 5) true 191 271 [.ref 130, .int (nI j)] [.int (nI (b a))] h4 Q
                            refine exf_go 3 (show wpC (d + 5) true 307 [.ref 4, .int (nI j)] h4 (fun r h' => Go (d + 5) true 191 277 [.ref 130, .int (nI j)] [r, .int (nI (b a))] h' Q) from ?_)
                            refine j_char4 (i := j) (by omega) ?_
                            rw [cb85 j (by omega)]
                            have hcj := (cb5 j (by omega)).2
                            show Go (d + 5) true 191 277 [.ref 130, .int (nI j)] [.int (nI (cb 5 j)), .int (nI (b a))] h4 Q
                            refine exf_go 1 (show (¬ (nI (b a)) = (nI (cb 5 j)) → Go (d + 5) true 191 288 [.ref 130, .int (nI j)] [] h4 Q) ∧ (¬ (¬ (nI (b a)) = (nI (cb 5 j))) → Go (d + 5) true 191 280 [.ref 130, .int (nI j)] [] h4 Q) from ⟨fun c36 => ?_, fun c36 => ?_⟩)
                            · skip
                              have c36 : ¬ (b a) = (cb 5 j) := fun q => c36 ((nI_eq (a := (b a)) (b := (cb 5 j)) (by omega) (by omega)).mpr q)
                              refine exf_go 1 (show Go (d + 5) true 191 291 [.ref 130, .int ((nI j) + 1)] [] h4 Q from ?_)
                              rw [show ((nI j) + 1 : Int32) = nI (j + 1) from nI_add j 1]
                              refine exf_go 1 (show Go (d + 5) true 191 254 [.ref 130, .int (nI (j + 1))] [] h4 Q from ?_)
                              exact ih254 (j + 1) _ (by omega) (by omega) q4 ha4 he4 (by rw [sgF, if_neg (by omega)]; exact hk4)
                            · skip
                              have c36 : (b a) = (cb 5 j) := (nI_eq (a := (b a)) (b := (cb 5 j)) (by omega) (by omega)).mp (Classical.not_not.mp c36)
                              refine exf_go 4 (show Go (d + 5) true 191 285 [.ref 130, .int (nI j)] [.int (25 + (nI j)), .ref 130] h4 Q from ?_)
                              rw [show (25 + (nI j) : Int32) = nI (25 + j) from nI_add 25 j]
                              refine exf_go 2 (show Go (d + 5) true 191 291 [.ref 130, .int ((nI j) + 1)] [] (uI h4 130 9 (nI (25 + j))) Q from ?_)
                              rw [show ((nI j) + 1 : Int32) = nI (j + 1) from nI_add j 1]
                              refine exf_go 1 (show Go (d + 5) true 191 254 [.ref 130, .int (nI (j + 1))] [] (uI h4 130 9 (nI (25 + j))) Q from ?_)
                              exact ih254 (j + 1) _ (by omega) (by omega) (q4.uI' _ _ _ rfl) ha4 he4 (by rw [sgF, if_pos (by omega)]; rfl)
                      exact L254 (12 + 1) 0 _ (by omega) (by omega) (((q1.uI' _ _ _ rfl).uI' _ _ _ rfl).uI' _ _ _ rfl) ha1 rfl rfl
                    · skip
                      exact absurd (by decide) c34
                · skip
                  exact absurd (by decide) c26
            · skip
              have c21 : ¬ a < n := fun q => c21 ((nI_ltI (a := a) (b := n) (by omega) (by omega)).mpr q)
              refine exf_go 5 (show Q (mk_) (uI (uI h1 130 7 (nI a)) 130 9 22) from ?_)
              have hA : skF b n p = a := by rw [hsk]; exact scF_n (fun q => by have := of_decide_eq_true q.2; omega)
              rw [hA] at k
              have e1 : tE b n a = a := if_pos (by omega)
              have e2 : tK b n a = 22 := if_pos (by omega)
              rw [e1, e2] at k
              exact k _ ((q1.uI' _ _ _ rfl).uI' _ _ _ rfl) ha1 rfl rfl (fun q => absurd q (by decide))
          · skip
            exact absurd (by decide) c20
  exact L8 (n + 1) mk_ p _ (by omega) (by omega) hpn (Fq.rfl'.uI' _ _ _ rfl) rfl rfl
