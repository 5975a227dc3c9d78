/-! The class: tokens. -/
def sb (x : Nat) : Int32 := (nI x).toInt8.toInt32
def ckd (k : Nat) : Nat := if k < 18 then 128 + k else if k = 20 then 3 else if k = 21 then 2 else if k = 22 then 0 else if k = 23 then 1 else if 25 ≤ k ∧ k ≤ 36 then cb 5 (k - 25) else 200 + k
theorem ckd_inj : ∀ k, k < 37 → ∀ q, q < 37 → (ckd k = ckd q ↔ k = q) := by decide +kernel
theorem ckd_b : ∀ k, k < 37 → ckd k < 256 := by decide +kernel
theorem sb_eq : ∀ x, x < 256 → (sb x = 10 ↔ x = 10) ∧ (sb x = 32 ↔ x = 32) := by decide +kernel
theorem sb_neg : ∀ x, x < 256 → ¬ x < 128 → sb x < 0 := by decide +kernel
theorem sb_pos : ∀ x, x < 128 → sb x = nI x := ch8
theorem sb_le : ∀ x, x < 256 → (sb x ≤ 0 ↔ x = 0 ∨ 128 ≤ x) := by decide +kernel
theorem sg_no : ∀ x, x < 256 → (x = 0 ∨ 128 ≤ x) → sgF x 12 = 23 := by decide +kernel
theorem sg_at : ∀ j, j < 12 → sgF (cb 5 j) 12 = 25 + j ∧ ckd (25 + j) = cb 5 j := by decide +kernel
theorem sg_n {c : Nat} (h : ∀ j, j < 12 → ¬ cb 5 j = c) : ∀ k, k ≤ 12 → sgF c k = 23
  | 0, _ => rfl
  | k + 1, hk => by rw [sgF, if_neg (fun e => h k (by omega) e.symm)]; exact sg_n h k (by omega)
theorem sml_b {x : Nat} (h : sml x = true) : 97 ≤ x ∧ x ≤ 122 := of_decide_eq_true h
theorem dgt_b {x : Nat} (h : dgt x = true) : 48 ≤ x ∧ x ≤ 57 := of_decide_eq_true h
theorem sml_x {x : Nat} (h : ¬ x < 128) : sml x = false := decide_eq_false (by omega)
theorem dgt_x {x : Nat} (h : ¬ x < 128) : dgt x = false := decide_eq_false (by omega)
/-- all in a run are such -/
theorem scn_all {q : Nat → Bool} {n : Nat} : ∀ f p i, p ≤ i → i < scn q n f p → q i = true
  | 0, p, i, h1, h2 => absurd h2 (by rw [scn]; omega)
  | f + 1, p, i, h1, h2 => by
    rw [scn] at h2
    split at h2
    · rename_i c
      rcases Nat.eq_or_lt_of_le h1 with e | e
      · rw [← e]; exact c.2
      · exact scn_all f (p + 1) i (by omega) h2
    · omega
theorem scF_all {q : Nat → Bool} {n p i : Nat} (h1 : p ≤ i) (h2 : i < scF q n p) : q i = true := scn_all _ p i h1 h2
theorem wk_long {b : Nat → Nat} {a e : Nat} (h : 6 < e - a) : ∀ f, f ≤ 18 → wkF b a e f = 20
  | 0, _ => rfl
  | f + 1, hf => by
    have := (kp_all (17 - f) (by omega)).2.2.2
    rw [wkF, isW_n (by omega), if_neg (by decide)]
    exact wk_long h f (by omega)
def CX (b : Nat → Nat) (n : Nat) (h : Hp) : Prop := (n ≤ 900 ∧ ∀ i, b i < 256) ∧ ∀ i, i < n → rI h 11 i = sb (b i)
def TK (b : Nat → Nat) (n N : Nat) (h : Hp) : Prop := (N ≤ n ∧ rI h 12 3 = nI (N + 1)) ∧ (∀ q, q ≤ N → rI h 13 q = nI (ckd (kd b n q)) ∧ rI h 15 q = nI (tkP b n q) ∧ (kd b n q = 21 → rI h 14 q = nI (vl b n q))) ∧ (∀ q, q < N → ¬ kd b n q = 22 ∧ ¬ kd b n q = 23) ∧ (kd b n N = 22 ∨ kd b n N = 23)
def sTk (a i : Nat) : Bool := Nat.beq a 13 || Nat.beq a 14 || Nat.beq a 15 || (Nat.beq a 12 && Nat.beq i 3)
theorem cx_fq {b : Nat → Nat} {n : Nat} {h h1 : Hp} (cx : CX b n h) (q : Fq sTk h h1) : CX b n h1 := ⟨cx.1, fun i hi => ((q.1 11 i rfl).1).trans (cx.2 i hi)⟩
theorem c_letterB {d : Nat} {h : Hp} {x : Nat} {Q : Po} (hx : x < 256) (k1 : sml x = true → Q (.int 1) h) (k0 : sml x = false → Q (.int 0) h) : wpC (d + 1) true 94 [.int (sb x)] h Q := by
  rcases Nat.lt_or_ge x 128 with c | c
  · rw [sb_pos x c]; exact c_letter (by omega) k1 k0
  · exact c_letterN (sb_neg x hx (by omega)) (k0 (sml_x (by omega)))
theorem c_digitB {d : Nat} {h : Hp} {x : Nat} {Q : Po} (hx : x < 256) (k1 : dgt x = true → Q (.int 1) h) (k0 : dgt x = false → Q (.int 0) h) : wpC (d + 1) true 95 [.int (sb x)] h Q := by
  rcases Nat.lt_or_ge x 128 with c | c
  · rw [sb_pos x c]; exact c_digit (by omega) k1 k0
  · exact c_digitN (sb_neg x hx (by omega)) (k0 (dgt_x (by omega)))
theorem c_endOfRun {d : Nat} {h : Hp} {b : Nat → Nat} {n a : Nat} {Q : Po} (cx : CX b n h) (ha : a < n) (k : Q (.int (nI (tE b n a))) h) : wpC (d + 2) true 96 [.ref 11, .int (nI a), .int (nI n)] h Q := by
  have hn9 := cx.1.1
  refine go_in rfl ?_
  refine exf_go 3 (show Go (d + 1) true 96 3 [.ref 11, .int (nI a), .int (nI n), mk_] [.int ((nI a) + 1)] h Q from ?_)
  rw [show ((nI a) + 1 : Int32) = nI (a + 1) from nI_add a 1]
  refine exf_go 4 (show vp_in (nI a) 900 ∧ (Go (d + 1) true 96 7 [.ref 11, .int (nI a), .int (nI n), .int (nI (a + 1))] [.int (rI h 11 ((nI a).toNatClampNeg))] h Q) from ⟨(vp_in_nI (by omega) (by omega)), ?_⟩)
  rw [show (rI h 11 ((nI a).toNatClampNeg) : Int32) = sb (b a) from by rw [nI_clamp (by omega)]; exact cx.2 _ (by omega)]
  have hbb := cx.1.2 a
  refine exf_go 1 (show wpC (d + 1) true 94 [.int (sb (b a))] h (fun r h' => Go (d + 1) true 96 10 [.ref 11, .int (nI a), .int (nI n), .int (nI (a + 1))] [r] h' Q) from ?_)
  refine c_letterB (x := (b a)) (by omega) (fun hl10 => ?_) (fun hl10 => ?_)
  · skip
    show Go (d + 1) true 96 10 [.ref 11, .int (nI a), .int (nI n), .int (nI (a + 1))] [.int 1] h Q
    refine exf_go 1 (show ((1 : Int32) = 0 → Go (d + 1) true 96 33 [.ref 11, .int (nI a), .int (nI n), .int (nI (a + 1))] [] h Q) ∧ (¬ ((1 : Int32) = 0) → Go (d + 1) true 96 13 [.ref 11, .int (nI a), .int (nI n), .int (nI (a + 1))] [] h Q) from ⟨fun c1 => ?_, fun c1 => ?_⟩)
    · skip
      exact absurd c1 (by decide)
    · skip
      have L13 : ∀ (k13 : Nat) (e : Nat), (n - e) < k13 → (a < e) → (e ≤ n) → (scF (fun i => sml (b i)) n a = scF (fun i => sml (b i)) n e) → Go (d + 1) true 96 13 [.ref 11, .int (nI a), .int (nI n), .int (nI e)] [] h Q := by
        intro k13
        induction k13 with
        | zero => intro e hk; exact absurd hk (Nat.not_lt_zero _)
        | succ k13 ih13 =>
          intro e hk hae hen hsc
          refine exf_go 3 (show ((nI n) ≤ (nI e) → Go (d + 1) true 96 62 [.ref 11, .int (nI a), .int (nI n), .int (nI e)] [] h Q) ∧ (¬ ((nI n) ≤ (nI e)) → Go (d + 1) true 96 18 [.ref 11, .int (nI a), .int (nI n), .int (nI e)] [] h Q) from ⟨fun c2 => ?_, fun c2 => ?_⟩)
          · skip
            have c2 : n ≤ e := (nI_leI (a := n) (b := e) (by omega) (by omega)).mp c2
            refine exf_go 2 (show Q (.int (nI e)) h from ?_)
            have e1 : tE b n a = e := by unfold tE; rw [if_neg (by omega), if_pos hl10, hsc]; exact scF_n (fun q => by (exfalso; omega))
            rw [e1] at k; exact k
          · skip
            have c2 : ¬ n ≤ e := fun q => c2 ((nI_leI (a := n) (b := e) (by omega) (by omega)).mpr q)
            refine exf_go 3 (show vp_in (nI e) 900 ∧ (Go (d + 1) true 96 21 [.ref 11, .int (nI a), .int (nI n), .int (nI e)] [.int (rI h 11 ((nI e).toNatClampNeg))] h Q) from ⟨(vp_in_nI (by omega) (by omega)), ?_⟩)
            rw [show (rI h 11 ((nI e).toNatClampNeg) : Int32) = sb (b e) from by rw [nI_clamp (by omega)]; exact cx.2 _ (by omega)]
            have hbb := cx.1.2 e
            refine exf_go 1 (show wpC (d + 1) true 94 [.int (sb (b e))] h (fun r h' => Go (d + 1) true 96 24 [.ref 11, .int (nI a), .int (nI n), .int (nI e)] [r] h' Q) from ?_)
            refine c_letterB (x := (b e)) (by omega) (fun hl24 => ?_) (fun hl24 => ?_)
            · skip
              show Go (d + 1) true 96 24 [.ref 11, .int (nI a), .int (nI n), .int (nI e)] [.int 1] h Q
              refine exf_go 1 (show ((1 : Int32) = 0 → Go (d + 1) true 96 62 [.ref 11, .int (nI a), .int (nI n), .int (nI e)] [] h Q) ∧ (¬ ((1 : Int32) = 0) → Go (d + 1) true 96 27 [.ref 11, .int (nI a), .int (nI n), .int (nI e)] [] h Q) from ⟨fun c3 => ?_, fun c3 => ?_⟩)
              · skip
                exact absurd c3 (by decide)
              · skip
                refine exf_go 1 (show Go (d + 1) true 96 30 [.ref 11, .int (nI a), .int (nI n), .int ((nI e) + 1)] [] h Q from ?_)
                rw [show ((nI e) + 1 : Int32) = nI (e + 1) from nI_add e 1]
                refine exf_go 1 (show Go (d + 1) true 96 13 [.ref 11, .int (nI a), .int (nI n), .int (nI (e + 1))] [] h Q from ?_)
                exact ih13 (e + 1) (by omega) (by omega) (by omega) (by rw [hsc]; exact scF_y (q := fun i => sml (b i)) (by omega) hl24)
            · skip
              show Go (d + 1) true 96 24 [.ref 11, .int (nI a), .int (nI n), .int (nI e)] [.int 0] h Q
              refine exf_go 1 (show ((0 : Int32) = 0 → Go (d + 1) true 96 62 [.ref 11, .int (nI a), .int (nI n), .int (nI e)] [] h Q) ∧ (¬ ((0 : Int32) = 0) → Go (d + 1) true 96 27 [.ref 11, .int (nI a), .int (nI n), .int (nI e)] [] h Q) from ⟨fun c4 => ?_, fun c4 => ?_⟩)
              · skip
                refine exf_go 2 (show Q (.int (nI e)) h from ?_)
                have e1 : tE b n a = e := by unfold tE; rw [if_neg (by omega), if_pos hl10, hsc]; exact scF_n (fun q => by exact absurd (q.2.symm.trans hl24) (by decide))
                rw [e1] at k; exact k
              · skip
                exact absurd (by decide) c4
      exact L13 (n + 1) (a + 1) (by omega) (by omega) (by omega) (scF_y (q := fun i => sml (b i)) ha hl10)
  · skip
    show Go (d + 1) true 96 10 [.ref 11, .int (nI a), .int (nI n), .int (nI (a + 1))] [.int 0] h Q
    refine exf_go 1 (show ((0 : Int32) = 0 → Go (d + 1) true 96 33 [.ref 11, .int (nI a), .int (nI n), .int (nI (a + 1))] [] h Q) ∧ (¬ ((0 : Int32) = 0) → Go (d + 1) true 96 13 [.ref 11, .int (nI a), .int (nI n), .int (nI (a + 1))] [] h Q) from ⟨fun c5 => ?_, fun c5 => ?_⟩)
    · skip
      refine exf_go 3 (show vp_in (nI a) 900 ∧ (Go (d + 1) true 96 36 [.ref 11, .int (nI a), .int (nI n), .int (nI (a + 1))] [.int (rI h 11 ((nI a).toNatClampNeg))] h Q) from ⟨(vp_in_nI (by omega) (by omega)), ?_⟩)
      rw [show (rI h 11 ((nI a).toNatClampNeg) : Int32) = sb (b a) from by rw [nI_clamp (by omega)]; exact cx.2 _ (by omega)]
      have hbb := cx.1.2 a
      refine exf_go 1 (show wpC (d + 1) true 95 [.int (sb (b a))] h (fun r h' => Go (d + 1) true 96 39 [.ref 11, .int (nI a), .int (nI n), .int (nI (a + 1))] [r] h' Q) from ?_)
      refine c_digitB (x := (b a)) (by omega) (fun hl39 => ?_) (fun hl39 => ?_)
      · skip
        show Go (d + 1) true 96 39 [.ref 11, .int (nI a), .int (nI n), .int (nI (a + 1))] [.int 1] h Q
        refine exf_go 1 (show ((1 : Int32) = 0 → Go (d + 1) true 96 62 [.ref 11, .int (nI a), .int (nI n), .int (nI (a + 1))] [] h Q) ∧ (¬ ((1 : Int32) = 0) → Go (d + 1) true 96 42 [.ref 11, .int (nI a), .int (nI n), .int (nI (a + 1))] [] h Q) from ⟨fun c6 => ?_, fun c6 => ?_⟩)
        · skip
          exact absurd c6 (by decide)
        · skip
          have L42 : ∀ (k42 : Nat) (e : Nat), (n - e) < k42 → (a < e) → (e ≤ n) → (scF (fun i => dgt (b i)) n a = scF (fun i => dgt (b i)) n e) → Go (d + 1) true 96 42 [.ref 11, .int (nI a), .int (nI n), .int (nI e)] [] h Q := by
            intro k42
            induction k42 with
            | zero => intro e hk; exact absurd hk (Nat.not_lt_zero _)
            | succ k42 ih42 =>
              intro e hk hae hen hsc
              refine exf_go 3 (show ((nI n) ≤ (nI e) → Go (d + 1) true 96 62 [.ref 11, .int (nI a), .int (nI n), .int (nI e)] [] h Q) ∧ (¬ ((nI n) ≤ (nI e)) → Go (d + 1) true 96 47 [.ref 11, .int (nI a), .int (nI n), .int (nI e)] [] h Q) from ⟨fun c7 => ?_, fun c7 => ?_⟩)
              · skip
                have c7 : n ≤ e := (nI_leI (a := n) (b := e) (by omega) (by omega)).mp c7
                refine exf_go 2 (show Q (.int (nI e)) h from ?_)
                have e1 : tE b n a = e := by unfold tE; rw [if_neg (by omega), if_neg (by rw [hl10]; decide), if_pos hl39, hsc]; exact scF_n (fun q => by (exfalso; omega))
                rw [e1] at k; exact k
              · skip
                have c7 : ¬ n ≤ e := fun q => c7 ((nI_leI (a := n) (b := e) (by omega) (by omega)).mpr q)
                refine exf_go 3 (show vp_in (nI e) 900 ∧ (Go (d + 1) true 96 50 [.ref 11, .int (nI a), .int (nI n), .int (nI e)] [.int (rI h 11 ((nI e).toNatClampNeg))] h Q) from ⟨(vp_in_nI (by omega) (by omega)), ?_⟩)
                rw [show (rI h 11 ((nI e).toNatClampNeg) : Int32) = sb (b e) from by rw [nI_clamp (by omega)]; exact cx.2 _ (by omega)]
                have hbb := cx.1.2 e
                refine exf_go 1 (show wpC (d + 1) true 95 [.int (sb (b e))] h (fun r h' => Go (d + 1) true 96 53 [.ref 11, .int (nI a), .int (nI n), .int (nI e)] [r] h' Q) from ?_)
                refine c_digitB (x := (b e)) (by omega) (fun hl53 => ?_) (fun hl53 => ?_)
                · skip
                  show Go (d + 1) true 96 53 [.ref 11, .int (nI a), .int (nI n), .int (nI e)] [.int 1] h Q
                  refine exf_go 1 (show ((1 : Int32) = 0 → Go (d + 1) true 96 62 [.ref 11, .int (nI a), .int (nI n), .int (nI e)] [] h Q) ∧ (¬ ((1 : Int32) = 0) → Go (d + 1) true 96 56 [.ref 11, .int (nI a), .int (nI n), .int (nI e)] [] h Q) from ⟨fun c8 => ?_, fun c8 => ?_⟩)
                  · skip
                    exact absurd c8 (by decide)
                  · skip
                    refine exf_go 1 (show Go (d + 1) true 96 59 [.ref 11, .int (nI a), .int (nI n), .int ((nI e) + 1)] [] h Q from ?_)
                    rw [show ((nI e) + 1 : Int32) = nI (e + 1) from nI_add e 1]
                    refine exf_go 1 (show Go (d + 1) true 96 42 [.ref 11, .int (nI a), .int (nI n), .int (nI (e + 1))] [] h Q from ?_)
                    exact ih42 (e + 1) (by omega) (by omega) (by omega) (by rw [hsc]; exact scF_y (q := fun i => dgt (b i)) (by omega) hl53)
                · skip
                  show Go (d + 1) true 96 53 [.ref 11, .int (nI a), .int (nI n), .int (nI e)] [.int 0] h Q
                  refine exf_go 1 (show ((0 : Int32) = 0 → Go (d + 1) true 96 62 [.ref 11, .int (nI a), .int (nI n), .int (nI e)] [] h Q) ∧ (¬ ((0 : Int32) = 0) → Go (d + 1) true 96 56 [.ref 11, .int (nI a), .int (nI n), .int (nI e)] [] h Q) from ⟨fun c9 => ?_, fun c9 => ?_⟩)
                  · skip
                    refine exf_go 2 (show Q (.int (nI e)) h from ?_)
                    have e1 : tE b n a = e := by unfold tE; rw [if_neg (by omega), if_neg (by rw [hl10]; decide), if_pos hl39, hsc]; exact scF_n (fun q => by exact absurd (q.2.symm.trans hl53) (by decide))
                    rw [e1] at k; exact k
                  · skip
                    exact absurd (by decide) c9
          exact L42 (n + 1) (a + 1) (by omega) (by omega) (by omega) (scF_y (q := fun i => dgt (b i)) ha hl39)
      · skip
        show Go (d + 1) true 96 39 [.ref 11, .int (nI a), .int (nI n), .int (nI (a + 1))] [.int 0] h Q
        refine exf_go 1 (show ((0 : Int32) = 0 → Go (d + 1) true 96 62 [.ref 11, .int (nI a), .int (nI n), .int (nI (a + 1))] [] h Q) ∧ (¬ ((0 : Int32) = 0) → Go (d + 1) true 96 42 [.ref 11, .int (nI a), .int (nI n), .int (nI (a + 1))] [] h Q) from ⟨fun c10 => ?_, fun c10 => ?_⟩)
        · skip
          refine exf_go 2 (show Q (.int (nI (a + 1))) h from ?_)
          have e1 : tE b n a = a + 1 := by unfold tE; rw [if_neg (by omega), if_neg (by rw [hl10]; decide), if_neg (by rw [hl39]; decide)]
          rw [e1] at k; exact k
        · skip
          exact absurd (by decide) c10
    · skip
      exact absurd (by decide) c5
theorem c_valueOf {d : Nat} {h : Hp} {b : Nat → Nat} {n a : Nat} {Q : Po} (cx : CX b n h) (ha : a < n) {e : Nat} (hae : a ≤ e) (hen : e ≤ n) (h3 : e - a ≤ 3) (hdg : ∀ i, a ≤ i → i < e → dgt (b i) = true) (k : Q (.int (nI (vlF b a (e - a)))) h) : wpC (d + 1) true 98 [.ref 11, .int (nI a), .int (nI e)] h Q := by
  have hn9 := cx.1.1
  refine go_in rfl ?_
  refine exf_go 4 (show Go d true 98 5 [.ref 11, .int (nI a), .int (nI e), .int 0, .int (nI a)] [] h Q from ?_)
  have L5 : ∀ (k5 : Nat) (i : Nat), (e - i) < k5 → (a ≤ i) → (i ≤ e) → Go d true 98 5 [.ref 11, .int (nI a), .int (nI e), .int (nI (vlF b a (i - a))), .int (nI i)] [] h Q := by
    intro k5
    induction k5 with
    | zero => intro i hk; exact absurd hk (Nat.not_lt_zero _)
    | succ k5 ih5 =>
      intro i hk hai hie
      have hvb := vl_b2 cx.1.2 a (i - a)
      refine exf_go 3 (show ((nI e) ≤ (nI i) → Go d true 98 30 [.ref 11, .int (nI a), .int (nI e), .int (nI (vlF b a (i - a))), .int (nI i)] [] h Q) ∧ (¬ ((nI e) ≤ (nI i)) → Go d true 98 11 [.ref 11, .int (nI a), .int (nI e), .int (nI (vlF b a (i - a))), .int (nI i)] [] h Q) from ⟨fun c1 => ?_, fun c1 => ?_⟩)
      · skip
        have c1 : e ≤ i := (nI_leI (a := e) (b := i) (by omega) (by omega)).mp c1
        refine exf_go 2 (show Q (.int (nI (vlF b a (i - a)))) h from ?_)
        have hh : i = e := by omega
        subst hh; exact k
      · skip
        have c1 : ¬ e ≤ i := fun q => c1 ((nI_leI (a := e) (b := i) (by omega) (by omega)).mpr q)
        refine exf_go 3 (show Go d true 98 15 [.ref 11, .int (nI a), .int (nI e), .int (nI (vlF b a (i - a))), .int (nI i)] [.int ((nI (vlF b a (i - a))) * 10)] h Q from ?_)
        rw [show ((nI (vlF b a (i - a))) * 10 : Int32) = nI ((vlF b a (i - a)) * 10) from pk_mul (vlF b a (i - a)) 10]
        refine exf_go 3 (show vp_in (nI i) 900 ∧ (Go d true 98 19 [.ref 11, .int (nI a), .int (nI e), .int (nI (vlF b a (i - a))), .int (nI i)] [.int (rI h 11 ((nI i).toNatClampNeg)), .int (nI ((vlF b a (i - a)) * 10))] h Q) from ⟨(vp_in_nI (by omega) (by omega)), ?_⟩)
        rw [show (rI h 11 ((nI i).toNatClampNeg) : Int32) = nI (b i) from by rw [nI_clamp (by omega), cx.2 _ (by omega)]; exact sb_pos _ (by have := dgt_b (hdg i (by omega) (by omega)); omega)]
        have hdq := dgt_b (hdg i (by omega) (by omega))
        refine exf_go 1 (show Go d true 98 20 [.ref 11, .int (nI a), .int (nI e), .int (nI (vlF b a (i - a))), .int (nI i)] [.int ((nI ((vlF b a (i - a)) * 10)) + (nI (b i)))] h Q from ?_)
        rw [show ((nI ((vlF b a (i - a)) * 10)) + (nI (b i)) : Int32) = nI (((vlF b a (i - a)) * 10) + (b i)) from nI_add ((vlF b a (i - a)) * 10) (b i)]
        refine exf_go 2 (show Go d true 98 23 [.ref 11, .int (nI a), .int (nI e), .int (nI (vlF b a (i - a))), .int (nI i)] [.int ((nI (((vlF b a (i - a)) * 10) + (b i))) - 48)] h Q from ?_)
        rw [show ((nI (((vlF b a (i - a)) * 10) + (b i))) - 48 : Int32) = nI (vlF b a (i + 1 - a)) from by rw [← vl_y hai (by omega) (hdg i (by omega) (by omega)), Nat.mul_comm 10]; exact pk_sub (b := 48) (by omega)]
        refine exf_go 2 (show Go d true 98 27 [.ref 11, .int (nI a), .int (nI e), .int (nI (vlF b a (i + 1 - a))), .int ((nI i) + 1)] [] h Q from ?_)
        rw [show ((nI i) + 1 : Int32) = nI (i + 1) from nI_add i 1]
        refine exf_go 1 (show Go d true 98 5 [.ref 11, .int (nI a), .int (nI e), .int (nI (vlF b a (i + 1 - a))), .int (nI (i + 1))] [] h Q from ?_)
        exact ih5 (i + 1) (by omega) (by omega) (by omega)
  rw [show (0 : Int32) = nI (vlF b a (a - a)) from by rw [Nat.sub_self]; rfl]
  exact L5 (e + 1) a (by omega) (by omega) (by omega)
