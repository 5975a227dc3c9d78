/-! The class: kinds of tokens. -/
theorem kwd_b {w i : Nat} : kwd w i = 32 ∨ i < 6 := by unfold kwd; split <;> omega
theorem isW_all {b : Nat → Nat} {a e w : Nat} (hw : w < 18) (hl : e - a ≤ 6) (hae : a ≤ e) (hs : ∀ i, a ≤ i → i < e → sml (b i) = true) (h : ∀ i, i < 6 → (a + i < e → b (a + i) = kwd w i) ∧ (¬ a + i < e → kwd w i = 32)) : isW b a e w = true := by
  have hk := (kp_all w hw).2.2.2
  have he : e = a + kln w := by
    rcases Nat.lt_trichotomy (e - a) (kln w) with c | c | c
    · exact absurd ((h (e - a) (by omega)).2 (by omega)) ((kw_no w hw (e - a) (by omega)).2.1 c)
    · omega
    · have h1 := (h (kln w) (by omega)).1 (by omega)
      have h2 := sml_b (hs (a + kln w) (by omega) (by omega))
      have h3 := (kw_no w hw (kln w) (by omega)).2.2 (Nat.le_refl _)
      omega
  have hq : ∀ j, j ≤ kln w → eqW b a w j = true := by
    intro j
    induction j with
    | zero => intro _; rfl
    | succ j ih => intro hj; rw [eqW, ih (by omega), decide_eq_true ((h j (by omega)).1 (by omega))]; rfl
  exact isW_y he (hq _ (Nat.le_refl _))
theorem isW_no {b : Nat → Nat} {a e w i : Nat} (hw : w < 18) (hi : i < 6) (h : (a + i < e ∧ ¬ b (a + i) = kwd w i) ∨ (¬ a + i < e ∧ ¬ kwd w i = 32)) : isW b a e w = false := by
  have hk := kw_no w hw i (by omega)
  rcases h with ⟨h1, h2⟩ | ⟨h1, h2⟩
  · rcases Nat.lt_or_ge i (kln w) with c | c
    · exact isW_d h2 c
    · exact isW_n (by omega)
  · have : i < kln w := by rcases Nat.lt_or_ge i (kln w) with c | c; exact c; exact absurd (hk.2.2 c) h2
    exact isW_n (by omega)
theorem kwd_c : ∀ w, w < 18 → ∀ i, i < 6 → cb 6 (w * 6 + i) = kwd w i := by decide +kernel
theorem ckd_w {k : Nat} (h : k < 18) : ckd k = 128 + k := if_pos h
theorem c_isWord {d : Nat} {h : Hp} {b : Nat → Nat} {n a : Nat} {Q : Po} (cx : CX b n h) (ha : a < n) {e : Nat} (hae : a < e) (hen : e ≤ n) (hs : ∀ i, a ≤ i → i < e → sml (b i) = true) {wd : Nat} (hwd : wd < 18) (hl6 : e - a ≤ 6) (k1 : isW b a e wd = true → Q (.int 1) h) (k0 : isW b a e wd = false → Q (.int 0) h) : wpC (d + 5) true 100 [.ref 11, .int (nI a), .int (nI e), .int (nI wd)] h Q := by
  have hn9 := cx.1.1
  refine go_in rfl ?_
  refine exf_go 2 (show Go (d + 4) true 100 3 [.ref 11, .int (nI a), .int (nI e), .int (nI wd), .int 0, mk_] [] h Q from ?_)
  have L3 : ∀ (k3 : Nat) (z5 : Value) (i : Nat), (6 - i) < k3 → (i ≤ 6) → (∀ j, j < i → (a + j < e → b (a + j) = kwd wd j) ∧ (¬ a + j < e → kwd wd j = 32)) → Go (d + 4) true 100 3 [.ref 11, .int (nI a), .int (nI e), .int (nI wd), .int (nI i), z5] [] h Q := by
    intro k3
    induction k3 with
    | zero => intro z5 i hk; exact absurd hk (Nat.not_lt_zero _)
    | succ k3 ih3 =>
      intro z5 i hk hi hall
      refine exf_go 3 (show (6 ≤ (nI i) → Go (d + 4) true 100 56 [.ref 11, .int (nI a), .int (nI e), .int (nI wd), .int (nI i), z5] [] h Q) ∧ (¬ (6 ≤ (nI i)) → Go (d + 4) true 100 10 [.ref 11, .int (nI a), .int (nI e), .int (nI wd), .int (nI i), z5] [] h Q) from ⟨fun c1 => ?_, fun c1 => ?_⟩)
      · skip
        have c1 : 6 ≤ i := (nI_leI (a := 6) (b := i) (by omega) (by omega)).mp c1
        refine exf_go 2 (show ((1 : Int32) = 0 ∨ (1 : Int32) = 1) ∧ Q (.int 1) h from ⟨(by first | exact Or.inl rfl | exact Or.inr rfl | assumption), ?_⟩)
        exact k1 (isW_all hwd hl6 (by omega) hs (fun j hj => hall j (by omega)))
      · skip
        have c1 : ¬ 6 ≤ i := fun q => c1 ((nI_leI (a := 6) (b := i) (by omega) (by omega)).mpr q)
        refine exf_go 3 (show Go (d + 4) true 100 14 [.ref 11, .int (nI a), .int (nI e), .int (nI wd), .int (nI i), z5] [.int ((nI a) + (nI i))] h Q from ?_)
        rw [show ((nI a) + (nI i) : Int32) = nI (a + i) from nI_add a i]
        refine exf_go 2 (show ((nI e) ≤ (nI (a + i)) → Go (d + 4) true 100 27 [.ref 11, .int (nI a), .int (nI e), .int (nI wd), .int (nI i), z5] [] h Q) ∧ (¬ ((nI e) ≤ (nI (a + i))) → Go (d + 4) true 100 18 [.ref 11, .int (nI a), .int (nI e), .int (nI wd), .int (nI i), z5] [] h Q) from ⟨fun c2 => ?_, fun c2 => ?_⟩)
        · skip
          have c2 : e ≤ (a + i) := (nI_leI (a := e) (b := (a + i)) (by omega) (by omega)).mp c2
          refine exf_go 6 (show Go (d + 4) true 100 37 [.ref 11, .int (nI a), .int (nI e), .int (nI wd), .int (nI i), .int 32] [.int ((nI wd) * 6), .ref 2] h Q from ?_)
          rw [show ((nI wd) * 6 : Int32) = nI (wd * 6) from pk_mul wd 6]
          refine exf_go 2 (show Go (d + 4) true 100 40 [.ref 11, .int (nI a), .int (nI e), .int (nI wd), .int (nI i), .int 32] [.int ((nI (wd * 6)) + (nI i)), .ref 2] h Q from ?_)
          rw [show ((nI (wd * 6)) + (nI i) : Int32) = nI ((wd * 6) + i) from nI_add (wd * 6) i]
          refine exf_go 1 (show wpC (d + 4) true 307 [.ref 2, .int (nI ((wd * 6) + i))] h (fun r h' => Go (d + 4) true 100 43 [.ref 11, .int (nI a), .int (nI e), .int (nI wd), .int (nI i), .int 32] [r] h' Q) from ?_)
          refine j_char2 (i := wd * 6 + i) (by omega) ?_
          rw [kwd_c wd hwd i (by omega)]
          have hkn := kw_no wd hwd i (by omega)
          show Go (d + 4) true 100 43 [.ref 11, .int (nI a), .int (nI e), .int (nI wd), .int (nI i), .int 32] [.int (nI (kwd wd i))] h Q
          refine exf_go 2 (show ((nI (kwd wd i)) = 32 → Go (d + 4) true 100 50 [.ref 11, .int (nI a), .int (nI e), .int (nI wd), .int (nI i), .int 32] [] h Q) ∧ (¬ ((nI (kwd wd i)) = 32) → Go (d + 4) true 100 48 [.ref 11, .int (nI a), .int (nI e), .int (nI wd), .int (nI i), .int 32] [] h Q) from ⟨fun c3 => ?_, fun c3 => ?_⟩)
          · skip
            have c3 : (kwd wd i) = 32 := (nI_eq (a := (kwd wd i)) (b := 32) (by omega) (by omega)).mp c3
            refine exf_go 1 (show Go (d + 4) true 100 53 [.ref 11, .int (nI a), .int (nI e), .int (nI wd), .int ((nI i) + 1), .int 32] [] h Q from ?_)
            rw [show ((nI i) + 1 : Int32) = nI (i + 1) from nI_add i 1]
            refine exf_go 1 (show Go (d + 4) true 100 3 [.ref 11, .int (nI a), .int (nI e), .int (nI wd), .int (nI (i + 1)), .int 32] [] h Q from ?_)
            have hst : ∀ j, j < i + 1 → (a + j < e → b (a + j) = kwd wd j) ∧ (¬ a + j < e → kwd wd j = 32) := by
              intro j hj
              rcases Nat.lt_or_ge j i with z | z
              · exact hall j z
              · have ej : j = i := by omega
                subst ej; exact ⟨fun _ => by omega, fun _ => by omega⟩
            exact ih3 (.int 32) (i + 1) (by omega) (by omega) hst
          · skip
            have c3 : ¬ (kwd wd i) = 32 := fun q => c3 ((nI_eq (a := (kwd wd i)) (b := 32) (by omega) (by omega)).mpr q)
            refine exf_go 2 (show ((0 : Int32) = 0 ∨ (0 : Int32) = 1) ∧ Q (.int 0) h from ⟨(by first | exact Or.inl rfl | exact Or.inr rfl | assumption), ?_⟩)
            exact k0 (isW_no (i := i) hwd (by omega) (by omega))
        · skip
          have c2 : ¬ e ≤ (a + i) := fun q => c2 ((nI_leI (a := e) (b := (a + i)) (by omega) (by omega)).mpr q)
          refine exf_go 4 (show Go (d + 4) true 100 23 [.ref 11, .int (nI a), .int (nI e), .int (nI wd), .int (nI i), z5] [.int ((nI a) + (nI i)), .ref 11] h Q from ?_)
          rw [show ((nI a) + (nI i) : Int32) = nI (a + i) from nI_add a i]
          refine exf_go 1 (show vp_in (nI (a + i)) 900 ∧ (Go (d + 4) true 100 24 [.ref 11, .int (nI a), .int (nI e), .int (nI wd), .int (nI i), z5] [.int (rI h 11 ((nI (a + i)).toNatClampNeg))] h Q) from ⟨(vp_in_nI (by omega) (by omega)), ?_⟩)
          rw [show (rI h 11 ((nI (a + i)).toNatClampNeg) : Int32) = nI (b (a + i)) from by rw [nI_clamp (by omega), cx.2 _ (by omega)]; exact sb_pos _ (by have := sml_b (hs (a + i) (by omega) (by omega)); omega)]
          have hsq := sml_b (hs (a + i) (by omega) (by omega))
          refine exf_go 6 (show Go (d + 4) true 100 37 [.ref 11, .int (nI a), .int (nI e), .int (nI wd), .int (nI i), .int (nI (b (a + i)))] [.int ((nI wd) * 6), .ref 2] h Q from ?_)
          rw [show ((nI wd) * 6 : Int32) = nI (wd * 6) from pk_mul wd 6]
          refine exf_go 2 (show Go (d + 4) true 100 40 [.ref 11, .int (nI a), .int (nI e), .int (nI wd), .int (nI i), .int (nI (b (a + i)))] [.int ((nI (wd * 6)) + (nI i)), .ref 2] h Q from ?_)
          rw [show ((nI (wd * 6)) + (nI i) : Int32) = nI ((wd * 6) + i) from nI_add (wd * 6) i]
          refine exf_go 1 (show wpC (d + 4) true 307 [.ref 2, .int (nI ((wd * 6) + i))] h (fun r h' => Go (d + 4) true 100 43 [.ref 11, .int (nI a), .int (nI e), .int (nI wd), .int (nI i), .int (nI (b (a + i)))] [r] h' Q) from ?_)
          refine j_char2 (i := wd * 6 + i) (by omega) ?_
          rw [kwd_c wd hwd i (by omega)]
          have hkn := kw_no wd hwd i (by omega)
          show Go (d + 4) true 100 43 [.ref 11, .int (nI a), .int (nI e), .int (nI wd), .int (nI i), .int (nI (b (a + i)))] [.int (nI (kwd wd i))] h Q
          refine exf_go 2 (show ((nI (kwd wd i)) = (nI (b (a + i))) → Go (d + 4) true 100 50 [.ref 11, .int (nI a), .int (nI e), .int (nI wd), .int (nI i), .int (nI (b (a + i)))] [] h Q) ∧ (¬ ((nI (kwd wd i)) = (nI (b (a + i)))) → Go (d + 4) true 100 48 [.ref 11, .int (nI a), .int (nI e), .int (nI wd), .int (nI i), .int (nI (b (a + i)))] [] h Q) from ⟨fun c4 => ?_, fun c4 => ?_⟩)
          · skip
            have c4 : (kwd wd i) = (b (a + i)) := (nI_eq (a := (kwd wd i)) (b := (b (a + i))) (by omega) (by omega)).mp c4
            refine exf_go 1 (show Go (d + 4) true 100 53 [.ref 11, .int (nI a), .int (nI e), .int (nI wd), .int ((nI i) + 1), .int (nI (b (a + i)))] [] h Q from ?_)
            rw [show ((nI i) + 1 : Int32) = nI (i + 1) from nI_add i 1]
            refine exf_go 1 (show Go (d + 4) true 100 3 [.ref 11, .int (nI a), .int (nI e), .int (nI wd), .int (nI (i + 1)), .int (nI (b (a + i)))] [] h Q from ?_)
            have hst : ∀ j, j < i + 1 → (a + j < e → b (a + j) = kwd wd j) ∧ (¬ a + j < e → kwd wd j = 32) := by
              intro j hj
              rcases Nat.lt_or_ge j i with z | z
              · exact hall j z
              · have ej : j = i := by omega
                subst ej; exact ⟨fun _ => by omega, fun _ => by omega⟩
            exact ih3 (.int (nI (b (a + i)))) (i + 1) (by omega) (by omega) hst
          · skip
            have c4 : ¬ (kwd wd i) = (b (a + i)) := fun q => c4 ((nI_eq (a := (kwd wd i)) (b := (b (a + i))) (by omega) (by omega)).mpr q)
            refine exf_go 2 (show ((0 : Int32) = 0 ∨ (0 : Int32) = 1) ∧ Q (.int 0) h from ⟨(by first | exact Or.inl rfl | exact Or.inr rfl | assumption), ?_⟩)
            exact k0 (isW_no (i := i) hwd (by omega) (by omega))
  exact L3 (6 + 1) mk_ 0 (by omega) (by omega) (fun j hj => absurd hj (Nat.not_lt_zero _))
theorem c_wordKind {d : Nat} {h : Hp} {b : Nat → Nat} {n a : Nat} {Q : Po} (cx : CX b n h) (ha : a < n) {e : Nat} (hae : a < e) (hen : e ≤ n) (hs : ∀ i, a ≤ i → i < e → sml (b i) = true) (k : Q (.int (nI (ckd (wkF b a e 18)))) h) : wpC (d + 6) true 99 [.ref 11, .int (nI a), .int (nI e)] h Q := by
  have hn9 := cx.1.1
  refine go_in rfl ?_
  refine exf_go 3 (show Go (d + 5) true 99 3 [.ref 11, .int (nI a), .int (nI e), mk_] [.int ((nI e) - (nI a))] h Q from ?_)
  rw [show ((nI e) - (nI a) : Int32) = nI (e - a) from pk_sub (a := e) (b := a) (by omega)]
  refine exf_go 2 (show (6 < (nI (e - a)) → Go (d + 5) true 99 44 [.ref 11, .int (nI a), .int (nI e), mk_] [] h Q) ∧ (¬ (6 < (nI (e - a))) → Go (d + 5) true 99 8 [.ref 11, .int (nI a), .int (nI e), mk_] [] h Q) from ⟨fun c1 => ?_, fun c1 => ?_⟩)
  · skip
    have c1 : 6 < (e - a) := (nI_ltI (a := 6) (b := (e - a)) (by omega) (by omega)).mp c1
    refine exf_go 2 (show Q (.int 3) h from ?_)
    rw [wk_long (by omega) 18 (by omega)] at k; exact k
  · skip
    have c1 : ¬ 6 < (e - a) := fun q => c1 ((nI_ltI (a := 6) (b := (e - a)) (by omega) (by omega)).mpr q)
    refine exf_go 2 (show Go (d + 5) true 99 10 [.ref 11, .int (nI a), .int (nI e), .int 0] [] h Q from ?_)
    have L10 : ∀ (k10 : Nat) (wd : Nat), (18 - wd) < k10 → (wd ≤ 18) → (wkF b a e 18 = wkF b a e (18 - wd)) → Go (d + 5) true 99 10 [.ref 11, .int (nI a), .int (nI e), .int (nI wd)] [] h Q := by
      intro k10
      induction k10 with
      | zero => intro wd hk; exact absurd hk (Nat.not_lt_zero _)
      | succ k10 ih10 =>
        intro wd hk hwl hwk
        refine exf_go 3 (show wpC (d + 5) true 306 [.ref 2] h (fun r h' => Go (d + 5) true 99 16 [.ref 11, .int (nI a), .int (nI e), .int (nI wd)] [r, .int (nI wd)] h' Q) from ?_)
        refine j_len2 ?_
        show Go (d + 5) true 99 16 [.ref 11, .int (nI a), .int (nI e), .int (nI wd)] [.int (nI 108), .int (nI wd)] h Q
        refine exf_go 2 (show ¬ 6 = 0 ∧ (Go (d + 5) true 99 19 [.ref 11, .int (nI a), .int (nI e), .int (nI wd)] [.int ((nI 108) / 6), .int (nI wd)] h Q) from ⟨(by first | assumption | decide), ?_⟩)
        rw [show ((nI 108) / 6 : Int32) = nI (108 / 6) from pk_div (a := 108) (d := 6) (by omega) (by omega) (by omega)]
        refine exf_go 1 (show ((nI (108 / 6)) ≤ (nI wd) → Go (d + 5) true 99 44 [.ref 11, .int (nI a), .int (nI e), .int (nI wd)] [] h Q) ∧ (¬ ((nI (108 / 6)) ≤ (nI wd)) → Go (d + 5) true 99 22 [.ref 11, .int (nI a), .int (nI e), .int (nI wd)] [] h Q) from ⟨fun c2 => ?_, fun c2 => ?_⟩)
        · skip
          have c2 : (108 / 6) ≤ wd := (nI_leI (a := (108 / 6)) (b := wd) (by omega) (by omega)).mp c2
          refine exf_go 2 (show Q (.int 3) h from ?_)
          rw [hwk, show wd = 18 from by omega] at k; exact k
        · skip
          have c2 : ¬ (108 / 6) ≤ wd := fun q => c2 ((nI_leI (a := (108 / 6)) (b := wd) (by omega) (by omega)).mpr q)
          refine exf_go 5 (show wpC (d + 5) true 100 [.ref 11, .int (nI a), .int (nI e), .int (nI wd)] h (fun r h' => Go (d + 5) true 99 29 [.ref 11, .int (nI a), .int (nI e), .int (nI wd)] [r] h' Q) from ?_)
          refine c_isWord cx ha hae hen hs (wd := wd) (by omega) (by omega) (fun hW => ?_) (fun hW => ?_)
          · skip
            show Go (d + 5) true 99 29 [.ref 11, .int (nI a), .int (nI e), .int (nI wd)] [.int 1] h Q
            refine exf_go 1 (show ((1 : Int32) = 0 → Go (d + 5) true 99 38 [.ref 11, .int (nI a), .int (nI e), .int (nI wd)] [] h Q) ∧ (¬ ((1 : Int32) = 0) → Go (d + 5) true 99 32 [.ref 11, .int (nI a), .int (nI e), .int (nI wd)] [] h Q) from ⟨fun c3 => ?_, fun c3 => ?_⟩)
            · skip
              exact absurd c3 (by decide)
            · skip
              refine exf_go 3 (show Go (d + 5) true 99 37 [.ref 11, .int (nI a), .int (nI e), .int (nI wd)] [.int (128 + (nI wd))] h Q from ?_)
              rw [show (128 + (nI wd) : Int32) = nI (128 + wd) from nI_add 128 wd]
              refine exf_go 1 (show Q (.int (nI (128 + wd))) h from ?_)
              rw [hwk, wk_y (by omega) hW, ckd_w (by omega)] at k; exact k
          · skip
            show Go (d + 5) true 99 29 [.ref 11, .int (nI a), .int (nI e), .int (nI wd)] [.int 0] h Q
            refine exf_go 1 (show ((0 : Int32) = 0 → Go (d + 5) true 99 38 [.ref 11, .int (nI a), .int (nI e), .int (nI wd)] [] h Q) ∧ (¬ ((0 : Int32) = 0) → Go (d + 5) true 99 32 [.ref 11, .int (nI a), .int (nI e), .int (nI wd)] [] h Q) from ⟨fun c4 => ?_, fun c4 => ?_⟩)
            · skip
              refine exf_go 1 (show Go (d + 5) true 99 41 [.ref 11, .int (nI a), .int (nI e), .int ((nI wd) + 1)] [] h Q from ?_)
              rw [show ((nI wd) + 1 : Int32) = nI (wd + 1) from nI_add wd 1]
              refine exf_go 1 (show Go (d + 5) true 99 10 [.ref 11, .int (nI a), .int (nI e), .int (nI (wd + 1))] [] h Q from ?_)
              exact ih10 (wd + 1) (by omega) (by omega) (by rw [hwk]; exact wk_n (by omega) hW)
            · skip
              exact absurd (by decide) c4
    exact L10 (18 + 1) 0 (by omega) (by omega) rfl
theorem c_kindOf {d : Nat} {h : Hp} {b : Nat → Nat} {n a : Nat} {Q : Po} (cx : CX b n h) (ha : a < n) (k : Q (.int (nI (ckd (tK b n a)))) h) : wpC (d + 7) true 97 [.ref 11, .int (nI a), .int (nI (tE b n a))] h Q := by
  have hn9 := cx.1.1
  have htb := tE_b (b := b) (n := n) (a := a) (by omega); have htl := tE_lt (b := b) ha
  refine go_in rfl ?_
  refine exf_go 3 (show vp_in (nI a) 900 ∧ (Go (d + 6) true 97 3 [.ref 11, .int (nI a), .int (nI (tE b n a)), mk_] [.int (rI h 11 ((nI a).toNatClampNeg))] h Q) from ⟨(vp_in_nI (by omega) (by omega)), ?_⟩)
  rw [show (rI h 11 ((nI a).toNatClampNeg) : Int32) = sb (b a) from by rw [nI_clamp (by omega)]; exact cx.2 _ (by omega)]
  have hbb := cx.1.2 a
  refine exf_go 3 (show wpC (d + 6) true 94 [.int (sb (b a))] h (fun r h' => Go (d + 6) true 97 8 [.ref 11, .int (nI a), .int (nI (tE b n a)), .int (sb (b a))] [r] h' Q) from ?_)
  refine c_letterB (x := (b a)) (by omega) (fun hl8 => ?_) (fun hl8 => ?_)
  · skip
    show Go (d + 6) true 97 8 [.ref 11, .int (nI a), .int (nI (tE b n a)), .int (sb (b a))] [.int 1] h Q
    refine exf_go 1 (show ((1 : Int32) = 0 → Go (d + 6) true 97 18 [.ref 11, .int (nI a), .int (nI (tE b n a)), .int (sb (b a))] [] h Q) ∧ (¬ ((1 : Int32) = 0) → Go (d + 6) true 97 11 [.ref 11, .int (nI a), .int (nI (tE b n a)), .int (sb (b a))] [] h Q) from ⟨fun c1 => ?_, fun c1 => ?_⟩)
    · skip
      exact absurd c1 (by decide)
    · skip
      refine exf_go 4 (show wpC (d + 6) true 99 [.ref 11, .int (nI a), .int (nI (tE b n a))] h (fun r h' => Go (d + 6) true 97 17 [.ref 11, .int (nI a), .int (nI (tE b n a)), .int (sb (b a))] [r] h' Q) from ?_)
      have ht : tE b n a = scF (fun i => sml (b i)) n a := by unfold tE; rw [if_neg (by omega), if_pos hl8]
      have htb := tE_b (b := b) (n := n) (a := a) (by omega); have htl := tE_lt (b := b) ha
      refine c_wordKind cx ha (e := tE b n a) htl htb.2 (fun i h1 h2 => scF_all (q := fun i => sml (b i)) (n := n) h1 (by rw [← ht]; exact h2)) ?_
      show Go (d + 6) true 97 17 [.ref 11, .int (nI a), .int (nI (tE b n a)), .int (sb (b a))] [.int (nI (ckd (wkF b a (tE b n a) 18)))] h Q
      refine exf_go 1 (show Q (.int (nI (ckd (wkF b a (tE b n a) 18)))) h from ?_)
      have e2 : tK b n a = wkF b a (tE b n a) 18 := by unfold tK; rw [if_neg (by omega), if_pos hl8]
      rw [e2] at k; exact k
  · skip
    show Go (d + 6) true 97 8 [.ref 11, .int (nI a), .int (nI (tE b n a)), .int (sb (b a))] [.int 0] h Q
    refine exf_go 1 (show ((0 : Int32) = 0 → Go (d + 6) true 97 18 [.ref 11, .int (nI a), .int (nI (tE b n a)), .int (sb (b a))] [] h Q) ∧ (¬ ((0 : Int32) = 0) → Go (d + 6) true 97 11 [.ref 11, .int (nI a), .int (nI (tE b n a)), .int (sb (b a))] [] h Q) from ⟨fun c2 => ?_, fun c2 => ?_⟩)
    · skip
      refine exf_go 2 (show wpC (d + 6) true 95 [.int (sb (b a))] h (fun r h' => Go (d + 6) true 97 22 [.ref 11, .int (nI a), .int (nI (tE b n a)), .int (sb (b a))] [r] h' Q) from ?_)
      refine c_digitB (x := (b a)) (by omega) (fun hl22 => ?_) (fun hl22 => ?_)
      · skip
        show Go (d + 6) true 97 22 [.ref 11, .int (nI a), .int (nI (tE b n a)), .int (sb (b a))] [.int 1] h Q
        refine exf_go 1 (show ((1 : Int32) = 0 → Go (d + 6) true 97 38 [.ref 11, .int (nI a), .int (nI (tE b n a)), .int (sb (b a))] [] h Q) ∧ (¬ ((1 : Int32) = 0) → Go (d + 6) true 97 25 [.ref 11, .int (nI a), .int (nI (tE b n a)), .int (sb (b a))] [] h Q) from ⟨fun c3 => ?_, fun c3 => ?_⟩)
        · skip
          exact absurd c3 (by decide)
        · skip
          refine exf_go 3 (show Go (d + 6) true 97 28 [.ref 11, .int (nI a), .int (nI (tE b n a)), .int (sb (b a))] [.int ((nI (tE b n a)) - (nI a))] h Q from ?_)
          rw [show ((nI (tE b n a)) - (nI a) : Int32) = nI ((tE b n a) - a) from pk_sub (a := (tE b n a)) (b := a) (by omega)]
          refine exf_go 2 (show (3 < (nI ((tE b n a) - a)) → Go (d + 6) true 97 36 [.ref 11, .int (nI a), .int (nI (tE b n a)), .int (sb (b a))] [] h Q) ∧ (¬ (3 < (nI ((tE b n a) - a))) → Go (d + 6) true 97 32 [.ref 11, .int (nI a), .int (nI (tE b n a)), .int (sb (b a))] [] h Q) from ⟨fun c4 => ?_, fun c4 => ?_⟩)
          · skip
            have c4 : 3 < ((tE b n a) - a) := (nI_ltI (a := 3) (b := ((tE b n a) - a)) (by omega) (by omega)).mp c4
            refine exf_go 2 (show Q (.int 1) h from ?_)
            have e2 : tK b n a = 23 := by unfold tK; rw [if_neg (by omega), if_neg (by rw [hl8]; decide), if_pos hl22, if_pos (by omega)]
            rw [e2] at k; exact k
          · skip
            have c4 : ¬ 3 < ((tE b n a) - a) := fun q => c4 ((nI_ltI (a := 3) (b := ((tE b n a) - a)) (by omega) (by omega)).mpr q)
            refine exf_go 3 (show Q (.int 2) h from ?_)
            have e2 : tK b n a = 21 := by unfold tK; rw [if_neg (by omega), if_neg (by rw [hl8]; decide), if_pos hl22, if_neg (by omega)]
            rw [e2] at k; exact k
      · skip
        show Go (d + 6) true 97 22 [.ref 11, .int (nI a), .int (nI (tE b n a)), .int (sb (b a))] [.int 0] h Q
        refine exf_go 1 (show ((0 : Int32) = 0 → Go (d + 6) true 97 38 [.ref 11, .int (nI a), .int (nI (tE b n a)), .int (sb (b a))] [] h Q) ∧ (¬ ((0 : Int32) = 0) → Go (d + 6) true 97 25 [.ref 11, .int (nI a), .int (nI (tE b n a)), .int (sb (b a))] [] h Q) from ⟨fun c5 => ?_, fun c5 => ?_⟩)
        · skip
          refine exf_go 2 (show ((sb (b a)) ≤ 0 → Go (d + 6) true 97 56 [.ref 11, .int (nI a), .int (nI (tE b n a)), .int (sb (b a))] [] h Q) ∧ (¬ ((sb (b a)) ≤ 0) → Go (d + 6) true 97 42 [.ref 11, .int (nI a), .int (nI (tE b n a)), .int (sb (b a))] [] h Q) from ⟨fun c6 => ?_, fun c6 => ?_⟩)
          · skip
            refine exf_go 2 (show Q (.int 1) h from ?_)
            have e2 : tK b n a = 23 := by unfold tK; rw [if_neg (by omega), if_neg (by rw [hl8]; decide), if_neg (by rw [hl22]; decide)]; exact sg_no _ hbb ((sb_le _ hbb).mp c6)
            rw [e2] at k; exact k
          · skip
            have hb1 : ¬ (b a = 0 ∨ 128 ≤ b a) := fun z => c6 ((sb_le _ hbb).mpr z)
            rw [sb_pos (b a) (by omega)]
            refine exf_go 3 (show Go (d + 6) true 97 46 [.ref 11, .int (nI a), .int (nI (tE b n a)), .int (nI (b a))] [.int (((nI (b a)).toUInt32 % 65536).toInt32), .ref 1] h Q from ?_)
            rw [show (((nI (b a)).toUInt32 % 65536).toInt32 : Int32) = nI (b a) from ch16 _ (by omega)]
            refine exf_go 1 (show wpC (d + 6) true 308 [.ref 1, .int (nI (b a))] h (fun r h' => Go (d + 6) true 97 49 [.ref 11, .int (nI a), .int (nI (tE b n a)), .int (nI (b a))] [r] h' Q) from ?_)
            refine j_ix (c := b a) (by omega) (fun j hj hj2 => ?_) (fun hj => ?_)
            · skip
              show Go (d + 6) true 97 49 [.ref 11, .int (nI a), .int (nI (tE b n a)), .int (nI (b a))] [.int (nI j)] h Q
              refine exf_go 1 (show ((nI j) < 0 → Go (d + 6) true 97 56 [.ref 11, .int (nI a), .int (nI (tE b n a)), .int (nI (b a))] [] h Q) ∧ (¬ ((nI j) < 0) → Go (d + 6) true 97 52 [.ref 11, .int (nI a), .int (nI (tE b n a)), .int (nI (b a))] [] h Q) from ⟨fun c7 => ?_, fun c7 => ?_⟩)
              · skip
                have c7 : j < 0 := (nI_ltI (a := j) (b := 0) (by omega) (by omega)).mp c7
                exfalso; omega
              · skip
                have c7 : ¬ j < 0 := fun q => c7 ((nI_ltI (a := j) (b := 0) (by omega) (by omega)).mpr q)
                refine exf_go 3 (show Q (.int (nI (b a))) h from ?_)
                have e2 : tK b n a = sgF (b a) 12 := by unfold tK; rw [if_neg (by omega), if_neg (by rw [hl8]; decide), if_neg (by rw [hl22]; decide)]
                rw [e2, ← hj2, (sg_at j hj).1, (sg_at j hj).2, hj2] at k; exact k
            · skip
              show Go (d + 6) true 97 49 [.ref 11, .int (nI a), .int (nI (tE b n a)), .int (nI (b a))] [.int (-1)] h Q
              refine exf_go 1 (show (((-1) : Int32) < 0 → Go (d + 6) true 97 56 [.ref 11, .int (nI a), .int (nI (tE b n a)), .int (nI (b a))] [] h Q) ∧ (¬ (((-1) : Int32) < 0) → Go (d + 6) true 97 52 [.ref 11, .int (nI a), .int (nI (tE b n a)), .int (nI (b a))] [] h Q) from ⟨fun c8 => ?_, fun c8 => ?_⟩)
              · skip
                refine exf_go 2 (show Q (.int 1) h from ?_)
                have e2 : tK b n a = 23 := by unfold tK; rw [if_neg (by omega), if_neg (by rw [hl8]; decide), if_neg (by rw [hl22]; decide)]; exact sg_n hj 12 (by omega)
                rw [e2] at k; exact k
              · skip
                exact absurd (by decide) c8
        · skip
          exact absurd (by decide) c5
    · skip
      exact absurd (by decide) c2
