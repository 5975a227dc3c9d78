/-! The class: sums. -/
def CC (b : Nat → Nat) (n N W D y dp : Nat) (F : PsG → PsG) : Prop := ∀ s h Q, CP b n N s h → IV b n 0 s → qe s = 0 → rI h 23 0 = nI W → (∀ h1, Fq sRc h h1 → CP b n N (F s) h1 → qe (F s) = 0 → Q (.int 1) h1) → (∀ h1, Fq sRc h h1 → CP b n N (F s) h1 → ¬ qe (F s) = 0 → Q (.int 0) h1) → wpC D true y [.ref 16, .int (nI dp)] h Q
theorem em_nx (c : Nat) (s : PsG) : em c (nx s) = nx (em c s) := by
  unfold em
  by_cases e : qe s = 0
  · rw [if_pos e, if_pos (show qe (nx s) = 0 from e)]; rfl
  · rw [if_neg e, if_neg (show ¬ qe (nx s) = 0 from e)]
theorem tkn_999 {b : Nat → Nat} {n : Nat} {s : PsG} (he : qe s = 0) (h : kd b n (qi s) = 21) : tkn b n 0 1000 s = nx s := by
  have := vl_999 h
  unfold tkn
  rw [if_pos (isK_y he h), if_pos ⟨by omega, by omega⟩]
theorem dp1 : ∀ v, v < 4 → 1 = dop (1000 + v) ∧ dod (1000 + v) = v := by decide
theorem dp2 : ∀ v, v < 10 → 2 = dop (2000 + v) ∧ dod (2000 + v) = v := by decide
theorem dp0 : ∀ v, v < 1000 → 0 = dop (0 + v) ∧ dod (0 + v) = v := fun v h => ⟨by unfold dop; rw [if_pos (by omega)], by unfold dod; rw [if_pos (by omega)]; omega⟩
theorem ck31 : (41 : Int32) = nI (ckd 31) := by decide +kernel
theorem ck33 : (93 : Int32) = nI (ckd 33) := by decide +kernel
theorem ck29 : (42 : Int32) = nI (ckd 29) := by decide +kernel
theorem ck11 : (139 : Int32) = nI (ckd 11) := by decide +kernel
theorem ck10 : (138 : Int32) = nI (ckd 10) := by decide +kernel
theorem whl_f {b : Nat → Nat} {n k C f : Nat} {F : PsG → PsG} {s : PsG} (hf : 1 ≤ f) (h : isK b n k s = true) (e : ¬ qe (F (nx s)) = 0) : whl (isK b n k) (fun s => em C (F (nx s))) f s = F (nx s) := by
  rw [whl_y hf h]
  show whl _ _ _ (em C (F (nx s))) = _
  rw [em_id e, whl_n (isK_id e)]
theorem whl_0 {c : PsG → Bool} {f : PsG → PsG} {k : Nat} {s : PsG} (h : k = 0) : whl c f k s = s := by subst h; rfl
theorem c_put {d : Nat} {h : Hp} {b : Nat → Nat} {n N : Nat} {s : PsG} {Q : Po} {c : Nat} {x y : Int32} (cp : CP b n N s h) (hy0 : y = (-1) → Q (.int 0) h) (hy1 : ¬ y = (-1) → qe s = 0 ∧ qn s < 900 ∧ x = nI (dop c) ∧ y = nI (dod c)) (k : ¬ y = (-1) → ∀ h1, Fq sRc h h1 → CP b n N (em c s) h1 → Q (.int 1) h1) : wpC (d + 2) true 73 [.ref 16, .int x, .int y] h Q := by
  have hb := cp_b cp
  refine go_in rfl ?_
  refine exf_go 3 (show (¬ y = (-1) → Go (d + 1) true 73 7 [.ref 16, .int x, .int y] [] h Q) ∧ (¬ (¬ y = (-1)) → Go (d + 1) true 73 5 [.ref 16, .int x, .int y] [] h Q) from ⟨fun c1 => ?_, fun c1 => ?_⟩)
  · skip
    refine exf_go 5 (show rN h 16 6 = true ∧ (wpC (d + 1) true 3 [.ref 17, .int x, .int y] h (fun _ h' => Go (d + 1) true 73 16 [.ref 16, .int x, .int y] [] h' Q)) from ⟨(cp.2.1.2.2), ?_⟩)
    obtain ⟨e1, e2, e3, e4⟩ := hy1 (by assumption)
    refine c_emit (c := c) cp e1 e2 e3 e4 (fun h1 q1 cp1 => ?_)
    show Go (d + 1) true 73 16 [.ref 16, .int x, .int y] [] h1 Q
    refine exf_go 2 (show ((1 : Int32) = 0 ∨ (1 : Int32) = 1) ∧ Q (.int 1) h1 from ⟨(by first | exact Or.inl rfl | exact Or.inr rfl | assumption), ?_⟩)
    exact k (by assumption) _ q1 cp1
  · skip
    refine exf_go 2 (show ((0 : Int32) = 0 ∨ (0 : Int32) = 1) ∧ Q (.int 0) h from ⟨(by first | exact Or.inl rfl | exact Or.inr rfl | assumption), ?_⟩)
    exact hy0 (Classical.not_not.mp (by assumption))
theorem c_name {d : Nat} {h : Hp} {b : Nat → Nat} {n N : Nat} {s : PsG} {Q : Po} {c : Nat} {x : Int32} (cp : CP b n N s h) (iv : IV b n 0 s) (he : qe s = 0) (hk2 : ¬ kd b n (qi s) = 22) (hk3 : ¬ kd b n (qi s) = 23) (hxo : x = nI (dop c)) (hod : 0 = nI (dod c)) (k : ∀ h1, Fq sRc h h1 → CP b n N (em c (nx s)) h1 → Q (.int 1) h1) : wpC (d + 2) true 74 [.ref 16, .int x] h Q := by
  have hb := cp_b cp
  have hqs := iv.2 he; have hqn : qn (nx s) = qn s := rfl
  refine go_in rfl ?_
  refine exf_go 3 (show Go (d + 1) true 74 5 [.ref 16, .int x] [.int (rI h 16 2), .ref 16] h Q from ?_)
  rw [show (rI h 16 2 : Int32) = nI (qi s) from cp.2.2.1.2.1]
  refine exf_go 2 (show Go (d + 1) true 74 7 [.ref 16, .int x] [.int ((nI (qi s)) + 1), .ref 16] h Q from ?_)
  rw [show ((nI (qi s)) + 1 : Int32) = nI ((qi s) + 1) from nI_add (qi s) 1]
  refine exf_go 6 (show rN (uI h 16 2 (nI ((qi s) + 1))) 16 6 = true ∧ (wpC (d + 1) true 3 [.ref 17, .int x, .int 0] (uI h 16 2 (nI ((qi s) + 1))) (fun _ h' => Go (d + 1) true 74 19 [.ref 16, .int x] [] h' Q)) from ⟨(cp.2.1.2.2), ?_⟩)
  have cp1 := cp_nx cp (by omega) (by omega)
  have q1 : Fq sRc h (uI h 16 2 (nI ((qi s) + 1))) := Fq.rfl'.uI' _ _ _ rfl
  have iv1 := iv_nx iv (by omega); have hz1 := qe_nx s; have hi1 := qi_nx s
  generalize hg1 : uI h 16 2 (nI ((qi s) + 1)) = h1 at cp1 q1 ⊢
  have hb1 := cp_b cp1
  have hq2 := iv1.2 (by omega)
  refine c_emit (c := c) cp1 (by omega) (by omega) hxo hod (fun h2 q2 cp2 => ?_)
  have hb2 := cp_b cp2
  have hz2 := qe_em c (nx s); have hi2 := qi_em c (nx s)
  show Go (d + 1) true 74 19 [.ref 16, .int x] [] h2 Q
  refine exf_go 2 (show ((1 : Int32) = 0 ∨ (1 : Int32) = 1) ∧ Q (.int 1) h2 from ⟨(by first | exact Or.inl rfl | exact Or.inr rfl | assumption), ?_⟩)
  exact k _ (Fq.tr q1 q2) cp2
theorem c_atom0 {d : Nat} {h : Hp} {b : Nat → Nat} {n N : Nat} {s : PsG} {Q : Po} {W m : Nat} {inn : PsG → PsG} (hW4 : W ≤ 4) (hm : m ≤ 6) (hg : Gd b n inn) (ih : ∀ q, m = q + 1 → CC b n N W (d + 7) 70 (6 - q) inn) (cp : CP b n N s h) (iv : IV b n 0 s) (he : qe s = 0) (hW : rI h 23 0 = nI W) (k1 : ∀ h1, Fq sRc h h1 → CP b n N (atomF b n W m inn s) h1 → qe (atomF b n W m inn s) = 0 → Q (.int 1) h1) (k0 : ∀ h1, Fq sRc h h1 → CP b n N (atomF b n W m inn s) h1 → ¬ qe (atomF b n W m inn s) = 0 → Q (.int 0) h1) : wpC (d + 8) true 72 [.ref 16, .int (nI (6 - m))] h Q := by
  have hb := cp_b cp
  refine go_in rfl ?_
  refine exf_go 2 (show wpC (d + 7) true 55 [.ref 16] h (fun r h' => Go (d + 7) true 72 4 [.ref 16, .int (nI (6 - m))] [r] h' Q) from ?_)
  refine c_kind cp ?_
  show Go (d + 7) true 72 4 [.ref 16, .int (nI (6 - m))] [.int (nI (ckd (kd b n (qi s))))] h Q
  refine exf_go 1 (show ((nI (ckd (kd b n (qi s)))).toInt = 2 → Go (d + 7) true 72 72 [.ref 16, .int (nI (6 - m))] [] h Q) ∧ (¬ (nI (ckd (kd b n (qi s)))).toInt = 2 → ((nI (ckd (kd b n (qi s)))).toInt = 40 → Go (d + 7) true 72 157 [.ref 16, .int (nI (6 - m))] [] h Q) ∧ (¬ (nI (ckd (kd b n (qi s)))).toInt = 40 → ((nI (ckd (kd b n (qi s)))).toInt = 141 → Go (d + 7) true 72 86 [.ref 16, .int (nI (6 - m))] [] h Q) ∧ (¬ (nI (ckd (kd b n (qi s)))).toInt = 141 → ((nI (ckd (kd b n (qi s)))).toInt = 142 → Go (d + 7) true 72 116 [.ref 16, .int (nI (6 - m))] [] h Q) ∧ (¬ (nI (ckd (kd b n (qi s)))).toInt = 142 → ((nI (ckd (kd b n (qi s)))).toInt = 143 → Go (d + 7) true 72 139 [.ref 16, .int (nI (6 - m))] [] h Q) ∧ (¬ (nI (ckd (kd b n (qi s)))).toInt = 143 → ((nI (ckd (kd b n (qi s)))).toInt = 144 → Go (d + 7) true 72 145 [.ref 16, .int (nI (6 - m))] [] h Q) ∧ (¬ (nI (ckd (kd b n (qi s)))).toInt = 144 → ((nI (ckd (kd b n (qi s)))).toInt = 145 → Go (d + 7) true 72 151 [.ref 16, .int (nI (6 - m))] [] h Q) ∧ (¬ (nI (ckd (kd b n (qi s)))).toInt = 145 → Go (d + 7) true 72 204 [.ref 16, .int (nI (6 - m))] [] h Q))))))) from ⟨fun c1 => ?_, fun c1_0 => ⟨fun c1 => ?_, fun c1_1 => ⟨fun c1 => ?_, fun c1_2 => ⟨fun c1 => ?_, fun c1_3 => ⟨fun c1 => ?_, fun c1_4 => ⟨fun c1 => ?_, fun c1_5 => ⟨fun c1 => ?_, fun c1_6 => ?_⟩⟩⟩⟩⟩⟩⟩)
  · skip
    have c1 : ckd (kd b n (qi s)) = 2 := by rw [nI_toInt (by omega)] at c1; omega
    have c1 : kd b n (qi s) = 21 := (ckd_inj _ (by omega) 21 (by decide)).mp (show _ = 2 from by omega)
    refine exf_go 6 (show wpC (d + 7) true 59 [.ref 16, .int 0, .int 999] h (fun r h' => Go (d + 7) true 72 82 [.ref 16, .int (nI (6 - m))] [r, .int 0, .ref 16] h' Q) from ?_)
    have he1 : qe s = 0 := by omega
    have hq1 := (iv.le (Nat.zero_le _)).2 he1
    refine c_takeN (lo := 0) (hh := 1000) cp he1 (by decide) (by first | rfl | decide) (by omega) (fun e1 h1 q1 cp1 hv1 hw1 => ?_) (fun h2 q2 cp2 hz2 => ?_)
    · skip
      have hb1 := cp_b cp1
      have hi1 := qi_nx s; have hy1 := qe_nx s
      have hn1 : qn (tkn b n 0 1000 s) < 900 := by rw [e1]; show qn s < 900; omega
      have hz1 : qe (tkn b n 0 1000 s) = 0 := by rw [e1]; omega
      rw [← e1] at cp1
      show Go (d + 7) true 72 82 [.ref 16, .int (nI (6 - m))] [.int (nI (vl b n (qi s))), .int 0, .ref 16] h1 Q
      refine exf_go 1 (show wpC (d + 7) true 73 [.ref 16, .int 0, .int (nI (vl b n (qi s)))] h1 (fun r h' => Go (d + 7) true 72 85 [.ref 16, .int (nI (6 - m))] [r] h' Q) from ?_)
      refine c_put (c := 0 + vl b n (qi s)) cp1 (fun z => absurd z (ng_eq (by omega) (by decide))) (fun _ => ⟨hz1, hn1, Eq.trans (show (0 : Int32) = nI 0 from rfl) (congrArg nI (dp0 (vl b n (qi s)) (by omega)).1), (congrArg nI (dp0 (vl b n (qi s)) (by omega)).2).symm⟩) (fun _ h3 q3 cp3 => ?_)
      have hz3 := qe_em (0 + vl b n (qi s)) (tkn b n 0 1000 s)
      show Go (d + 7) true 72 85 [.ref 16, .int (nI (6 - m))] [.int 1] h3 Q
      refine exf_go 1 (show ((1 : Int32) = 0 ∨ (1 : Int32) = 1) ∧ Q (.int 1) h3 from ⟨(by first | exact Or.inl rfl | exact Or.inr rfl | assumption), ?_⟩)
      have e9 := tkn_999 he (show kd b n (qi s) = 21 from by omega)
      have ea : atomF b n W m inn s = (em (0 + vl b n (qi s)) (tkn b n 0 1000 s)) := by unfold atomF; rw [if_pos (isK_y he (by omega))]; rw [e9, em_nx, Nat.zero_add]
      rw [ea] at k1; exact k1 _ (Fq.tr q1 q3) cp3 (by omega)
    · skip
      have cp2 : CP b n N (em (0 + vl b n (qi s)) (tkn b n 0 1000 s)) h2 := by rw [em_id hz2]; exact cp2
      have hz2 : ¬ qe (em (0 + vl b n (qi s)) (tkn b n 0 1000 s)) = 0 := by rw [em_id hz2]; exact hz2
      show Go (d + 7) true 72 82 [.ref 16, .int (nI (6 - m))] [.int (-1), .int 0, .ref 16] h2 Q
      refine exf_go 1 (show wpC (d + 7) true 73 [.ref 16, .int 0, .int (-1)] h2 (fun r h' => Go (d + 7) true 72 85 [.ref 16, .int (nI (6 - m))] [r] h' Q) from ?_)
      refine c_put (c := 0) cp2 (fun _ => ?_) (fun z => absurd rfl z) (fun z => absurd rfl z)
      show Go (d + 7) true 72 85 [.ref 16, .int (nI (6 - m))] [.int 0] h2 Q
      refine exf_go 1 (show ((0 : Int32) = 0 ∨ (0 : Int32) = 1) ∧ Q (.int 0) h2 from ⟨(by first | exact Or.inl rfl | exact Or.inr rfl | assumption), ?_⟩)
      have e9 := tkn_999 he (show kd b n (qi s) = 21 from by omega)
      exact absurd (show qe (em (0 + vl b n (qi s)) (tkn b n 0 1000 s)) = 0 from by rw [e9, qe_em]; exact he) hz2
  · skip
    have c1 : ckd (kd b n (qi s)) = 40 := by rw [nI_toInt (by omega)] at c1; omega
    have c1_0 : ¬ ckd (kd b n (qi s)) = 2 := by rw [nI_toInt (by omega)] at c1_0; omega
    have c1 : kd b n (qi s) = 30 := (ckd_inj _ (by omega) 30 (by decide)).mp (show _ = 40 from by omega)
    refine exf_go 3 (show ((nI (6 - m)) < 6 → Go (d + 7) true 72 169 [.ref 16, .int (nI (6 - m))] [] h Q) ∧ (¬ ((nI (6 - m)) < 6) → Go (d + 7) true 72 163 [.ref 16, .int (nI (6 - m))] [] h Q) from ⟨fun c2 => ?_, fun c2 => ?_⟩)
    · skip
      have c2 : (6 - m) < 6 := (nI_ltI (a := (6 - m)) (b := 6) (by omega) (by omega)).mp c2
      refine exf_go 3 (show Go (d + 7) true 72 174 [.ref 16, .int (nI (6 - m))] [.int (rI h 16 2), .ref 16] h Q from ?_)
      rw [show (rI h 16 2 : Int32) = nI (qi s) from cp.2.2.1.2.1]
      refine exf_go 2 (show Go (d + 7) true 72 176 [.ref 16, .int (nI (6 - m))] [.int ((nI (qi s)) + 1), .ref 16] h Q from ?_)
      rw [show ((nI (qi s)) + 1 : Int32) = nI ((qi s) + 1) from nI_add (qi s) 1]
      refine exf_go 5 (show Go (d + 7) true 72 183 [.ref 16, .int (nI (6 - m))] [.int ((nI (6 - m)) + 1), .ref 16] (uI h 16 2 (nI ((qi s) + 1))) Q from ?_)
      rw [show ((nI (6 - m)) + 1 : Int32) = nI ((6 - m) + 1) from nI_add (6 - m) 1]
      refine exf_go 1 (show wpC (d + 7) true 70 [.ref 16, .int (nI ((6 - m) + 1))] (uI h 16 2 (nI ((qi s) + 1))) (fun r h' => Go (d + 7) true 72 186 [.ref 16, .int (nI (6 - m))] [r] h' Q) from ?_)
      have cp4 := cp_nx cp (by omega) (by omega)
      have q4 : Fq sRc h (uI h 16 2 (nI ((qi s) + 1))) := Fq.rfl'.uI' _ _ _ rfl
      have iv4 := iv_nx iv (by omega); have hz4 := qe_nx s; have hi4 := qi_nx s
      generalize hg4 : uI h 16 2 (nI ((qi s) + 1)) = h4 at cp4 q4 ⊢
      have hb4 := cp_b cp4
      rw [show 6 - m + 1 = 6 - (m - 1) from by omega]
      have gg5 := hg _ _ iv4; have iv5 := gg5.1
      refine ih (m - 1) (by omega) _ _ _ cp4 (iv4.le (Nat.zero_le _)) (by omega) (((q4).1 23 0 rfl).1.trans hW) (fun h5 q5 cp5 hz5 => ?_) (fun h6 q6 cp6 hz6 => ?_)
      · skip
        have hb5 := cp_b cp5
        show Go (d + 7) true 72 186 [.ref 16, .int (nI (6 - m))] [.int 1] h5 Q
        refine exf_go 1 (show ((1 : Int32) = 0 → Go (d + 7) true 72 202 [.ref 16, .int (nI (6 - m))] [] h5 Q) ∧ (¬ ((1 : Int32) = 0) → Go (d + 7) true 72 189 [.ref 16, .int (nI (6 - m))] [] h5 Q) from ⟨fun c3 => ?_, fun c3 => ?_⟩)
        · skip
          exact absurd c3 (by decide)
        · skip
          refine exf_go 3 (show wpC (d + 7) true 57 [.ref 16, .int 41] h5 (fun r h' => Go (d + 7) true 72 195 [.ref 16, .int (nI (6 - m))] [r] h' Q) from ?_)
          rw [ck31]
          refine c_take (kk := 31) cp5 (by omega) (by decide) (by decide) (by decide) (fun K195 h7 q7 cp7 => ?_) (fun K195 h8 q8 cp8 => ?_)
          · skip
            have K195e := isK_e K195
            have hb7 := cp_b cp7
            have hz7 := qe_nx (inn (nx s)); have hi7 := qi_nx (inn (nx s))
            have iv7 := iv_nx iv5 (by omega)
            show Go (d + 7) true 72 195 [.ref 16, .int (nI (6 - m))] [.int 1] h7 Q
            refine exf_go 1 (show ((1 : Int32) = 0 → Go (d + 7) true 72 202 [.ref 16, .int (nI (6 - m))] [] h7 Q) ∧ (¬ ((1 : Int32) = 0) → Go (d + 7) true 72 198 [.ref 16, .int (nI (6 - m))] [] h7 Q) from ⟨fun c4 => ?_, fun c4 => ?_⟩)
            · skip
              exact absurd c4 (by decide)
            · skip
              refine exf_go 3 (show ((1 : Int32) = 0 ∨ (1 : Int32) = 1) ∧ Q (.int 1) h7 from ⟨(by first | exact Or.inl rfl | exact Or.inr rfl | assumption), ?_⟩)
              have ea : atomF b n W m inn s = (nx (inn (nx s))) := by unfold atomF; rw [if_neg (by rw [isK_n (by omega)]; decide), if_neg (by rw [isK_n (by omega)]; decide), if_neg (by rw [isK_n (by omega)]; decide), if_neg (by omega), if_pos (isK_y he (by omega)), if_neg (by omega)]; unfold eat; rw [if_pos K195]
              rw [ea] at k1; exact k1 _ (Fq.tr (Fq.tr q4 q5) q7) cp7 (by omega)
          · skip
            have hz8 : ¬ qe (fl b n 2 (inn (nx s))) = 0 := fl_ne (by decide)
            show Go (d + 7) true 72 195 [.ref 16, .int (nI (6 - m))] [.int 0] h8 Q
            refine exf_go 1 (show ((0 : Int32) = 0 → Go (d + 7) true 72 202 [.ref 16, .int (nI (6 - m))] [] h8 Q) ∧ (¬ ((0 : Int32) = 0) → Go (d + 7) true 72 198 [.ref 16, .int (nI (6 - m))] [] h8 Q) from ⟨fun c5 => ?_, fun c5 => ?_⟩)
            · skip
              refine exf_go 2 (show ((0 : Int32) = 0 ∨ (0 : Int32) = 1) ∧ Q (.int 0) h8 from ⟨(by first | exact Or.inl rfl | exact Or.inr rfl | assumption), ?_⟩)
              have ea : atomF b n W m inn s = (fl b n 2 (inn (nx s))) := by unfold atomF; rw [if_neg (by rw [isK_n (by omega)]; decide), if_neg (by rw [isK_n (by omega)]; decide), if_neg (by rw [isK_n (by omega)]; decide), if_neg (by omega), if_pos (isK_y he (by omega)), if_neg (by omega)]; unfold eat; rw [if_neg (by rw [K195]; decide)]
              rw [ea] at k0; exact k0 _ (Fq.tr (Fq.tr q4 q5) q8) cp8 (by omega)
            · skip
              exact absurd (by decide) c5
      · skip
        show Go (d + 7) true 72 186 [.ref 16, .int (nI (6 - m))] [.int 0] h6 Q
        refine exf_go 1 (show ((0 : Int32) = 0 → Go (d + 7) true 72 202 [.ref 16, .int (nI (6 - m))] [] h6 Q) ∧ (¬ ((0 : Int32) = 0) → Go (d + 7) true 72 189 [.ref 16, .int (nI (6 - m))] [] h6 Q) from ⟨fun c6 => ?_, fun c6 => ?_⟩)
        · skip
          refine exf_go 2 (show ((0 : Int32) = 0 ∨ (0 : Int32) = 1) ∧ Q (.int 0) h6 from ⟨(by first | exact Or.inl rfl | exact Or.inr rfl | assumption), ?_⟩)
          have ea : atomF b n W m inn s = (inn (nx s)) := by unfold atomF; rw [if_neg (by rw [isK_n (by omega)]; decide), if_neg (by rw [isK_n (by omega)]; decide), if_neg (by rw [isK_n (by omega)]; decide), if_neg (by omega), if_pos (isK_y he (by omega)), if_neg (by omega)]; exact eat_id hz6
          rw [ea] at k0; exact k0 _ (Fq.tr q4 q6) cp6 (by omega)
        · skip
          exact absurd (by decide) c6
    · skip
      have c2 : ¬ (6 - m) < 6 := fun q => c2 ((nI_ltI (a := (6 - m)) (b := 6) (by omega) (by omega)).mpr q)
      refine exf_go 3 (show wpC (d + 7) true 56 [.ref 16, .int 4] h (fun r h' => Go (d + 7) true 72 168 [.ref 16, .int (nI (6 - m))] [r] h' Q) from ?_)
      refine c_refuse (w := 4) cp (by omega) (by omega) (by omega) (fun h9 q9 cp9 => ?_)
      have hb9 := cp_b cp9
      have hz9 : ¬ qe (fl b n 4 s) = 0 := fl_ne (by omega)
      show Go (d + 7) true 72 168 [.ref 16, .int (nI (6 - m))] [.int 0] h9 Q
      refine exf_go 1 (show ((0 : Int32) = 0 ∨ (0 : Int32) = 1) ∧ Q (.int 0) h9 from ⟨(by first | exact Or.inl rfl | exact Or.inr rfl | assumption), ?_⟩)
      have ea : atomF b n W m inn s = (fl b n 4 s) := by unfold atomF; rw [if_neg (by rw [isK_n (by omega)]; decide), if_neg (by rw [isK_n (by omega)]; decide), if_neg (by rw [isK_n (by omega)]; decide), if_neg (by omega), if_pos (isK_y he (by omega)), if_pos (by omega)]
      rw [ea] at k0; exact k0 _ q9 cp9 (by omega)
  · skip
    have c1 : ckd (kd b n (qi s)) = 141 := by rw [nI_toInt (by omega)] at c1; omega
    have c1_0 : ¬ ckd (kd b n (qi s)) = 2 := by rw [nI_toInt (by omega)] at c1_0; omega
    have c1_1 : ¬ ckd (kd b n (qi s)) = 40 := by rw [nI_toInt (by omega)] at c1_1; omega
    have c1 : kd b n (qi s) = 13 := (ckd_inj _ (by omega) 13 (by decide)).mp (show _ = 141 from by omega)
    refine exf_go 3 (show Go (d + 7) true 72 91 [.ref 16, .int (nI (6 - m))] [.int (rI h 16 2), .ref 16] h Q from ?_)
    rw [show (rI h 16 2 : Int32) = nI (qi s) from cp.2.2.1.2.1]
    refine exf_go 2 (show Go (d + 7) true 72 93 [.ref 16, .int (nI (6 - m))] [.int ((nI (qi s)) + 1), .ref 16] h Q from ?_)
    rw [show ((nI (qi s)) + 1 : Int32) = nI ((qi s) + 1) from nI_add (qi s) 1]
    refine exf_go 8 (show rN (uI h 16 2 (nI ((qi s) + 1))) 16 5 = true ∧ (Go (d + 7) true 72 107 [.ref 16, .int (nI (6 - m))] [.int (rI h 23 0), .int 0, .ref 16, .int 1, .ref 16] (uI h 16 2 (nI ((qi s) + 1))) Q) from ⟨(cp.2.1.2.1), ?_⟩)
    rw [show (rI h 23 0 : Int32) = nI W from hW]
    refine exf_go 3 (show wpC (d + 7) true 59 [.ref 16, .int 0, .int ((nI W) - 1)] (uI h 16 2 (nI ((qi s) + 1))) (fun r h' => Go (d + 7) true 72 112 [.ref 16, .int (nI (6 - m))] [r, .int 1, .ref 16] h' Q) from ?_)
    have cp10 := cp_nx cp (by omega) (by omega)
    have q10 : Fq sRc h (uI h 16 2 (nI ((qi s) + 1))) := Fq.rfl'.uI' _ _ _ rfl
    have iv10 := iv_nx iv (by omega); have hz10 := qe_nx s; have hi10 := qi_nx s
    generalize hg10 : uI h 16 2 (nI ((qi s) + 1)) = h10 at cp10 q10 ⊢
    have hb10 := cp_b cp10
    have he11 : qe (nx s) = 0 := by omega
    have hq11 := (iv10.le (Nat.zero_le _)).2 he11
    refine c_takeN (lo := 0) (hh := W) cp10 he11 (by decide) (by first | rfl | decide) (by omega) (fun e11 h11 q11 cp11 hv11 hw11 => ?_) (fun h12 q12 cp12 hz12 => ?_)
    · skip
      have hb11 := cp_b cp11
      have hi11 := qi_nx (nx s); have hy11 := qe_nx (nx s)
      have hn11 : qn (tkn b n 0 W (nx s)) < 900 := by rw [e11]; show qn (nx s) < 900; omega
      have hz11 : qe (tkn b n 0 W (nx s)) = 0 := by rw [e11]; omega
      rw [← e11] at cp11
      show Go (d + 7) true 72 112 [.ref 16, .int (nI (6 - m))] [.int (nI (vl b n (qi (nx s)))), .int 1, .ref 16] h11 Q
      refine exf_go 1 (show wpC (d + 7) true 73 [.ref 16, .int 1, .int (nI (vl b n (qi (nx s))))] h11 (fun r h' => Go (d + 7) true 72 115 [.ref 16, .int (nI (6 - m))] [r] h' Q) from ?_)
      refine c_put (c := 1000 + vl b n (qi (nx s))) cp11 (fun z => absurd z (ng_eq (by omega) (by decide))) (fun _ => ⟨hz11, hn11, Eq.trans (show (1 : Int32) = nI 1 from rfl) (congrArg nI (dp1 (vl b n (qi (nx s))) (by omega)).1), (congrArg nI (dp1 (vl b n (qi (nx s))) (by omega)).2).symm⟩) (fun _ h13 q13 cp13 => ?_)
      have hz13 := qe_em (1000 + vl b n (qi (nx s))) (tkn b n 0 W (nx s))
      show Go (d + 7) true 72 115 [.ref 16, .int (nI (6 - m))] [.int 1] h13 Q
      refine exf_go 1 (show ((1 : Int32) = 0 ∨ (1 : Int32) = 1) ∧ Q (.int 1) h13 from ⟨(by first | exact Or.inl rfl | exact Or.inr rfl | assumption), ?_⟩)
      have ea : atomF b n W m inn s = (em (1000 + vl b n (qi (nx s))) (tkn b n 0 W (nx s))) := by unfold atomF; rw [if_neg (by rw [isK_n (by omega)]; decide), if_pos (isK_y he (by omega))]; rfl
      rw [ea] at k1; exact k1 _ (Fq.tr (Fq.tr q10 q11) q13) cp13 (by omega)
    · skip
      have cp12 : CP b n N (em (1000 + vl b n (qi (nx s))) (tkn b n 0 W (nx s))) h12 := by rw [em_id hz12]; exact cp12
      have hz12 : ¬ qe (em (1000 + vl b n (qi (nx s))) (tkn b n 0 W (nx s))) = 0 := by rw [em_id hz12]; exact hz12
      show Go (d + 7) true 72 112 [.ref 16, .int (nI (6 - m))] [.int (-1), .int 1, .ref 16] h12 Q
      refine exf_go 1 (show wpC (d + 7) true 73 [.ref 16, .int 1, .int (-1)] h12 (fun r h' => Go (d + 7) true 72 115 [.ref 16, .int (nI (6 - m))] [r] h' Q) from ?_)
      refine c_put (c := 0) cp12 (fun _ => ?_) (fun z => absurd rfl z) (fun z => absurd rfl z)
      show Go (d + 7) true 72 115 [.ref 16, .int (nI (6 - m))] [.int 0] h12 Q
      refine exf_go 1 (show ((0 : Int32) = 0 ∨ (0 : Int32) = 1) ∧ Q (.int 0) h12 from ⟨(by first | exact Or.inl rfl | exact Or.inr rfl | assumption), ?_⟩)
      have ea : atomF b n W m inn s = (em (1000 + vl b n (qi (nx s))) (tkn b n 0 W (nx s))) := by unfold atomF; rw [if_neg (by rw [isK_n (by omega)]; decide), if_pos (isK_y he (by omega))]; rfl
      rw [ea] at k0; exact k0 _ (Fq.tr q10 q12) cp12 (by omega)
  · skip
    have c1 : ckd (kd b n (qi s)) = 142 := by rw [nI_toInt (by omega)] at c1; omega
    have c1_0 : ¬ ckd (kd b n (qi s)) = 2 := by rw [nI_toInt (by omega)] at c1_0; omega
    have c1_1 : ¬ ckd (kd b n (qi s)) = 40 := by rw [nI_toInt (by omega)] at c1_1; omega
    have c1_2 : ¬ ckd (kd b n (qi s)) = 141 := by rw [nI_toInt (by omega)] at c1_2; omega
    have c1 : kd b n (qi s) = 14 := (ckd_inj _ (by omega) 14 (by decide)).mp (show _ = 142 from by omega)
    refine exf_go 3 (show Go (d + 7) true 72 121 [.ref 16, .int (nI (6 - m))] [.int (rI h 16 2), .ref 16] h Q from ?_)
    rw [show (rI h 16 2 : Int32) = nI (qi s) from cp.2.2.1.2.1]
    refine exf_go 2 (show Go (d + 7) true 72 123 [.ref 16, .int (nI (6 - m))] [.int ((nI (qi s)) + 1), .ref 16] h Q from ?_)
    rw [show ((nI (qi s)) + 1 : Int32) = nI ((qi s) + 1) from nI_add (qi s) 1]
    refine exf_go 7 (show wpC (d + 7) true 59 [.ref 16, .int 0, .int 9] (uI h 16 2 (nI ((qi s) + 1))) (fun r h' => Go (d + 7) true 72 135 [.ref 16, .int (nI (6 - m))] [r, .int 2, .ref 16] h' Q) from ?_)
    have cp14 := cp_nx cp (by omega) (by omega)
    have q14 : Fq sRc h (uI h 16 2 (nI ((qi s) + 1))) := Fq.rfl'.uI' _ _ _ rfl
    have iv14 := iv_nx iv (by omega); have hz14 := qe_nx s; have hi14 := qi_nx s
    generalize hg14 : uI h 16 2 (nI ((qi s) + 1)) = h14 at cp14 q14 ⊢
    have hb14 := cp_b cp14
    have he15 : qe (nx s) = 0 := by omega
    have hq15 := (iv14.le (Nat.zero_le _)).2 he15
    refine c_takeN (lo := 0) (hh := 10) cp14 he15 (by decide) (by first | rfl | decide) (by omega) (fun e15 h15 q15 cp15 hv15 hw15 => ?_) (fun h16 q16 cp16 hz16 => ?_)
    · skip
      have hb15 := cp_b cp15
      have hi15 := qi_nx (nx s); have hy15 := qe_nx (nx s)
      have hn15 : qn (tkn b n 0 10 (nx s)) < 900 := by rw [e15]; show qn (nx s) < 900; omega
      have hz15 : qe (tkn b n 0 10 (nx s)) = 0 := by rw [e15]; omega
      rw [← e15] at cp15
      show Go (d + 7) true 72 135 [.ref 16, .int (nI (6 - m))] [.int (nI (vl b n (qi (nx s)))), .int 2, .ref 16] h15 Q
      refine exf_go 1 (show wpC (d + 7) true 73 [.ref 16, .int 2, .int (nI (vl b n (qi (nx s))))] h15 (fun r h' => Go (d + 7) true 72 138 [.ref 16, .int (nI (6 - m))] [r] h' Q) from ?_)
      refine c_put (c := 2000 + vl b n (qi (nx s))) cp15 (fun z => absurd z (ng_eq (by omega) (by decide))) (fun _ => ⟨hz15, hn15, Eq.trans (show (2 : Int32) = nI 2 from rfl) (congrArg nI (dp2 (vl b n (qi (nx s))) (by omega)).1), (congrArg nI (dp2 (vl b n (qi (nx s))) (by omega)).2).symm⟩) (fun _ h17 q17 cp17 => ?_)
      have hz17 := qe_em (2000 + vl b n (qi (nx s))) (tkn b n 0 10 (nx s))
      show Go (d + 7) true 72 138 [.ref 16, .int (nI (6 - m))] [.int 1] h17 Q
      refine exf_go 1 (show ((1 : Int32) = 0 ∨ (1 : Int32) = 1) ∧ Q (.int 1) h17 from ⟨(by first | exact Or.inl rfl | exact Or.inr rfl | assumption), ?_⟩)
      have ea : atomF b n W m inn s = (em (2000 + vl b n (qi (nx s))) (tkn b n 0 10 (nx s))) := by unfold atomF; rw [if_neg (by rw [isK_n (by omega)]; decide), if_neg (by rw [isK_n (by omega)]; decide), if_pos (isK_y he (by omega))]; rfl
      rw [ea] at k1; exact k1 _ (Fq.tr (Fq.tr q14 q15) q17) cp17 (by omega)
    · skip
      have cp16 : CP b n N (em (2000 + vl b n (qi (nx s))) (tkn b n 0 10 (nx s))) h16 := by rw [em_id hz16]; exact cp16
      have hz16 : ¬ qe (em (2000 + vl b n (qi (nx s))) (tkn b n 0 10 (nx s))) = 0 := by rw [em_id hz16]; exact hz16
      show Go (d + 7) true 72 135 [.ref 16, .int (nI (6 - m))] [.int (-1), .int 2, .ref 16] h16 Q
      refine exf_go 1 (show wpC (d + 7) true 73 [.ref 16, .int 2, .int (-1)] h16 (fun r h' => Go (d + 7) true 72 138 [.ref 16, .int (nI (6 - m))] [r] h' Q) from ?_)
      refine c_put (c := 0) cp16 (fun _ => ?_) (fun z => absurd rfl z) (fun z => absurd rfl z)
      show Go (d + 7) true 72 138 [.ref 16, .int (nI (6 - m))] [.int 0] h16 Q
      refine exf_go 1 (show ((0 : Int32) = 0 ∨ (0 : Int32) = 1) ∧ Q (.int 0) h16 from ⟨(by first | exact Or.inl rfl | exact Or.inr rfl | assumption), ?_⟩)
      have ea : atomF b n W m inn s = (em (2000 + vl b n (qi (nx s))) (tkn b n 0 10 (nx s))) := by unfold atomF; rw [if_neg (by rw [isK_n (by omega)]; decide), if_neg (by rw [isK_n (by omega)]; decide), if_pos (isK_y he (by omega))]; rfl
      rw [ea] at k0; exact k0 _ (Fq.tr q14 q16) cp16 (by omega)
  · skip
    have c1 : ckd (kd b n (qi s)) = 143 := by rw [nI_toInt (by omega)] at c1; omega
    have c1_0 : ¬ ckd (kd b n (qi s)) = 2 := by rw [nI_toInt (by omega)] at c1_0; omega
    have c1_1 : ¬ ckd (kd b n (qi s)) = 40 := by rw [nI_toInt (by omega)] at c1_1; omega
    have c1_2 : ¬ ckd (kd b n (qi s)) = 141 := by rw [nI_toInt (by omega)] at c1_2; omega
    have c1_3 : ¬ ckd (kd b n (qi s)) = 142 := by rw [nI_toInt (by omega)] at c1_3; omega
    have c1 : kd b n (qi s) = 15 := (ckd_inj _ (by omega) 15 (by decide)).mp (show _ = 143 from by omega)
    refine exf_go 3 (show wpC (d + 7) true 74 [.ref 16, .int 3] h (fun r h' => Go (d + 7) true 72 144 [.ref 16, .int (nI (6 - m))] [r] h' Q) from ?_)
    refine c_name (c := 1010) cp iv he (by omega) (by omega) (by decide) (by decide) (fun h18 q18 cp18 => ?_)
    have hz18 := (qe_em 1010 (nx s)).trans (qe_nx s)
    show Go (d + 7) true 72 144 [.ref 16, .int (nI (6 - m))] [.int 1] h18 Q
    refine exf_go 1 (show ((1 : Int32) = 0 ∨ (1 : Int32) = 1) ∧ Q (.int 1) h18 from ⟨(by first | exact Or.inl rfl | exact Or.inr rfl | assumption), ?_⟩)
    have ea : atomF b n W m inn s = (em 1010 (nx s)) := by unfold atomF; rw [if_neg (by rw [isK_n (by omega)]; decide), if_neg (by rw [isK_n (by omega)]; decide), if_neg (by rw [isK_n (by omega)]; decide), if_pos ⟨he, by omega, by omega⟩, show 995 + kd b n (qi s) = 1010 from by omega, em_nx]
    rw [ea] at k1; exact k1 _ q18 cp18 (by omega)
  · skip
    have c1 : ckd (kd b n (qi s)) = 144 := by rw [nI_toInt (by omega)] at c1; omega
    have c1_0 : ¬ ckd (kd b n (qi s)) = 2 := by rw [nI_toInt (by omega)] at c1_0; omega
    have c1_1 : ¬ ckd (kd b n (qi s)) = 40 := by rw [nI_toInt (by omega)] at c1_1; omega
    have c1_2 : ¬ ckd (kd b n (qi s)) = 141 := by rw [nI_toInt (by omega)] at c1_2; omega
    have c1_3 : ¬ ckd (kd b n (qi s)) = 142 := by rw [nI_toInt (by omega)] at c1_3; omega
    have c1_4 : ¬ ckd (kd b n (qi s)) = 143 := by rw [nI_toInt (by omega)] at c1_4; omega
    have c1 : kd b n (qi s) = 16 := (ckd_inj _ (by omega) 16 (by decide)).mp (show _ = 144 from by omega)
    refine exf_go 3 (show wpC (d + 7) true 74 [.ref 16, .int 4] h (fun r h' => Go (d + 7) true 72 150 [.ref 16, .int (nI (6 - m))] [r] h' Q) from ?_)
    refine c_name (c := 1011) cp iv he (by omega) (by omega) (by decide) (by decide) (fun h19 q19 cp19 => ?_)
    have hz19 := (qe_em 1011 (nx s)).trans (qe_nx s)
    show Go (d + 7) true 72 150 [.ref 16, .int (nI (6 - m))] [.int 1] h19 Q
    refine exf_go 1 (show ((1 : Int32) = 0 ∨ (1 : Int32) = 1) ∧ Q (.int 1) h19 from ⟨(by first | exact Or.inl rfl | exact Or.inr rfl | assumption), ?_⟩)
    have ea : atomF b n W m inn s = (em 1011 (nx s)) := by unfold atomF; rw [if_neg (by rw [isK_n (by omega)]; decide), if_neg (by rw [isK_n (by omega)]; decide), if_neg (by rw [isK_n (by omega)]; decide), if_pos ⟨he, by omega, by omega⟩, show 995 + kd b n (qi s) = 1011 from by omega, em_nx]
    rw [ea] at k1; exact k1 _ q19 cp19 (by omega)
  · skip
    have c1 : ckd (kd b n (qi s)) = 145 := by rw [nI_toInt (by omega)] at c1; omega
    have c1_0 : ¬ ckd (kd b n (qi s)) = 2 := by rw [nI_toInt (by omega)] at c1_0; omega
    have c1_1 : ¬ ckd (kd b n (qi s)) = 40 := by rw [nI_toInt (by omega)] at c1_1; omega
    have c1_2 : ¬ ckd (kd b n (qi s)) = 141 := by rw [nI_toInt (by omega)] at c1_2; omega
    have c1_3 : ¬ ckd (kd b n (qi s)) = 142 := by rw [nI_toInt (by omega)] at c1_3; omega
    have c1_4 : ¬ ckd (kd b n (qi s)) = 143 := by rw [nI_toInt (by omega)] at c1_4; omega
    have c1_5 : ¬ ckd (kd b n (qi s)) = 144 := by rw [nI_toInt (by omega)] at c1_5; omega
    have c1 : kd b n (qi s) = 17 := (ckd_inj _ (by omega) 17 (by decide)).mp (show _ = 145 from by omega)
    refine exf_go 3 (show wpC (d + 7) true 74 [.ref 16, .int 5] h (fun r h' => Go (d + 7) true 72 156 [.ref 16, .int (nI (6 - m))] [r] h' Q) from ?_)
    refine c_name (c := 1012) cp iv he (by omega) (by omega) (by decide) (by decide) (fun h20 q20 cp20 => ?_)
    have hz20 := (qe_em 1012 (nx s)).trans (qe_nx s)
    show Go (d + 7) true 72 156 [.ref 16, .int (nI (6 - m))] [.int 1] h20 Q
    refine exf_go 1 (show ((1 : Int32) = 0 ∨ (1 : Int32) = 1) ∧ Q (.int 1) h20 from ⟨(by first | exact Or.inl rfl | exact Or.inr rfl | assumption), ?_⟩)
    have ea : atomF b n W m inn s = (em 1012 (nx s)) := by unfold atomF; rw [if_neg (by rw [isK_n (by omega)]; decide), if_neg (by rw [isK_n (by omega)]; decide), if_neg (by rw [isK_n (by omega)]; decide), if_pos ⟨he, by omega, by omega⟩, show 995 + kd b n (qi s) = 1012 from by omega, em_nx]
    rw [ea] at k1; exact k1 _ q20 cp20 (by omega)
  · skip
    have c1_0 : ¬ ckd (kd b n (qi s)) = 2 := by rw [nI_toInt (by omega)] at c1_0; omega
    have c1_1 : ¬ ckd (kd b n (qi s)) = 40 := by rw [nI_toInt (by omega)] at c1_1; omega
    have c1_2 : ¬ ckd (kd b n (qi s)) = 141 := by rw [nI_toInt (by omega)] at c1_2; omega
    have c1_3 : ¬ ckd (kd b n (qi s)) = 142 := by rw [nI_toInt (by omega)] at c1_3; omega
    have c1_4 : ¬ ckd (kd b n (qi s)) = 143 := by rw [nI_toInt (by omega)] at c1_4; omega
    have c1_5 : ¬ ckd (kd b n (qi s)) = 144 := by rw [nI_toInt (by omega)] at c1_5; omega
    have c1_6 : ¬ ckd (kd b n (qi s)) = 145 := by rw [nI_toInt (by omega)] at c1_6; omega
    have c1_0 : ¬ kd b n (qi s) = 21 := fun z => absurd (show ckd (kd b n (qi s)) = 2 from by rw [z]; rfl) (by omega)
    have c1_1 : ¬ kd b n (qi s) = 30 := fun z => absurd (show ckd (kd b n (qi s)) = 40 from by rw [z]; rfl) (by omega)
    have c1_2 : ¬ kd b n (qi s) = 13 := fun z => absurd (show ckd (kd b n (qi s)) = 141 from by rw [z]; rfl) (by omega)
    have c1_3 : ¬ kd b n (qi s) = 14 := fun z => absurd (show ckd (kd b n (qi s)) = 142 from by rw [z]; rfl) (by omega)
    have c1_4 : ¬ kd b n (qi s) = 15 := fun z => absurd (show ckd (kd b n (qi s)) = 143 from by rw [z]; rfl) (by omega)
    have c1_5 : ¬ kd b n (qi s) = 16 := fun z => absurd (show ckd (kd b n (qi s)) = 144 from by rw [z]; rfl) (by omega)
    have c1_6 : ¬ kd b n (qi s) = 17 := fun z => absurd (show ckd (kd b n (qi s)) = 145 from by rw [z]; rfl) (by omega)
    refine exf_go 3 (show wpC (d + 7) true 56 [.ref 16, .int 2] h (fun r h' => Go (d + 7) true 72 209 [.ref 16, .int (nI (6 - m))] [r] h' Q) from ?_)
    refine c_refuse (w := 2) cp (by omega) (by omega) (by omega) (fun h21 q21 cp21 => ?_)
    have hb21 := cp_b cp21
    have hz21 : ¬ qe (fl b n 2 s) = 0 := fl_ne (by omega)
    show Go (d + 7) true 72 209 [.ref 16, .int (nI (6 - m))] [.int 0] h21 Q
    refine exf_go 1 (show ((0 : Int32) = 0 ∨ (0 : Int32) = 1) ∧ Q (.int 0) h21 from ⟨(by first | exact Or.inl rfl | exact Or.inr rfl | assumption), ?_⟩)
    have ea : atomF b n W m inn s = (fl b n 2 s) := by unfold atomF; rw [if_neg (by rw [isK_n (by omega)]; decide), if_neg (by rw [isK_n (by omega)]; decide), if_neg (by rw [isK_n (by omega)]; decide), if_neg (by omega), if_neg (by rw [isK_n (by omega)]; decide)]
    rw [ea] at k0; exact k0 _ q21 cp21 (by omega)
theorem c_atom {d : Nat} {b : Nat → Nat} {n N W m : Nat} {inn : PsG → PsG} (hW4 : W ≤ 4) (hm : m ≤ 6) (hg : Gd b n inn) (ih : ∀ q, m = q + 1 → CC b n N W (d + 7) 70 (6 - q) inn) : CC b n N W (d + 8) 72 (6 - m) (atomF b n W m inn) := fun _ _ _ cp iv he hW k1 k0 => c_atom0 hW4 hm hg ih cp iv he hW k1 k0
theorem c_termW0 {d : Nat} {h : Hp} {b : Nat → Nat} {n N : Nat} {s : PsG} {Q : Po} {W dp : Nat} {F : PsG → PsG} (gF : Gd b n F) (hF : CC b n N W (d + 7) 72 dp F) (cp : CP b n N s h) (iv : IV b n 0 s) (he : qe s = 0) (hW : rI h 23 0 = nI W) (k1 : ∀ h1, Fq sRc h h1 → CP b n N (binW b n 29 3002 F s) h1 → qe (binW b n 29 3002 F s) = 0 → Q (.int 1) h1) (k0 : ∀ h1, Fq sRc h h1 → CP b n N (binW b n 29 3002 F s) h1 → ¬ qe (binW b n 29 3002 F s) = 0 → Q (.int 0) h1) : wpC (d + 8) true 71 [.ref 16, .int (nI dp)] h Q := by
  have hb := cp_b cp
  refine go_in rfl ?_
  refine exf_go 3 (show wpC (d + 7) true 72 [.ref 16, .int (nI dp)] h (fun r h' => Go (d + 7) true 71 5 [.ref 16, .int (nI dp), mk_] [r] h' Q) from ?_)
  have gg1 := gF _ _ iv; have iv1 := gg1.1
  refine hF _ _ _ cp (iv.le (Nat.zero_le _)) (by omega) (hW) (fun h1 q1 cp1 hz1 => ?_) (fun h2 q2 cp2 hz2 => ?_)
  · skip
    have hb1 := cp_b cp1
    show Go (d + 7) true 71 5 [.ref 16, .int (nI dp), mk_] [.int 1] h1 Q
    refine exf_go 1 (show (¬ (1 : Int32) = 0 → Go (d + 7) true 71 10 [.ref 16, .int (nI dp), mk_] [] h1 Q) ∧ (¬ (¬ (1 : Int32) = 0) → Go (d + 7) true 71 8 [.ref 16, .int (nI dp), mk_] [] h1 Q) from ⟨fun c1 => ?_, fun c1 => ?_⟩)
    · skip
      refine exf_go 2 (show Go (d + 7) true 71 12 [.ref 16, .int (nI dp), .int 0] [] h1 Q from ?_)
      have L12 : ∀ (k12 : Nat) (j : Nat) (s1 : PsG) (hL : Hp), (900 - j) < k12 → (j ≤ 900) → (Fq sRc h hL) → (CP b n N s1 hL) → (IV b n 0 s1) → (qe s1 = 0) → (binW b n 29 3002 F s = whl (isK b n 29) (fun s => em 3002 (F (nx s))) (900 - j) s1) → Go (d + 7) true 71 12 [.ref 16, .int (nI dp), .int (nI j)] [] hL Q := by
        intro k12
        induction k12 with
        | zero => intro j s1 hL hk; exact absurd hk (Nat.not_lt_zero _)
        | succ k12 ih12 =>
          intro j s1 hL hk hj qL cpL ivL heL hwh
          have hbL := cp_b cpL
          refine exf_go 3 (show (900 ≤ (nI j) → Go (d + 7) true 71 54 [.ref 16, .int (nI dp), .int (nI j)] [] hL Q) ∧ (¬ (900 ≤ (nI j)) → Go (d + 7) true 71 19 [.ref 16, .int (nI dp), .int (nI j)] [] hL Q) from ⟨fun c2 => ?_, fun c2 => ?_⟩)
          · skip
            have c2 : 900 ≤ j := (nI_leI (a := 900) (b := j) (by omega) (by omega)).mp c2
            refine exf_go 2 (show ((1 : Int32) = 0 ∨ (1 : Int32) = 1) ∧ Q (.int 1) hL from ⟨(by first | exact Or.inl rfl | exact Or.inr rfl | assumption), ?_⟩)
            rw [hwh, whl_0 (by omega)] at k1; exact k1 _ qL cpL heL
          · skip
            have c2 : ¬ 900 ≤ j := fun q => c2 ((nI_leI (a := 900) (b := j) (by omega) (by omega)).mpr q)
            refine exf_go 3 (show wpC (d + 7) true 58 [.ref 16, .int 42] hL (fun r h' => Go (d + 7) true 71 25 [.ref 16, .int (nI dp), .int (nI j)] [r] h' Q) from ?_)
            rw [ck29]
            refine c_takeIf (kk := 29) cpL (by omega) (by decide) (by decide) (by decide) (fun K25 h3 q3 cp3 => ?_) (fun K25 => ?_)
            · skip
              have K25e := isK_e K25
              have hb3 := cp_b cp3
              have hz3 := qe_nx s1; have hi3 := qi_nx s1
              have iv3 := iv_nx ivL (by omega)
              show Go (d + 7) true 71 25 [.ref 16, .int (nI dp), .int (nI j)] [.int 1] h3 Q
              refine exf_go 1 (show ((1 : Int32) = 0 → Go (d + 7) true 71 54 [.ref 16, .int (nI dp), .int (nI j)] [] h3 Q) ∧ (¬ ((1 : Int32) = 0) → Go (d + 7) true 71 28 [.ref 16, .int (nI dp), .int (nI j)] [] h3 Q) from ⟨fun c3 => ?_, fun c3 => ?_⟩)
              · skip
                exact absurd c3 (by decide)
              · skip
                refine exf_go 3 (show wpC (d + 7) true 72 [.ref 16, .int (nI dp)] h3 (fun r h' => Go (d + 7) true 71 33 [.ref 16, .int (nI dp), .int (nI j)] [r] h' Q) from ?_)
                have gg4 := gF _ _ iv3; have iv4 := gg4.1
                refine hF _ _ _ cp3 (iv3.le (Nat.zero_le _)) (by omega) ((((Fq.tr qL q3)).1 23 0 rfl).1.trans hW) (fun h4 q4 cp4 hz4 => ?_) (fun h5 q5 cp5 hz5 => ?_)
                · skip
                  have hb4 := cp_b cp4
                  show Go (d + 7) true 71 33 [.ref 16, .int (nI dp), .int (nI j)] [.int 1] h4 Q
                  refine exf_go 1 (show (¬ (1 : Int32) = 0 → Go (d + 7) true 71 38 [.ref 16, .int (nI dp), .int (nI j)] [] h4 Q) ∧ (¬ (¬ (1 : Int32) = 0) → Go (d + 7) true 71 36 [.ref 16, .int (nI dp), .int (nI j)] [] h4 Q) from ⟨fun c4 => ?_, fun c4 => ?_⟩)
                  · skip
                    refine exf_go 5 (show rN h4 16 6 = true ∧ (wpC (d + 7) true 3 [.ref 17, .int 9, .int 0] h4 (fun _ h' => Go (d + 7) true 71 48 [.ref 16, .int (nI dp), .int (nI j)] [] h' Q)) from ⟨(cp4.2.1.2.2), ?_⟩)
                    have hq6 := iv4.2 (by omega)
                    refine c_emit (c := 3002) cp4 (by omega) (by omega) (by decide) (by decide) (fun h6 q6 cp6 => ?_)
                    have hb6 := cp_b cp6
                    have hz6 := qe_em 3002 (F (nx s1)); have hi6 := qi_em 3002 (F (nx s1))
                    show Go (d + 7) true 71 48 [.ref 16, .int (nI dp), .int (nI j)] [] h6 Q
                    refine exf_go 1 (show Go (d + 7) true 71 51 [.ref 16, .int (nI dp), .int ((nI j) + 1)] [] h6 Q from ?_)
                    rw [show ((nI j) + 1 : Int32) = nI (j + 1) from nI_add j 1]
                    refine exf_go 1 (show Go (d + 7) true 71 12 [.ref 16, .int (nI dp), .int (nI (j + 1))] [] h6 Q from ?_)
                    exact ih12 (j + 1) _ h6 (by omega) (by omega) (Fq.tr (Fq.tr (Fq.tr qL q3) q4) q6) cp6 (iv_em gg4.1) (by omega) (by rw [hwh]; exact whl_y (by omega) K25)
                  · skip
                    exact absurd (by decide) c4
                · skip
                  show Go (d + 7) true 71 33 [.ref 16, .int (nI dp), .int (nI j)] [.int 0] h5 Q
                  refine exf_go 1 (show (¬ (0 : Int32) = 0 → Go (d + 7) true 71 38 [.ref 16, .int (nI dp), .int (nI j)] [] h5 Q) ∧ (¬ (¬ (0 : Int32) = 0) → Go (d + 7) true 71 36 [.ref 16, .int (nI dp), .int (nI j)] [] h5 Q) from ⟨fun c5 => ?_, fun c5 => ?_⟩)
                  · skip
                    exact absurd c5 (by decide)
                  · skip
                    refine exf_go 2 (show ((0 : Int32) = 0 ∨ (0 : Int32) = 1) ∧ Q (.int 0) h5 from ⟨(by first | exact Or.inl rfl | exact Or.inr rfl | assumption), ?_⟩)
                    rw [hwh, whl_f (by omega) K25 hz5] at k0; exact k0 _ (Fq.tr (Fq.tr qL q3) q5) cp5 hz5
            · skip
              show Go (d + 7) true 71 25 [.ref 16, .int (nI dp), .int (nI j)] [.int 0] hL Q
              refine exf_go 1 (show ((0 : Int32) = 0 → Go (d + 7) true 71 54 [.ref 16, .int (nI dp), .int (nI j)] [] hL Q) ∧ (¬ ((0 : Int32) = 0) → Go (d + 7) true 71 28 [.ref 16, .int (nI dp), .int (nI j)] [] hL Q) from ⟨fun c6 => ?_, fun c6 => ?_⟩)
              · skip
                refine exf_go 2 (show ((1 : Int32) = 0 ∨ (1 : Int32) = 1) ∧ Q (.int 1) hL from ⟨(by first | exact Or.inl rfl | exact Or.inr rfl | assumption), ?_⟩)
                rw [hwh, whl_n K25] at k1; exact k1 _ qL cpL heL
              · skip
                exact absurd (by decide) c6
      exact L12 (900 + 1) 0 _ h1 (by omega) (by omega) q1 cp1 gg1.1 hz1 rfl
    · skip
      exact absurd (by decide) c1
  · skip
    show Go (d + 7) true 71 5 [.ref 16, .int (nI dp), mk_] [.int 0] h2 Q
    refine exf_go 1 (show (¬ (0 : Int32) = 0 → Go (d + 7) true 71 10 [.ref 16, .int (nI dp), mk_] [] h2 Q) ∧ (¬ (¬ (0 : Int32) = 0) → Go (d + 7) true 71 8 [.ref 16, .int (nI dp), mk_] [] h2 Q) from ⟨fun c7 => ?_, fun c7 => ?_⟩)
    · skip
      exact absurd c7 (by decide)
    · skip
      refine exf_go 2 (show ((0 : Int32) = 0 ∨ (0 : Int32) = 1) ∧ Q (.int 0) h2 from ⟨(by first | exact Or.inl rfl | exact Or.inr rfl | assumption), ?_⟩)
      have e9 : binW b n 29 3002 F s = F s := by unfold binW; exact whl_n (isK_id hz2)
      rw [e9] at k0; exact k0 _ q2 cp2 hz2
theorem c_termW {d : Nat} {b : Nat → Nat} {n N W dp : Nat} {F : PsG → PsG} (gF : Gd b n F) (hF : CC b n N W (d + 7) 72 dp F) : CC b n N W (d + 8) 71 dp (binW b n 29 3002 F) := fun _ _ _ cp iv he hW k1 k0 => c_termW0 gF hF cp iv he hW k1 k0
theorem c_allW0 {d : Nat} {h : Hp} {b : Nat → Nat} {n N : Nat} {s : PsG} {Q : Po} {W dp : Nat} {F : PsG → PsG} (gF : Gd b n F) (hF : CC b n N W (d + 7) 68 dp F) (cp : CP b n N s h) (iv : IV b n 0 s) (he : qe s = 0) (hW : rI h 23 0 = nI W) (k1 : ∀ h1, Fq sRc h h1 → CP b n N (binW b n 11 3006 F s) h1 → qe (binW b n 11 3006 F s) = 0 → Q (.int 1) h1) (k0 : ∀ h1, Fq sRc h h1 → CP b n N (binW b n 11 3006 F s) h1 → ¬ qe (binW b n 11 3006 F s) = 0 → Q (.int 0) h1) : wpC (d + 8) true 67 [.ref 16, .int (nI dp)] h Q := by
  have hb := cp_b cp
  refine go_in rfl ?_
  refine exf_go 3 (show wpC (d + 7) true 68 [.ref 16, .int (nI dp)] h (fun r h' => Go (d + 7) true 67 5 [.ref 16, .int (nI dp), mk_] [r] h' Q) from ?_)
  have gg1 := gF _ _ iv; have iv1 := gg1.1
  refine hF _ _ _ cp (iv.le (Nat.zero_le _)) (by omega) (hW) (fun h1 q1 cp1 hz1 => ?_) (fun h2 q2 cp2 hz2 => ?_)
  · skip
    have hb1 := cp_b cp1
    show Go (d + 7) true 67 5 [.ref 16, .int (nI dp), mk_] [.int 1] h1 Q
    refine exf_go 1 (show (¬ (1 : Int32) = 0 → Go (d + 7) true 67 10 [.ref 16, .int (nI dp), mk_] [] h1 Q) ∧ (¬ (¬ (1 : Int32) = 0) → Go (d + 7) true 67 8 [.ref 16, .int (nI dp), mk_] [] h1 Q) from ⟨fun c1 => ?_, fun c1 => ?_⟩)
    · skip
      refine exf_go 2 (show Go (d + 7) true 67 12 [.ref 16, .int (nI dp), .int 0] [] h1 Q from ?_)
      have L12 : ∀ (k12 : Nat) (j : Nat) (s1 : PsG) (hL : Hp), (900 - j) < k12 → (j ≤ 900) → (Fq sRc h hL) → (CP b n N s1 hL) → (IV b n 0 s1) → (qe s1 = 0) → (binW b n 11 3006 F s = whl (isK b n 11) (fun s => em 3006 (F (nx s))) (900 - j) s1) → Go (d + 7) true 67 12 [.ref 16, .int (nI dp), .int (nI j)] [] hL Q := by
        intro k12
        induction k12 with
        | zero => intro j s1 hL hk; exact absurd hk (Nat.not_lt_zero _)
        | succ k12 ih12 =>
          intro j s1 hL hk hj qL cpL ivL heL hwh
          have hbL := cp_b cpL
          refine exf_go 3 (show (900 ≤ (nI j) → Go (d + 7) true 67 55 [.ref 16, .int (nI dp), .int (nI j)] [] hL Q) ∧ (¬ (900 ≤ (nI j)) → Go (d + 7) true 67 19 [.ref 16, .int (nI dp), .int (nI j)] [] hL Q) from ⟨fun c2 => ?_, fun c2 => ?_⟩)
          · skip
            have c2 : 900 ≤ j := (nI_leI (a := 900) (b := j) (by omega) (by omega)).mp c2
            refine exf_go 2 (show ((1 : Int32) = 0 ∨ (1 : Int32) = 1) ∧ Q (.int 1) hL from ⟨(by first | exact Or.inl rfl | exact Or.inr rfl | assumption), ?_⟩)
            rw [hwh, whl_0 (by omega)] at k1; exact k1 _ qL cpL heL
          · skip
            have c2 : ¬ 900 ≤ j := fun q => c2 ((nI_leI (a := 900) (b := j) (by omega) (by omega)).mpr q)
            refine exf_go 3 (show wpC (d + 7) true 58 [.ref 16, .int 139] hL (fun r h' => Go (d + 7) true 67 26 [.ref 16, .int (nI dp), .int (nI j)] [r] h' Q) from ?_)
            rw [ck11]
            refine c_takeIf (kk := 11) cpL (by omega) (by decide) (by decide) (by decide) (fun K26 h3 q3 cp3 => ?_) (fun K26 => ?_)
            · skip
              have K26e := isK_e K26
              have hb3 := cp_b cp3
              have hz3 := qe_nx s1; have hi3 := qi_nx s1
              have iv3 := iv_nx ivL (by omega)
              show Go (d + 7) true 67 26 [.ref 16, .int (nI dp), .int (nI j)] [.int 1] h3 Q
              refine exf_go 1 (show ((1 : Int32) = 0 → Go (d + 7) true 67 55 [.ref 16, .int (nI dp), .int (nI j)] [] h3 Q) ∧ (¬ ((1 : Int32) = 0) → Go (d + 7) true 67 29 [.ref 16, .int (nI dp), .int (nI j)] [] h3 Q) from ⟨fun c3 => ?_, fun c3 => ?_⟩)
              · skip
                exact absurd c3 (by decide)
              · skip
                refine exf_go 3 (show wpC (d + 7) true 68 [.ref 16, .int (nI dp)] h3 (fun r h' => Go (d + 7) true 67 34 [.ref 16, .int (nI dp), .int (nI j)] [r] h' Q) from ?_)
                have gg4 := gF _ _ iv3; have iv4 := gg4.1
                refine hF _ _ _ cp3 (iv3.le (Nat.zero_le _)) (by omega) ((((Fq.tr qL q3)).1 23 0 rfl).1.trans hW) (fun h4 q4 cp4 hz4 => ?_) (fun h5 q5 cp5 hz5 => ?_)
                · skip
                  have hb4 := cp_b cp4
                  show Go (d + 7) true 67 34 [.ref 16, .int (nI dp), .int (nI j)] [.int 1] h4 Q
                  refine exf_go 1 (show (¬ (1 : Int32) = 0 → Go (d + 7) true 67 39 [.ref 16, .int (nI dp), .int (nI j)] [] h4 Q) ∧ (¬ (¬ (1 : Int32) = 0) → Go (d + 7) true 67 37 [.ref 16, .int (nI dp), .int (nI j)] [] h4 Q) from ⟨fun c4 => ?_, fun c4 => ?_⟩)
                  · skip
                    refine exf_go 5 (show rN h4 16 6 = true ∧ (wpC (d + 7) true 3 [.ref 17, .int 13, .int 0] h4 (fun _ h' => Go (d + 7) true 67 49 [.ref 16, .int (nI dp), .int (nI j)] [] h' Q)) from ⟨(cp4.2.1.2.2), ?_⟩)
                    have hq6 := iv4.2 (by omega)
                    refine c_emit (c := 3006) cp4 (by omega) (by omega) (by decide) (by decide) (fun h6 q6 cp6 => ?_)
                    have hb6 := cp_b cp6
                    have hz6 := qe_em 3006 (F (nx s1)); have hi6 := qi_em 3006 (F (nx s1))
                    show Go (d + 7) true 67 49 [.ref 16, .int (nI dp), .int (nI j)] [] h6 Q
                    refine exf_go 1 (show Go (d + 7) true 67 52 [.ref 16, .int (nI dp), .int ((nI j) + 1)] [] h6 Q from ?_)
                    rw [show ((nI j) + 1 : Int32) = nI (j + 1) from nI_add j 1]
                    refine exf_go 1 (show Go (d + 7) true 67 12 [.ref 16, .int (nI dp), .int (nI (j + 1))] [] h6 Q from ?_)
                    exact ih12 (j + 1) _ h6 (by omega) (by omega) (Fq.tr (Fq.tr (Fq.tr qL q3) q4) q6) cp6 (iv_em gg4.1) (by omega) (by rw [hwh]; exact whl_y (by omega) K26)
                  · skip
                    exact absurd (by decide) c4
                · skip
                  show Go (d + 7) true 67 34 [.ref 16, .int (nI dp), .int (nI j)] [.int 0] h5 Q
                  refine exf_go 1 (show (¬ (0 : Int32) = 0 → Go (d + 7) true 67 39 [.ref 16, .int (nI dp), .int (nI j)] [] h5 Q) ∧ (¬ (¬ (0 : Int32) = 0) → Go (d + 7) true 67 37 [.ref 16, .int (nI dp), .int (nI j)] [] h5 Q) from ⟨fun c5 => ?_, fun c5 => ?_⟩)
                  · skip
                    exact absurd c5 (by decide)
                  · skip
                    refine exf_go 2 (show ((0 : Int32) = 0 ∨ (0 : Int32) = 1) ∧ Q (.int 0) h5 from ⟨(by first | exact Or.inl rfl | exact Or.inr rfl | assumption), ?_⟩)
                    rw [hwh, whl_f (by omega) K26 hz5] at k0; exact k0 _ (Fq.tr (Fq.tr qL q3) q5) cp5 hz5
            · skip
              show Go (d + 7) true 67 26 [.ref 16, .int (nI dp), .int (nI j)] [.int 0] hL Q
              refine exf_go 1 (show ((0 : Int32) = 0 → Go (d + 7) true 67 55 [.ref 16, .int (nI dp), .int (nI j)] [] hL Q) ∧ (¬ ((0 : Int32) = 0) → Go (d + 7) true 67 29 [.ref 16, .int (nI dp), .int (nI j)] [] hL Q) from ⟨fun c6 => ?_, fun c6 => ?_⟩)
              · skip
                refine exf_go 2 (show ((1 : Int32) = 0 ∨ (1 : Int32) = 1) ∧ Q (.int 1) hL from ⟨(by first | exact Or.inl rfl | exact Or.inr rfl | assumption), ?_⟩)
                rw [hwh, whl_n K26] at k1; exact k1 _ qL cpL heL
              · skip
                exact absurd (by decide) c6
      exact L12 (900 + 1) 0 _ h1 (by omega) (by omega) q1 cp1 gg1.1 hz1 rfl
    · skip
      exact absurd (by decide) c1
  · skip
    show Go (d + 7) true 67 5 [.ref 16, .int (nI dp), mk_] [.int 0] h2 Q
    refine exf_go 1 (show (¬ (0 : Int32) = 0 → Go (d + 7) true 67 10 [.ref 16, .int (nI dp), mk_] [] h2 Q) ∧ (¬ (¬ (0 : Int32) = 0) → Go (d + 7) true 67 8 [.ref 16, .int (nI dp), mk_] [] h2 Q) from ⟨fun c7 => ?_, fun c7 => ?_⟩)
    · skip
      exact absurd c7 (by decide)
    · skip
      refine exf_go 2 (show ((0 : Int32) = 0 ∨ (0 : Int32) = 1) ∧ Q (.int 0) h2 from ⟨(by first | exact Or.inl rfl | exact Or.inr rfl | assumption), ?_⟩)
      have e9 : binW b n 11 3006 F s = F s := by unfold binW; exact whl_n (isK_id hz2)
      rw [e9] at k0; exact k0 _ q2 cp2 hz2
theorem c_allW {d : Nat} {b : Nat → Nat} {n N W dp : Nat} {F : PsG → PsG} (gF : Gd b n F) (hF : CC b n N W (d + 7) 68 dp F) : CC b n N W (d + 8) 67 dp (binW b n 11 3006 F) := fun _ _ _ cp iv he hW k1 k0 => c_allW0 gF hF cp iv he hW k1 k0
theorem c_truthW0 {d : Nat} {h : Hp} {b : Nat → Nat} {n N : Nat} {s : PsG} {Q : Po} {W dp : Nat} {F : PsG → PsG} (gF : Gd b n F) (hF : CC b n N W (d + 7) 67 dp F) (cp : CP b n N s h) (iv : IV b n 0 s) (he : qe s = 0) (hW : rI h 23 0 = nI W) (k1 : ∀ h1, Fq sRc h h1 → CP b n N (binW b n 10 3007 F s) h1 → qe (binW b n 10 3007 F s) = 0 → Q (.int 1) h1) (k0 : ∀ h1, Fq sRc h h1 → CP b n N (binW b n 10 3007 F s) h1 → ¬ qe (binW b n 10 3007 F s) = 0 → Q (.int 0) h1) : wpC (d + 8) true 66 [.ref 16, .int (nI dp)] h Q := by
  have hb := cp_b cp
  refine go_in rfl ?_
  refine exf_go 3 (show wpC (d + 7) true 67 [.ref 16, .int (nI dp)] h (fun r h' => Go (d + 7) true 66 5 [.ref 16, .int (nI dp), mk_] [r] h' Q) from ?_)
  have gg1 := gF _ _ iv; have iv1 := gg1.1
  refine hF _ _ _ cp (iv.le (Nat.zero_le _)) (by omega) (hW) (fun h1 q1 cp1 hz1 => ?_) (fun h2 q2 cp2 hz2 => ?_)
  · skip
    have hb1 := cp_b cp1
    show Go (d + 7) true 66 5 [.ref 16, .int (nI dp), mk_] [.int 1] h1 Q
    refine exf_go 1 (show (¬ (1 : Int32) = 0 → Go (d + 7) true 66 10 [.ref 16, .int (nI dp), mk_] [] h1 Q) ∧ (¬ (¬ (1 : Int32) = 0) → Go (d + 7) true 66 8 [.ref 16, .int (nI dp), mk_] [] h1 Q) from ⟨fun c1 => ?_, fun c1 => ?_⟩)
    · skip
      refine exf_go 2 (show Go (d + 7) true 66 12 [.ref 16, .int (nI dp), .int 0] [] h1 Q from ?_)
      have L12 : ∀ (k12 : Nat) (j : Nat) (s1 : PsG) (hL : Hp), (900 - j) < k12 → (j ≤ 900) → (Fq sRc h hL) → (CP b n N s1 hL) → (IV b n 0 s1) → (qe s1 = 0) → (binW b n 10 3007 F s = whl (isK b n 10) (fun s => em 3007 (F (nx s))) (900 - j) s1) → Go (d + 7) true 66 12 [.ref 16, .int (nI dp), .int (nI j)] [] hL Q := by
        intro k12
        induction k12 with
        | zero => intro j s1 hL hk; exact absurd hk (Nat.not_lt_zero _)
        | succ k12 ih12 =>
          intro j s1 hL hk hj qL cpL ivL heL hwh
          have hbL := cp_b cpL
          refine exf_go 3 (show (900 ≤ (nI j) → Go (d + 7) true 66 55 [.ref 16, .int (nI dp), .int (nI j)] [] hL Q) ∧ (¬ (900 ≤ (nI j)) → Go (d + 7) true 66 19 [.ref 16, .int (nI dp), .int (nI j)] [] hL Q) from ⟨fun c2 => ?_, fun c2 => ?_⟩)
          · skip
            have c2 : 900 ≤ j := (nI_leI (a := 900) (b := j) (by omega) (by omega)).mp c2
            refine exf_go 2 (show ((1 : Int32) = 0 ∨ (1 : Int32) = 1) ∧ Q (.int 1) hL from ⟨(by first | exact Or.inl rfl | exact Or.inr rfl | assumption), ?_⟩)
            rw [hwh, whl_0 (by omega)] at k1; exact k1 _ qL cpL heL
          · skip
            have c2 : ¬ 900 ≤ j := fun q => c2 ((nI_leI (a := 900) (b := j) (by omega) (by omega)).mpr q)
            refine exf_go 3 (show wpC (d + 7) true 58 [.ref 16, .int 138] hL (fun r h' => Go (d + 7) true 66 26 [.ref 16, .int (nI dp), .int (nI j)] [r] h' Q) from ?_)
            rw [ck10]
            refine c_takeIf (kk := 10) cpL (by omega) (by decide) (by decide) (by decide) (fun K26 h3 q3 cp3 => ?_) (fun K26 => ?_)
            · skip
              have K26e := isK_e K26
              have hb3 := cp_b cp3
              have hz3 := qe_nx s1; have hi3 := qi_nx s1
              have iv3 := iv_nx ivL (by omega)
              show Go (d + 7) true 66 26 [.ref 16, .int (nI dp), .int (nI j)] [.int 1] h3 Q
              refine exf_go 1 (show ((1 : Int32) = 0 → Go (d + 7) true 66 55 [.ref 16, .int (nI dp), .int (nI j)] [] h3 Q) ∧ (¬ ((1 : Int32) = 0) → Go (d + 7) true 66 29 [.ref 16, .int (nI dp), .int (nI j)] [] h3 Q) from ⟨fun c3 => ?_, fun c3 => ?_⟩)
              · skip
                exact absurd c3 (by decide)
              · skip
                refine exf_go 3 (show wpC (d + 7) true 67 [.ref 16, .int (nI dp)] h3 (fun r h' => Go (d + 7) true 66 34 [.ref 16, .int (nI dp), .int (nI j)] [r] h' Q) from ?_)
                have gg4 := gF _ _ iv3; have iv4 := gg4.1
                refine hF _ _ _ cp3 (iv3.le (Nat.zero_le _)) (by omega) ((((Fq.tr qL q3)).1 23 0 rfl).1.trans hW) (fun h4 q4 cp4 hz4 => ?_) (fun h5 q5 cp5 hz5 => ?_)
                · skip
                  have hb4 := cp_b cp4
                  show Go (d + 7) true 66 34 [.ref 16, .int (nI dp), .int (nI j)] [.int 1] h4 Q
                  refine exf_go 1 (show (¬ (1 : Int32) = 0 → Go (d + 7) true 66 39 [.ref 16, .int (nI dp), .int (nI j)] [] h4 Q) ∧ (¬ (¬ (1 : Int32) = 0) → Go (d + 7) true 66 37 [.ref 16, .int (nI dp), .int (nI j)] [] h4 Q) from ⟨fun c4 => ?_, fun c4 => ?_⟩)
                  · skip
                    refine exf_go 5 (show rN h4 16 6 = true ∧ (wpC (d + 7) true 3 [.ref 17, .int 14, .int 0] h4 (fun _ h' => Go (d + 7) true 66 49 [.ref 16, .int (nI dp), .int (nI j)] [] h' Q)) from ⟨(cp4.2.1.2.2), ?_⟩)
                    have hq6 := iv4.2 (by omega)
                    refine c_emit (c := 3007) cp4 (by omega) (by omega) (by decide) (by decide) (fun h6 q6 cp6 => ?_)
                    have hb6 := cp_b cp6
                    have hz6 := qe_em 3007 (F (nx s1)); have hi6 := qi_em 3007 (F (nx s1))
                    show Go (d + 7) true 66 49 [.ref 16, .int (nI dp), .int (nI j)] [] h6 Q
                    refine exf_go 1 (show Go (d + 7) true 66 52 [.ref 16, .int (nI dp), .int ((nI j) + 1)] [] h6 Q from ?_)
                    rw [show ((nI j) + 1 : Int32) = nI (j + 1) from nI_add j 1]
                    refine exf_go 1 (show Go (d + 7) true 66 12 [.ref 16, .int (nI dp), .int (nI (j + 1))] [] h6 Q from ?_)
                    exact ih12 (j + 1) _ h6 (by omega) (by omega) (Fq.tr (Fq.tr (Fq.tr qL q3) q4) q6) cp6 (iv_em gg4.1) (by omega) (by rw [hwh]; exact whl_y (by omega) K26)
                  · skip
                    exact absurd (by decide) c4
                · skip
                  show Go (d + 7) true 66 34 [.ref 16, .int (nI dp), .int (nI j)] [.int 0] h5 Q
                  refine exf_go 1 (show (¬ (0 : Int32) = 0 → Go (d + 7) true 66 39 [.ref 16, .int (nI dp), .int (nI j)] [] h5 Q) ∧ (¬ (¬ (0 : Int32) = 0) → Go (d + 7) true 66 37 [.ref 16, .int (nI dp), .int (nI j)] [] h5 Q) from ⟨fun c5 => ?_, fun c5 => ?_⟩)
                  · skip
                    exact absurd c5 (by decide)
                  · skip
                    refine exf_go 2 (show ((0 : Int32) = 0 ∨ (0 : Int32) = 1) ∧ Q (.int 0) h5 from ⟨(by first | exact Or.inl rfl | exact Or.inr rfl | assumption), ?_⟩)
                    rw [hwh, whl_f (by omega) K26 hz5] at k0; exact k0 _ (Fq.tr (Fq.tr qL q3) q5) cp5 hz5
            · skip
              show Go (d + 7) true 66 26 [.ref 16, .int (nI dp), .int (nI j)] [.int 0] hL Q
              refine exf_go 1 (show ((0 : Int32) = 0 → Go (d + 7) true 66 55 [.ref 16, .int (nI dp), .int (nI j)] [] hL Q) ∧ (¬ ((0 : Int32) = 0) → Go (d + 7) true 66 29 [.ref 16, .int (nI dp), .int (nI j)] [] hL Q) from ⟨fun c6 => ?_, fun c6 => ?_⟩)
              · skip
                refine exf_go 2 (show ((1 : Int32) = 0 ∨ (1 : Int32) = 1) ∧ Q (.int 1) hL from ⟨(by first | exact Or.inl rfl | exact Or.inr rfl | assumption), ?_⟩)
                rw [hwh, whl_n K26] at k1; exact k1 _ qL cpL heL
              · skip
                exact absurd (by decide) c6
      exact L12 (900 + 1) 0 _ h1 (by omega) (by omega) q1 cp1 gg1.1 hz1 rfl
    · skip
      exact absurd (by decide) c1
  · skip
    show Go (d + 7) true 66 5 [.ref 16, .int (nI dp), mk_] [.int 0] h2 Q
    refine exf_go 1 (show (¬ (0 : Int32) = 0 → Go (d + 7) true 66 10 [.ref 16, .int (nI dp), mk_] [] h2 Q) ∧ (¬ (¬ (0 : Int32) = 0) → Go (d + 7) true 66 8 [.ref 16, .int (nI dp), mk_] [] h2 Q) from ⟨fun c7 => ?_, fun c7 => ?_⟩)
    · skip
      exact absurd c7 (by decide)
    · skip
      refine exf_go 2 (show ((0 : Int32) = 0 ∨ (0 : Int32) = 1) ∧ Q (.int 0) h2 from ⟨(by first | exact Or.inl rfl | exact Or.inr rfl | assumption), ?_⟩)
      have e9 : binW b n 10 3007 F s = F s := by unfold binW; exact whl_n (isK_id hz2)
      rw [e9] at k0; exact k0 _ q2 cp2 hz2
theorem c_truthW {d : Nat} {b : Nat → Nat} {n N W dp : Nat} {F : PsG → PsG} (gF : Gd b n F) (hF : CC b n N W (d + 7) 67 dp F) : CC b n N W (d + 8) 66 dp (binW b n 10 3007 F) := fun _ _ _ cp iv he hW k1 k0 => c_truthW0 gF hF cp iv he hW k1 k0
