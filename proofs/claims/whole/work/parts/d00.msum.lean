/-! The model: sums. -/
def MC (b : Nat → Nat) (n W D y dp : Nat) (F : PsG → PsG) : Prop := ∀ s h Q, MP b n s h → IV b n 0 s → rI h 134 1 = nI W → (∀ h1, Fq sRd h h1 → MP b n (F s) h1 → Q mk_ h1) → wpC D true y [.ref 130, .int (nI dp)] h Q
theorem iv_q {b : Nat → Nat} {n c : Nat} {s : PsG} (h : IV b n c s) (hn : n ≤ 900) (e : qe s = 0) : qn s < 1000 := by
  have := h.2 e
  have := iv_n h
  omega
theorem m_atom0 {d : Nat} {h : Hp} {b : Nat → Nat} {n : Nat} {s : PsG} {W m : Nat} {inn : PsG → PsG} {Q : Po} (hW4 : W ≤ 4) (hm : m ≤ 6) (hg : Gd b n inn) (ih : ∀ q, m = q + 1 → MC b n W (d + 7) 204 (6 - q) inn) (mp : MP b n s h) (iv : IV b n 0 s) (hW : rI h 134 1 = nI W) (k : ∀ h1, Fq sRd h h1 → MP b n (atomF b n W m inn s) h1 → Q mk_ h1) : wpC (d + 8) true 202 [.ref 130, .int (nI (6 - m))] h Q := by
  have hb0 := mp_b mp; have hv0 := vl_c (n := n) (i := qi s) mp.1.1.1.2
  refine go_in rfl ?_
  refine exf_go 3 (show wpC (d + 7) true 193 [.ref 130, .int 21] h (fun r h' => Go (d + 7) true 202 6 [.ref 130, .int (nI (6 - m))] [r] h' Q) from ?_)
  refine m_is (k := 21) mp (by omega) (fun K6 => ?_) (fun K6 => ?_)
  · skip
    have K6e := isK_e K6
    show Go (d + 7) true 202 6 [.ref 130, .int (nI (6 - m))] [.int 1] h Q
    refine exf_go 1 (show ((1 : Int32) = 0 → Go (d + 7) true 202 24 [.ref 130, .int (nI (6 - m))] [] h Q) ∧ (¬ ((1 : Int32) = 0) → Go (d + 7) true 202 9 [.ref 130, .int (nI (6 - m))] [] h Q) from ⟨fun c1 => ?_, fun c1 => ?_⟩)
    · skip
      exact absurd c1 (by decide)
    · skip
      refine exf_go 3 (show Go (d + 7) true 202 14 [.ref 130, .int (nI (6 - m))] [.int (rI h 130 10), .ref 130] h Q from ?_)
      rw [show (rI h 130 10 : Int32) = nI (vl b n (qi s)) from mp.2.1.2.2.2 K6e.2]
      refine exf_go 1 (show wpC (d + 7) true 200 [.ref 130, .int (nI (vl b n (qi s)))] h (fun _ h' => Go (d + 7) true 202 17 [.ref 130, .int (nI (6 - m))] [] h' Q) from ?_)
      refine m_codes (c := vl b n (qi s)) mp (fun e => ⟨iv_q iv (by omega) e, rfl⟩) (fun h1 q1 mp1 => ?_)
      have hb1 := mp_b mp1
      have hz1 := qe_em (vl b n (qi s)) s; have hi1 := qi_em (vl b n (qi s)) s
      show Go (d + 7) true 202 17 [.ref 130, .int (nI (6 - m))] [] h1 Q
      refine exf_go 2 (show wpC (d + 7) true 191 [.ref 130] h1 (fun _ h' => Go (d + 7) true 202 21 [.ref 130, .int (nI (6 - m))] [] h' Q) from ?_)
      refine m_nx mp1 (fun h2 q2 mp2 => ?_)
      have hb2 := mp_b mp2
      have hz2 := qe_nx (em (vl b n (qi s)) s); have hi2 := qi_nx (em (vl b n (qi s)) s)
      show Go (d + 7) true 202 21 [.ref 130, .int (nI (6 - m))] [] h2 Q
      refine exf_go 2 (show Q (mk_) h2 from ?_)
      have ea : atomF b n W m inn s = (nx (em (vl b n (qi s)) s)) := by unfold atomF; rw [if_pos K6]
      rw [ea] at k; exact k _ (Fq.tr q1 q2) mp2
  · skip
    have K6n := isK_x K6
    show Go (d + 7) true 202 6 [.ref 130, .int (nI (6 - m))] [.int 0] h Q
    refine exf_go 1 (show ((0 : Int32) = 0 → Go (d + 7) true 202 24 [.ref 130, .int (nI (6 - m))] [] h Q) ∧ (¬ ((0 : Int32) = 0) → Go (d + 7) true 202 9 [.ref 130, .int (nI (6 - m))] [] h Q) from ⟨fun c2 => ?_, fun c2 => ?_⟩)
    · skip
      refine exf_go 3 (show wpC (d + 7) true 194 [.ref 130, .int 13] h (fun r h' => Go (d + 7) true 202 30 [.ref 130, .int (nI (6 - m))] [r] h' Q) from ?_)
      refine m_eats (k := 13) mp (by omega) (fun K30 h3 q3 mp3 => ?_) (fun K30 => ?_)
      · skip
        have K30e := isK_e K30
        have hb3 := mp_b mp3
        have hz3 := qe_nx s; have hi3 := qi_nx s
        have iv3 := iv_nx iv (by omega)
        have hlt3 := iv_lt iv (by omega)
        show Go (d + 7) true 202 30 [.ref 130, .int (nI (6 - m))] [.int 1] h3 Q
        refine exf_go 1 (show ((1 : Int32) = 0 → Go (d + 7) true 202 57 [.ref 130, .int (nI (6 - m))] [] h3 Q) ∧ (¬ ((1 : Int32) = 0) → Go (d + 7) true 202 33 [.ref 130, .int (nI (6 - m))] [] h3 Q) from ⟨fun c3 => ?_, fun c3 => ?_⟩)
        · skip
          exact absurd c3 (by decide)
        · skip
          refine exf_go 8 (show vp_in 1 13841 ∧ (Go (d + 7) true 202 45 [.ref 130, .int (nI (6 - m))] [.int (rI h3 134 1), .int 0, .ref 130, .int 1000, .ref 130] h3 Q) from ⟨(vp_in_nI (n := 1) (by decide) (by decide)), ?_⟩)
          rw [show (rI h3 134 1 : Int32) = nI W from ((q3).1 134 1 rfl).1.trans hW]
          refine exf_go 3 (show wpC (d + 7) true 195 [.ref 130, .int 0, .int ((nI W) - 1)] h3 (fun r h' => Go (d + 7) true 202 50 [.ref 130, .int (nI (6 - m))] [r, .int 1000, .ref 130] h' Q) from ?_)
          refine m_takes (lo := 0) (hh := W) mp3 (by omega) (by first | rfl | decide) (by omega) (fun h4 v4 q4 mp4 hv4 => ?_)
          have hb4 := mp_b mp4
          have iv4 := (iv_tkn (lo := 0) (hh := W) iv3).1
          show Go (d + 7) true 202 50 [.ref 130, .int (nI (6 - m))] [.int v4, .int 1000, .ref 130] h4 Q
          refine exf_go 2 (show wpC (d + 7) true 200 [.ref 130, .int (1000 + v4)] h4 (fun _ h' => Go (d + 7) true 202 54 [.ref 130, .int (nI (6 - m))] [] h' Q) from ?_)
          refine m_codes (c := 1000 + vl b n (qi s + 1)) mp4 (fun e => ⟨iv_q iv4 (by omega) e, by rw [hv4 e]; exact nI_add 1000 _⟩) (fun h5 q5 mp5 => ?_)
          have hb5 := mp_b mp5
          have hz5 := qe_em (1000 + vl b n (qi s + 1)) (tkn b n 0 W (nx s)); have hi5 := qi_em (1000 + vl b n (qi s + 1)) (tkn b n 0 W (nx s))
          show Go (d + 7) true 202 54 [.ref 130, .int (nI (6 - m))] [] h5 Q
          refine exf_go 2 (show Q (mk_) h5 from ?_)
          have ea : atomF b n W m inn s = (em (1000 + vl b n (qi s + 1)) (tkn b n 0 W (nx s))) := by unfold atomF; rw [if_neg (by rw [K6]; decide), if_pos K30]
          rw [ea] at k; exact k _ (Fq.tr (Fq.tr q3 q4) q5) mp5
      · skip
        have K30n := isK_x K30
        show Go (d + 7) true 202 30 [.ref 130, .int (nI (6 - m))] [.int 0] h Q
        refine exf_go 1 (show ((0 : Int32) = 0 → Go (d + 7) true 202 57 [.ref 130, .int (nI (6 - m))] [] h Q) ∧ (¬ ((0 : Int32) = 0) → Go (d + 7) true 202 33 [.ref 130, .int (nI (6 - m))] [] h Q) from ⟨fun c4 => ?_, fun c4 => ?_⟩)
        · skip
          refine exf_go 3 (show wpC (d + 7) true 194 [.ref 130, .int 14] h (fun r h' => Go (d + 7) true 202 63 [.ref 130, .int (nI (6 - m))] [r] h' Q) from ?_)
          refine m_eats (k := 14) mp (by omega) (fun K63 h6 q6 mp6 => ?_) (fun K63 => ?_)
          · skip
            have K63e := isK_e K63
            have hb6 := mp_b mp6
            have hz6 := qe_nx s; have hi6 := qi_nx s
            have iv6 := iv_nx iv (by omega)
            have hlt6 := iv_lt iv (by omega)
            show Go (d + 7) true 202 63 [.ref 130, .int (nI (6 - m))] [.int 1] h6 Q
            refine exf_go 1 (show ((1 : Int32) = 0 → Go (d + 7) true 202 84 [.ref 130, .int (nI (6 - m))] [] h6 Q) ∧ (¬ ((1 : Int32) = 0) → Go (d + 7) true 202 66 [.ref 130, .int (nI (6 - m))] [] h6 Q) from ⟨fun c5 => ?_, fun c5 => ?_⟩)
            · skip
              exact absurd c5 (by decide)
            · skip
              refine exf_go 6 (show wpC (d + 7) true 195 [.ref 130, .int 0, .int 9] h6 (fun r h' => Go (d + 7) true 202 77 [.ref 130, .int (nI (6 - m))] [r, .int 2000, .ref 130] h' Q) from ?_)
              refine m_takes (lo := 0) (hh := 10) mp6 (by omega) (by first | rfl | decide) (by omega) (fun h7 v7 q7 mp7 hv7 => ?_)
              have hb7 := mp_b mp7
              have iv7 := (iv_tkn (lo := 0) (hh := 10) iv6).1
              show Go (d + 7) true 202 77 [.ref 130, .int (nI (6 - m))] [.int v7, .int 2000, .ref 130] h7 Q
              refine exf_go 2 (show wpC (d + 7) true 200 [.ref 130, .int (2000 + v7)] h7 (fun _ h' => Go (d + 7) true 202 81 [.ref 130, .int (nI (6 - m))] [] h' Q) from ?_)
              refine m_codes (c := 2000 + vl b n (qi s + 1)) mp7 (fun e => ⟨iv_q iv7 (by omega) e, by rw [hv7 e]; exact nI_add 2000 _⟩) (fun h8 q8 mp8 => ?_)
              have hb8 := mp_b mp8
              have hz8 := qe_em (2000 + vl b n (qi s + 1)) (tkn b n 0 10 (nx s)); have hi8 := qi_em (2000 + vl b n (qi s + 1)) (tkn b n 0 10 (nx s))
              show Go (d + 7) true 202 81 [.ref 130, .int (nI (6 - m))] [] h8 Q
              refine exf_go 2 (show Q (mk_) h8 from ?_)
              have ea : atomF b n W m inn s = (em (2000 + vl b n (qi s + 1)) (tkn b n 0 10 (nx s))) := by unfold atomF; rw [if_neg (by rw [K6]; decide), if_neg (by rw [K30]; decide), if_pos K63]
              rw [ea] at k; exact k _ (Fq.tr (Fq.tr q6 q7) q8) mp8
          · skip
            have K63n := isK_x K63
            show Go (d + 7) true 202 63 [.ref 130, .int (nI (6 - m))] [.int 0] h Q
            refine exf_go 1 (show ((0 : Int32) = 0 → Go (d + 7) true 202 84 [.ref 130, .int (nI (6 - m))] [] h Q) ∧ (¬ ((0 : Int32) = 0) → Go (d + 7) true 202 66 [.ref 130, .int (nI (6 - m))] [] h Q) from ⟨fun c6 => ?_, fun c6 => ?_⟩)
            · skip
              refine exf_go 2 (show Go (d + 7) true 202 88 [.ref 130, .int (nI (6 - m))] [.int (rI h 130 11)] h Q from ?_)
              rw [show (rI h 130 11 : Int32) = nI (qe s) from mp.2.2.1.1]
              refine exf_go 1 (show (¬ (nI (qe s)) = 0 → Go (d + 7) true 202 130 [.ref 130, .int (nI (6 - m))] [] h Q) ∧ (¬ (¬ (nI (qe s)) = 0) → Go (d + 7) true 202 91 [.ref 130, .int (nI (6 - m))] [] h Q) from ⟨fun c7 => ?_, fun c7 => ?_⟩)
              · skip
                have c7 : ¬ (qe s) = 0 := fun q => c7 ((nI_eq (a := (qe s)) (b := 0) (by omega) (by omega)).mpr q)
                refine exf_go 3 (show wpC (d + 7) true 193 [.ref 130, .int 30] h (fun r h' => Go (d + 7) true 202 136 [.ref 130, .int (nI (6 - m))] [r] h' Q) from ?_)
                refine m_is (k := 30) mp (by omega) (fun K136 => ?_) (fun K136 => ?_)
                · skip
                  have K136e := isK_e K136
                  show Go (d + 7) true 202 136 [.ref 130, .int (nI (6 - m))] [.int 1] h Q
                  refine exf_go 1 (show ((1 : Int32) = 0 → Go (d + 7) true 202 172 [.ref 130, .int (nI (6 - m))] [] h Q) ∧ (¬ ((1 : Int32) = 0) → Go (d + 7) true 202 139 [.ref 130, .int (nI (6 - m))] [] h Q) from ⟨fun c8 => ?_, fun c8 => ?_⟩)
                  · skip
                    exact absurd c8 (by decide)
                  · skip
                    refine exf_go 3 (show wpC (d + 7) true 201 [.ref 130, .int (nI (6 - m))] h (fun r h' => Go (d + 7) true 202 144 [.ref 130, .int (nI (6 - m))] [r] h' Q) from ?_)
                    refine m_goesIn (m := m) mp (by omega) hm (fun hm0 h9 q9 mp9 => ?_) (fun hm0 h10 q10 mp10 => ?_)
                    · skip
                      have hb9 := mp_b mp9
                      have hz9 := qe_nx s; have hi9 := qi_nx s
                      have iv9 := iv_nx iv (by omega)
                      show Go (d + 7) true 202 144 [.ref 130, .int (nI (6 - m))] [.int 1] h9 Q
                      refine exf_go 1 (show (¬ (1 : Int32) = 0 → Go (d + 7) true 202 148 [.ref 130, .int (nI (6 - m))] [] h9 Q) ∧ (¬ (¬ (1 : Int32) = 0) → Go (d + 7) true 202 147 [.ref 130, .int (nI (6 - m))] [] h9 Q) from ⟨fun c9 => ?_, fun c9 => ?_⟩)
                      · skip
                        refine exf_go 4 (show Go (d + 7) true 202 152 [.ref 130, .int (nI (6 - m))] [.int ((nI (6 - m)) + 1), .ref 130] h9 Q from ?_)
                        rw [show ((nI (6 - m)) + 1 : Int32) = nI ((6 - m) + 1) from nI_add (6 - m) 1]
                        refine exf_go 1 (show wpC (d + 7) true 204 [.ref 130, .int (nI ((6 - m) + 1))] h9 (fun _ h' => Go (d + 7) true 202 155 [.ref 130, .int (nI (6 - m))] [] h' Q) from ?_)
                        rw [show 6 - m + 1 = 6 - (m - 1) from by omega]
                        refine ih (m - 1) (by omega) _ _ _ mp9 (iv9.le (Nat.zero_le _)) (((q9).1 134 1 rfl).1.trans hW) (fun h11 q11 mp11 => ?_)
                        have hb11 := mp_b mp11
                        have gg11 := hg _ _ iv9; have iv11 := gg11.1
                        show Go (d + 7) true 202 155 [.ref 130, .int (nI (6 - m))] [] h11 Q
                        refine exf_go 3 (show wpC (d + 7) true 194 [.ref 130, .int 31] h11 (fun r h' => Go (d + 7) true 202 161 [.ref 130, .int (nI (6 - m))] [r] h' Q) from ?_)
                        refine m_eats (k := 31) mp11 (by omega) (fun K161 h12 q12 mp12 => ?_) (fun K161 => ?_)
                        · skip
                          have K161e := isK_e K161
                          have hb12 := mp_b mp12
                          have hz12 := qe_nx (inn (nx s)); have hi12 := qi_nx (inn (nx s))
                          have iv12 := iv_nx iv11 (by omega)
                          have hlt12 := iv_lt iv11 (by omega)
                          show Go (d + 7) true 202 161 [.ref 130, .int (nI (6 - m))] [.int 1] h12 Q
                          refine exf_go 1 (show (¬ (1 : Int32) = 0 → Go (d + 7) true 202 177 [.ref 130, .int (nI (6 - m))] [] h12 Q) ∧ (¬ (¬ (1 : Int32) = 0) → Go (d + 7) true 202 164 [.ref 130, .int (nI (6 - m))] [] h12 Q) from ⟨fun c10 => ?_, fun c10 => ?_⟩)
                          · skip
                            refine exf_go 1 (show Q (mk_) h12 from ?_)
                            have ea : atomF b n W m inn s = (nx (inn (nx s))) := by unfold atomF; rw [if_neg (by rw [K6]; decide), if_neg (by rw [K30]; decide), if_neg (by rw [K63]; decide), if_neg (by omega), if_pos K136, if_neg hm0]; unfold eat; rw [if_pos K161]
                            rw [ea] at k; exact k _ (Fq.tr (Fq.tr q9 q11) q12) mp12
                          · skip
                            exact absurd (by decide) c10
                        · skip
                          have K161n := isK_x K161
                          show Go (d + 7) true 202 161 [.ref 130, .int (nI (6 - m))] [.int 0] h11 Q
                          refine exf_go 1 (show (¬ (0 : Int32) = 0 → Go (d + 7) true 202 177 [.ref 130, .int (nI (6 - m))] [] h11 Q) ∧ (¬ (¬ (0 : Int32) = 0) → Go (d + 7) true 202 164 [.ref 130, .int (nI (6 - m))] [] h11 Q) from ⟨fun c11 => ?_, fun c11 => ?_⟩)
                          · skip
                            exact absurd c11 (by decide)
                          · skip
                            refine exf_go 3 (show wpC (d + 7) true 192 [.ref 130, .int 2] h11 (fun _ h' => Go (d + 7) true 202 169 [.ref 130, .int (nI (6 - m))] [] h' Q) from ?_)
                            refine m_fails (w := 2) mp11 (by omega) (fun h13 q13 mp13 => ?_)
                            have hb13 := mp_b mp13
                            have hz13 : ¬ qe (fl b n 2 (inn (nx s))) = 0 := fl_ne (by omega)
                            have iv13 : IV b n 0 (fl b n 2 (inn (nx s))) := iv_fl2 iv11 (by decide)
                            show Go (d + 7) true 202 169 [.ref 130, .int (nI (6 - m))] [] h13 Q
                            refine exf_go 2 (show Q (mk_) h13 from ?_)
                            have ea : atomF b n W m inn s = (fl b n 2 (inn (nx s))) := by unfold atomF; rw [if_neg (by rw [K6]; decide), if_neg (by rw [K30]; decide), if_neg (by rw [K63]; decide), if_neg (by omega), if_pos K136, if_neg hm0]; unfold eat; rw [if_neg (by rw [K161]; decide)]
                            rw [ea] at k; exact k _ (Fq.tr (Fq.tr q9 q11) q13) mp13
                      · skip
                        exact absurd (by decide) c9
                    · skip
                      show Go (d + 7) true 202 144 [.ref 130, .int (nI (6 - m))] [.int 0] h10 Q
                      refine exf_go 1 (show (¬ (0 : Int32) = 0 → Go (d + 7) true 202 148 [.ref 130, .int (nI (6 - m))] [] h10 Q) ∧ (¬ (¬ (0 : Int32) = 0) → Go (d + 7) true 202 147 [.ref 130, .int (nI (6 - m))] [] h10 Q) from ⟨fun c12 => ?_, fun c12 => ?_⟩)
                      · skip
                        exact absurd c12 (by decide)
                      · skip
                        refine exf_go 1 (show Q (mk_) h10 from ?_)
                        have ea : atomF b n W m inn s = (fl b n 4 s) := by unfold atomF; rw [if_neg (by rw [K6]; decide), if_neg (by rw [K30]; decide), if_neg (by rw [K63]; decide), if_neg (by omega), if_pos K136, if_pos hm0]
                        rw [ea] at k; exact k _ q10 mp10
                · skip
                  have K136n := isK_x K136
                  show Go (d + 7) true 202 136 [.ref 130, .int (nI (6 - m))] [.int 0] h Q
                  refine exf_go 1 (show ((0 : Int32) = 0 → Go (d + 7) true 202 172 [.ref 130, .int (nI (6 - m))] [] h Q) ∧ (¬ ((0 : Int32) = 0) → Go (d + 7) true 202 139 [.ref 130, .int (nI (6 - m))] [] h Q) from ⟨fun c13 => ?_, fun c13 => ?_⟩)
                  · skip
                    refine exf_go 3 (show wpC (d + 7) true 192 [.ref 130, .int 2] h (fun _ h' => Go (d + 7) true 202 177 [.ref 130, .int (nI (6 - m))] [] h' Q) from ?_)
                    refine m_fails (w := 2) mp (by omega) (fun h14 q14 mp14 => ?_)
                    have hb14 := mp_b mp14
                    have hz14 : ¬ qe (fl b n 2 s) = 0 := fl_ne (by omega)
                    have iv14 : IV b n 0 (fl b n 2 s) := iv_fl2 iv (by decide)
                    show Go (d + 7) true 202 177 [.ref 130, .int (nI (6 - m))] [] h14 Q
                    refine exf_go 1 (show Q (mk_) h14 from ?_)
                    have ea : atomF b n W m inn s = (fl b n 2 s) := by unfold atomF; rw [if_neg (by rw [K6]; decide), if_neg (by rw [K30]; decide), if_neg (by rw [K63]; decide), if_neg (by omega), if_neg (by rw [K136]; decide)]
                    rw [ea] at k; exact k _ q14 mp14
                  · skip
                    exact absurd (by decide) c13
              · skip
                have c7 : (qe s) = 0 := (nI_eq (a := (qe s)) (b := 0) (by omega) (by omega)).mp (Classical.not_not.mp c7)
                refine exf_go 2 (show Go (d + 7) true 202 95 [.ref 130, .int (nI (6 - m))] [.int (rI h 130 9)] h Q from ?_)
                rw [show (rI h 130 9 : Int32) = nI (kd b n (qi s)) from mp.2.1.2.2.1]
                refine exf_go 1 (show Go (d + 7) true 202 96 [.ref 130, .int (nI (6 - m))] [.long ((nI (kd b n (qi s))).toInt64)] h Q from ?_)
                rw [show ((nI (kd b n (qi s))).toInt64 : Int64) = lN (kd b n (qi s)) from nI_l (n := (kd b n (qi s))) (by omega)]
                refine exf_go 3 (show wpC (d + 7) true 183 [.long (lN (kd b n (qi s))), .long 15, .long 17] h (fun r h' => Go (d + 7) true 202 105 [.ref 130, .int (nI (6 - m))] [r] h' Q) from ?_)
                refine m_within (fun u1 v1 => ?_) (fun u1 => ?_)
                · skip
                  have hk1 : 15 ≤ kd b n (qi s) := by have u1 : ¬ lN (kd b n (qi s)) < lN 15 := u1; rw [pk_lLT (by omega) (by omega)] at u1; omega
                  have hk2 : kd b n (qi s) ≤ 17 := by have v1 : ¬ lN 17 < lN (kd b n (qi s)) := v1; rw [pk_lLT (by omega) (by omega)] at v1; omega
                  show Go (d + 7) true 202 105 [.ref 130, .int (nI (6 - m))] [.int 1] h Q
                  refine exf_go 1 (show ((1 : Int32) = 0 → Go (d + 7) true 202 130 [.ref 130, .int (nI (6 - m))] [] h Q) ∧ (¬ ((1 : Int32) = 0) → Go (d + 7) true 202 108 [.ref 130, .int (nI (6 - m))] [] h Q) from ⟨fun c14 => ?_, fun c14 => ?_⟩)
                  · skip
                    exact absurd c14 (by decide)
                  · skip
                    refine exf_go 4 (show Go (d + 7) true 202 116 [.ref 130, .int (nI (6 - m))] [.int (rI h 130 9), .int 1010, .ref 130] h Q from ?_)
                    rw [show (rI h 130 9 : Int32) = nI (kd b n (qi s)) from mp.2.1.2.2.1]
                    refine exf_go 1 (show Go (d + 7) true 202 117 [.ref 130, .int (nI (6 - m))] [.int (1010 + (nI (kd b n (qi s)))), .ref 130] h Q from ?_)
                    rw [show (1010 + (nI (kd b n (qi s))) : Int32) = nI (1010 + (kd b n (qi s))) from nI_add 1010 (kd b n (qi s))]
                    refine exf_go 2 (show Go (d + 7) true 202 120 [.ref 130, .int (nI (6 - m))] [.int ((nI (1010 + (kd b n (qi s)))) - 15), .ref 130] h Q from ?_)
                    rw [show ((nI (1010 + (kd b n (qi s)))) - 15 : Int32) = nI ((1010 + (kd b n (qi s))) - 15) from pk_sub (a := (1010 + (kd b n (qi s)))) (b := 15) (by omega)]
                    refine exf_go 1 (show wpC (d + 7) true 200 [.ref 130, .int (nI ((1010 + (kd b n (qi s))) - 15))] h (fun _ h' => Go (d + 7) true 202 123 [.ref 130, .int (nI (6 - m))] [] h' Q) from ?_)
                    refine m_codes (c := 995 + kd b n (qi s)) mp (fun e => ⟨iv_q iv (by omega) e, by rw [show 1010 + kd b n (qi s) - 15 = 995 + kd b n (qi s) from by omega]⟩) (fun h15 q15 mp15 => ?_)
                    have hb15 := mp_b mp15
                    have hz15 := qe_em (995 + kd b n (qi s)) s; have hi15 := qi_em (995 + kd b n (qi s)) s
                    show Go (d + 7) true 202 123 [.ref 130, .int (nI (6 - m))] [] h15 Q
                    refine exf_go 2 (show wpC (d + 7) true 191 [.ref 130] h15 (fun _ h' => Go (d + 7) true 202 127 [.ref 130, .int (nI (6 - m))] [] h' Q) from ?_)
                    refine m_nx mp15 (fun h16 q16 mp16 => ?_)
                    have hb16 := mp_b mp16
                    have hz16 := qe_nx (em (995 + kd b n (qi s)) s); have hi16 := qi_nx (em (995 + kd b n (qi s)) s)
                    show Go (d + 7) true 202 127 [.ref 130, .int (nI (6 - m))] [] h16 Q
                    refine exf_go 2 (show Q (mk_) h16 from ?_)
                    have ea : atomF b n W m inn s = (nx (em (995 + kd b n (qi s)) s)) := by unfold atomF; rw [if_neg (by rw [K6]; decide), if_neg (by rw [K30]; decide), if_neg (by rw [K63]; decide), if_pos ⟨by omega, hk1, hk2⟩]
                    rw [ea] at k; exact k _ (Fq.tr q15 q16) mp16
                · skip
                  have hno : ¬ (15 ≤ kd b n (qi s) ∧ kd b n (qi s) ≤ 17) := by have u1 : lN (kd b n (qi s)) < lN 15 ∨ lN 17 < lN (kd b n (qi s)) := u1; rw [pk_lLT (by omega) (by omega), pk_lLT (by omega) (by omega)] at u1; omega
                  show Go (d + 7) true 202 105 [.ref 130, .int (nI (6 - m))] [.int 0] h Q
                  refine exf_go 1 (show ((0 : Int32) = 0 → Go (d + 7) true 202 130 [.ref 130, .int (nI (6 - m))] [] h Q) ∧ (¬ ((0 : Int32) = 0) → Go (d + 7) true 202 108 [.ref 130, .int (nI (6 - m))] [] h Q) from ⟨fun c15 => ?_, fun c15 => ?_⟩)
                  · skip
                    refine exf_go 3 (show wpC (d + 7) true 193 [.ref 130, .int 30] h (fun r h' => Go (d + 7) true 202 136 [.ref 130, .int (nI (6 - m))] [r] h' Q) from ?_)
                    refine m_is (k := 30) mp (by omega) (fun K136 => ?_) (fun K136 => ?_)
                    · skip
                      have K136e := isK_e K136
                      show Go (d + 7) true 202 136 [.ref 130, .int (nI (6 - m))] [.int 1] h Q
                      refine exf_go 1 (show ((1 : Int32) = 0 → Go (d + 7) true 202 172 [.ref 130, .int (nI (6 - m))] [] h Q) ∧ (¬ ((1 : Int32) = 0) → Go (d + 7) true 202 139 [.ref 130, .int (nI (6 - m))] [] h Q) from ⟨fun c16 => ?_, fun c16 => ?_⟩)
                      · skip
                        exact absurd c16 (by decide)
                      · skip
                        refine exf_go 3 (show wpC (d + 7) true 201 [.ref 130, .int (nI (6 - m))] h (fun r h' => Go (d + 7) true 202 144 [.ref 130, .int (nI (6 - m))] [r] h' Q) from ?_)
                        refine m_goesIn (m := m) mp (by omega) hm (fun hm0 h17 q17 mp17 => ?_) (fun hm0 h18 q18 mp18 => ?_)
                        · skip
                          have hb17 := mp_b mp17
                          have hz17 := qe_nx s; have hi17 := qi_nx s
                          have iv17 := iv_nx iv (by omega)
                          show Go (d + 7) true 202 144 [.ref 130, .int (nI (6 - m))] [.int 1] h17 Q
                          refine exf_go 1 (show (¬ (1 : Int32) = 0 → Go (d + 7) true 202 148 [.ref 130, .int (nI (6 - m))] [] h17 Q) ∧ (¬ (¬ (1 : Int32) = 0) → Go (d + 7) true 202 147 [.ref 130, .int (nI (6 - m))] [] h17 Q) from ⟨fun c17 => ?_, fun c17 => ?_⟩)
                          · skip
                            refine exf_go 4 (show Go (d + 7) true 202 152 [.ref 130, .int (nI (6 - m))] [.int ((nI (6 - m)) + 1), .ref 130] h17 Q from ?_)
                            rw [show ((nI (6 - m)) + 1 : Int32) = nI ((6 - m) + 1) from nI_add (6 - m) 1]
                            refine exf_go 1 (show wpC (d + 7) true 204 [.ref 130, .int (nI ((6 - m) + 1))] h17 (fun _ h' => Go (d + 7) true 202 155 [.ref 130, .int (nI (6 - m))] [] h' Q) from ?_)
                            rw [show 6 - m + 1 = 6 - (m - 1) from by omega]
                            refine ih (m - 1) (by omega) _ _ _ mp17 (iv17.le (Nat.zero_le _)) (((q17).1 134 1 rfl).1.trans hW) (fun h19 q19 mp19 => ?_)
                            have hb19 := mp_b mp19
                            have gg19 := hg _ _ iv17; have iv19 := gg19.1
                            show Go (d + 7) true 202 155 [.ref 130, .int (nI (6 - m))] [] h19 Q
                            refine exf_go 3 (show wpC (d + 7) true 194 [.ref 130, .int 31] h19 (fun r h' => Go (d + 7) true 202 161 [.ref 130, .int (nI (6 - m))] [r] h' Q) from ?_)
                            refine m_eats (k := 31) mp19 (by omega) (fun K161 h20 q20 mp20 => ?_) (fun K161 => ?_)
                            · skip
                              have K161e := isK_e K161
                              have hb20 := mp_b mp20
                              have hz20 := qe_nx (inn (nx s)); have hi20 := qi_nx (inn (nx s))
                              have iv20 := iv_nx iv19 (by omega)
                              have hlt20 := iv_lt iv19 (by omega)
                              show Go (d + 7) true 202 161 [.ref 130, .int (nI (6 - m))] [.int 1] h20 Q
                              refine exf_go 1 (show (¬ (1 : Int32) = 0 → Go (d + 7) true 202 177 [.ref 130, .int (nI (6 - m))] [] h20 Q) ∧ (¬ (¬ (1 : Int32) = 0) → Go (d + 7) true 202 164 [.ref 130, .int (nI (6 - m))] [] h20 Q) from ⟨fun c18 => ?_, fun c18 => ?_⟩)
                              · skip
                                refine exf_go 1 (show Q (mk_) h20 from ?_)
                                have ea : atomF b n W m inn s = (nx (inn (nx s))) := by unfold atomF; rw [if_neg (by rw [K6]; decide), if_neg (by rw [K30]; decide), if_neg (by rw [K63]; decide), if_neg (by omega), if_pos K136, if_neg hm0]; unfold eat; rw [if_pos K161]
                                rw [ea] at k; exact k _ (Fq.tr (Fq.tr q17 q19) q20) mp20
                              · skip
                                exact absurd (by decide) c18
                            · skip
                              have K161n := isK_x K161
                              show Go (d + 7) true 202 161 [.ref 130, .int (nI (6 - m))] [.int 0] h19 Q
                              refine exf_go 1 (show (¬ (0 : Int32) = 0 → Go (d + 7) true 202 177 [.ref 130, .int (nI (6 - m))] [] h19 Q) ∧ (¬ (¬ (0 : Int32) = 0) → Go (d + 7) true 202 164 [.ref 130, .int (nI (6 - m))] [] h19 Q) from ⟨fun c19 => ?_, fun c19 => ?_⟩)
                              · skip
                                exact absurd c19 (by decide)
                              · skip
                                refine exf_go 3 (show wpC (d + 7) true 192 [.ref 130, .int 2] h19 (fun _ h' => Go (d + 7) true 202 169 [.ref 130, .int (nI (6 - m))] [] h' Q) from ?_)
                                refine m_fails (w := 2) mp19 (by omega) (fun h21 q21 mp21 => ?_)
                                have hb21 := mp_b mp21
                                have hz21 : ¬ qe (fl b n 2 (inn (nx s))) = 0 := fl_ne (by omega)
                                have iv21 : IV b n 0 (fl b n 2 (inn (nx s))) := iv_fl2 iv19 (by decide)
                                show Go (d + 7) true 202 169 [.ref 130, .int (nI (6 - m))] [] h21 Q
                                refine exf_go 2 (show Q (mk_) h21 from ?_)
                                have ea : atomF b n W m inn s = (fl b n 2 (inn (nx s))) := by unfold atomF; rw [if_neg (by rw [K6]; decide), if_neg (by rw [K30]; decide), if_neg (by rw [K63]; decide), if_neg (by omega), if_pos K136, if_neg hm0]; unfold eat; rw [if_neg (by rw [K161]; decide)]
                                rw [ea] at k; exact k _ (Fq.tr (Fq.tr q17 q19) q21) mp21
                          · skip
                            exact absurd (by decide) c17
                        · skip
                          show Go (d + 7) true 202 144 [.ref 130, .int (nI (6 - m))] [.int 0] h18 Q
                          refine exf_go 1 (show (¬ (0 : Int32) = 0 → Go (d + 7) true 202 148 [.ref 130, .int (nI (6 - m))] [] h18 Q) ∧ (¬ (¬ (0 : Int32) = 0) → Go (d + 7) true 202 147 [.ref 130, .int (nI (6 - m))] [] h18 Q) from ⟨fun c20 => ?_, fun c20 => ?_⟩)
                          · skip
                            exact absurd c20 (by decide)
                          · skip
                            refine exf_go 1 (show Q (mk_) h18 from ?_)
                            have ea : atomF b n W m inn s = (fl b n 4 s) := by unfold atomF; rw [if_neg (by rw [K6]; decide), if_neg (by rw [K30]; decide), if_neg (by rw [K63]; decide), if_neg (by omega), if_pos K136, if_pos hm0]
                            rw [ea] at k; exact k _ q18 mp18
                    · skip
                      have K136n := isK_x K136
                      show Go (d + 7) true 202 136 [.ref 130, .int (nI (6 - m))] [.int 0] h Q
                      refine exf_go 1 (show ((0 : Int32) = 0 → Go (d + 7) true 202 172 [.ref 130, .int (nI (6 - m))] [] h Q) ∧ (¬ ((0 : Int32) = 0) → Go (d + 7) true 202 139 [.ref 130, .int (nI (6 - m))] [] h Q) from ⟨fun c21 => ?_, fun c21 => ?_⟩)
                      · skip
                        refine exf_go 3 (show wpC (d + 7) true 192 [.ref 130, .int 2] h (fun _ h' => Go (d + 7) true 202 177 [.ref 130, .int (nI (6 - m))] [] h' Q) from ?_)
                        refine m_fails (w := 2) mp (by omega) (fun h22 q22 mp22 => ?_)
                        have hb22 := mp_b mp22
                        have hz22 : ¬ qe (fl b n 2 s) = 0 := fl_ne (by omega)
                        have iv22 : IV b n 0 (fl b n 2 s) := iv_fl2 iv (by decide)
                        show Go (d + 7) true 202 177 [.ref 130, .int (nI (6 - m))] [] h22 Q
                        refine exf_go 1 (show Q (mk_) h22 from ?_)
                        have ea : atomF b n W m inn s = (fl b n 2 s) := by unfold atomF; rw [if_neg (by rw [K6]; decide), if_neg (by rw [K30]; decide), if_neg (by rw [K63]; decide), if_neg (by omega), if_neg (by rw [K136]; decide)]
                        rw [ea] at k; exact k _ q22 mp22
                      · skip
                        exact absurd (by decide) c21
                  · skip
                    exact absurd (by decide) c15
            · skip
              exact absurd (by decide) c6
        · skip
          exact absurd (by decide) c4
    · skip
      exact absurd (by decide) c2
theorem m_atom {d : Nat} {b : Nat → Nat} {n W m : Nat} {inn : PsG → PsG} (hW4 : W ≤ 4) (hm : m ≤ 6) (hg : Gd b n inn) (ih : ∀ q, m = q + 1 → MC b n W (d + 7) 204 (6 - q) inn) : MC b n W (d + 8) 202 (6 - m) (atomF b n W m inn) := fun _ _ _ mp iv hW k => m_atom0 hW4 hm hg ih mp iv hW k
theorem m_term0 {d : Nat} {h : Hp} {b : Nat → Nat} {n : Nat} {s : PsG} {W dp : Nat} {F : PsG → PsG} {Q : Po} (gF : Gd b n F) (hF : MC b n W (d + 7) 202 dp F) (mp : MP b n s h) (iv : IV b n 0 s) (hW : rI h 134 1 = nI W) (k : ∀ h1, Fq sRd h h1 → MP b n (binW b n 29 3002 F s) h1 → Q mk_ h1) : wpC (d + 8) true 203 [.ref 130, .int (nI dp)] h Q := by
  have hb0 := mp_b mp
  refine go_in rfl ?_
  refine exf_go 3 (show wpC (d + 7) true 202 [.ref 130, .int (nI dp)] h (fun _ h' => Go (d + 7) true 203 5 [.ref 130, .int (nI dp)] [] h' Q) from ?_)
  refine hF _ _ _ mp (iv.le (Nat.zero_le _)) (hW) (fun h1 q1 mp1 => ?_)
  have hb1 := mp_b mp1
  have gg1 := gF _ _ iv; have iv1 := gg1.1
  show Go (d + 7) true 203 5 [.ref 130, .int (nI dp)] [] h1 Q
  have L5 : ∀ (k5 : Nat) (fu : Nat) (s1 : PsG) (hL : Hp), fu < k5 → (Fq sRd h hL) → (MP b n s1 hL) → (IV b n 0 s1) → (qe s1 = 0 → 900 ≤ qi s1 + fu) → (binW b n 29 3002 F s = whl (isK b n 29) (fun s => em 3002 (F (nx s))) fu s1) → Go (d + 7) true 203 5 [.ref 130, .int (nI dp)] [] hL Q := by
    intro k5
    induction k5 with
    | zero => intro fu s1 hL hk; exact absurd hk (Nat.not_lt_zero _)
    | succ k5 ih5 =>
      intro fu s1 hL hk qL mpL ivL hfu hwh
      have hbL := mp_b mpL
      refine exf_go 3 (show wpC (d + 7) true 194 [.ref 130, .int 29] hL (fun r h' => Go (d + 7) true 203 11 [.ref 130, .int (nI dp)] [r] h' Q) from ?_)
      refine m_eats (k := 29) mpL (by omega) (fun K11 h2 q2 mp2 => ?_) (fun K11 => ?_)
      · skip
        have K11e := isK_e K11
        have hb2 := mp_b mp2
        have hz2 := qe_nx s1; have hi2 := qi_nx s1
        have iv2 := iv_nx ivL (by omega)
        have hlt2 := iv_lt ivL (by omega)
        show Go (d + 7) true 203 11 [.ref 130, .int (nI dp)] [.int 1] h2 Q
        refine exf_go 1 (show ((1 : Int32) = 0 → Go (d + 7) true 203 29 [.ref 130, .int (nI dp)] [] h2 Q) ∧ (¬ ((1 : Int32) = 0) → Go (d + 7) true 203 14 [.ref 130, .int (nI dp)] [] h2 Q) from ⟨fun c1 => ?_, fun c1 => ?_⟩)
        · skip
          exact absurd c1 (by decide)
        · skip
          refine exf_go 3 (show wpC (d + 7) true 202 [.ref 130, .int (nI dp)] h2 (fun _ h' => Go (d + 7) true 203 19 [.ref 130, .int (nI dp)] [] h' Q) from ?_)
          refine hF _ _ _ mp2 (iv2.le (Nat.zero_le _)) ((((Fq.tr qL q2)).1 134 1 rfl).1.trans hW) (fun h3 q3 mp3 => ?_)
          have hb3 := mp_b mp3
          have gg3 := gF _ _ iv2; have iv3 := gg3.1
          show Go (d + 7) true 203 19 [.ref 130, .int (nI dp)] [] h3 Q
          refine exf_go 3 (show wpC (d + 7) true 200 [.ref 130, .int 3002] h3 (fun _ h' => Go (d + 7) true 203 26 [.ref 130, .int (nI dp)] [] h' Q) from ?_)
          refine m_codes (c := 3002) mp3 (fun e => ⟨iv_q iv3 (by omega) e, rfl⟩) (fun h4 q4 mp4 => ?_)
          have hb4 := mp_b mp4
          have hz4 := qe_em 3002 (F (nx s1)); have hi4 := qi_em 3002 (F (nx s1))
          show Go (d + 7) true 203 26 [.ref 130, .int (nI dp)] [] h4 Q
          refine exf_go 1 (show Go (d + 7) true 203 5 [.ref 130, .int (nI dp)] [] h4 Q from ?_)
          have hfu1 := hfu K11e.1; have hgq := gg3.2.1
          exact ih5 (fu - 1) _ h4 (by omega) (Fq.tr (Fq.tr (Fq.tr qL q2) q3) q4) mp4 (iv_em gg3.1) (fun _ => by omega) (by rw [hwh]; exact whl_y (by omega) K11)
      · skip
        have K11n := isK_x K11
        show Go (d + 7) true 203 11 [.ref 130, .int (nI dp)] [.int 0] hL Q
        refine exf_go 1 (show ((0 : Int32) = 0 → Go (d + 7) true 203 29 [.ref 130, .int (nI dp)] [] hL Q) ∧ (¬ ((0 : Int32) = 0) → Go (d + 7) true 203 14 [.ref 130, .int (nI dp)] [] hL Q) from ⟨fun c2 => ?_, fun c2 => ?_⟩)
        · skip
          refine exf_go 1 (show Q (mk_) hL from ?_)
          rw [hwh, whl_n K11] at k; exact k _ qL mpL
        · skip
          exact absurd (by decide) c2
  exact L5 (900 + 1) 900 (F s) h1 (by omega) q1 mp1 gg1.1 (fun _ => by omega) rfl
theorem m_term {d : Nat} {b : Nat → Nat} {n W dp : Nat} {F : PsG → PsG} (gF : Gd b n F) (hF : MC b n W (d + 7) 202 dp F) : MC b n W (d + 8) 203 dp (binW b n 29 3002 F) := fun _ _ _ mp iv hW k => m_term0 gF hF mp iv hW k
theorem m_bothW0 {d : Nat} {h : Hp} {b : Nat → Nat} {n : Nat} {s : PsG} {W dp : Nat} {F : PsG → PsG} {Q : Po} (gF : Gd b n F) (hF : MC b n W (d + 7) 205 dp F) (mp : MP b n s h) (iv : IV b n 0 s) (hW : rI h 134 1 = nI W) (k : ∀ h1, Fq sRd h h1 → MP b n (binW b n 11 3006 F s) h1 → Q mk_ h1) : wpC (d + 8) true 206 [.ref 130, .int (nI dp)] h Q := by
  have hb0 := mp_b mp
  refine go_in rfl ?_
  refine exf_go 3 (show wpC (d + 7) true 205 [.ref 130, .int (nI dp)] h (fun _ h' => Go (d + 7) true 206 5 [.ref 130, .int (nI dp)] [] h' Q) from ?_)
  refine hF _ _ _ mp (iv.le (Nat.zero_le _)) (hW) (fun h1 q1 mp1 => ?_)
  have hb1 := mp_b mp1
  have gg1 := gF _ _ iv; have iv1 := gg1.1
  show Go (d + 7) true 206 5 [.ref 130, .int (nI dp)] [] h1 Q
  have L5 : ∀ (k5 : Nat) (fu : Nat) (s1 : PsG) (hL : Hp), fu < k5 → (Fq sRd h hL) → (MP b n s1 hL) → (IV b n 0 s1) → (qe s1 = 0 → 900 ≤ qi s1 + fu) → (binW b n 11 3006 F s = whl (isK b n 11) (fun s => em 3006 (F (nx s))) fu s1) → Go (d + 7) true 206 5 [.ref 130, .int (nI dp)] [] hL Q := by
    intro k5
    induction k5 with
    | zero => intro fu s1 hL hk; exact absurd hk (Nat.not_lt_zero _)
    | succ k5 ih5 =>
      intro fu s1 hL hk qL mpL ivL hfu hwh
      have hbL := mp_b mpL
      refine exf_go 3 (show wpC (d + 7) true 194 [.ref 130, .int 11] hL (fun r h' => Go (d + 7) true 206 11 [.ref 130, .int (nI dp)] [r] h' Q) from ?_)
      refine m_eats (k := 11) mpL (by omega) (fun K11 h2 q2 mp2 => ?_) (fun K11 => ?_)
      · skip
        have K11e := isK_e K11
        have hb2 := mp_b mp2
        have hz2 := qe_nx s1; have hi2 := qi_nx s1
        have iv2 := iv_nx ivL (by omega)
        have hlt2 := iv_lt ivL (by omega)
        show Go (d + 7) true 206 11 [.ref 130, .int (nI dp)] [.int 1] h2 Q
        refine exf_go 1 (show ((1 : Int32) = 0 → Go (d + 7) true 206 29 [.ref 130, .int (nI dp)] [] h2 Q) ∧ (¬ ((1 : Int32) = 0) → Go (d + 7) true 206 14 [.ref 130, .int (nI dp)] [] h2 Q) from ⟨fun c1 => ?_, fun c1 => ?_⟩)
        · skip
          exact absurd c1 (by decide)
        · skip
          refine exf_go 3 (show wpC (d + 7) true 205 [.ref 130, .int (nI dp)] h2 (fun _ h' => Go (d + 7) true 206 19 [.ref 130, .int (nI dp)] [] h' Q) from ?_)
          refine hF _ _ _ mp2 (iv2.le (Nat.zero_le _)) ((((Fq.tr qL q2)).1 134 1 rfl).1.trans hW) (fun h3 q3 mp3 => ?_)
          have hb3 := mp_b mp3
          have gg3 := gF _ _ iv2; have iv3 := gg3.1
          show Go (d + 7) true 206 19 [.ref 130, .int (nI dp)] [] h3 Q
          refine exf_go 3 (show wpC (d + 7) true 200 [.ref 130, .int 3006] h3 (fun _ h' => Go (d + 7) true 206 26 [.ref 130, .int (nI dp)] [] h' Q) from ?_)
          refine m_codes (c := 3006) mp3 (fun e => ⟨iv_q iv3 (by omega) e, rfl⟩) (fun h4 q4 mp4 => ?_)
          have hb4 := mp_b mp4
          have hz4 := qe_em 3006 (F (nx s1)); have hi4 := qi_em 3006 (F (nx s1))
          show Go (d + 7) true 206 26 [.ref 130, .int (nI dp)] [] h4 Q
          refine exf_go 1 (show Go (d + 7) true 206 5 [.ref 130, .int (nI dp)] [] h4 Q from ?_)
          have hfu1 := hfu K11e.1; have hgq := gg3.2.1
          exact ih5 (fu - 1) _ h4 (by omega) (Fq.tr (Fq.tr (Fq.tr qL q2) q3) q4) mp4 (iv_em gg3.1) (fun _ => by omega) (by rw [hwh]; exact whl_y (by omega) K11)
      · skip
        have K11n := isK_x K11
        show Go (d + 7) true 206 11 [.ref 130, .int (nI dp)] [.int 0] hL Q
        refine exf_go 1 (show ((0 : Int32) = 0 → Go (d + 7) true 206 29 [.ref 130, .int (nI dp)] [] hL Q) ∧ (¬ ((0 : Int32) = 0) → Go (d + 7) true 206 14 [.ref 130, .int (nI dp)] [] hL Q) from ⟨fun c2 => ?_, fun c2 => ?_⟩)
        · skip
          refine exf_go 1 (show Q (mk_) hL from ?_)
          rw [hwh, whl_n K11] at k; exact k _ qL mpL
        · skip
          exact absurd (by decide) c2
  exact L5 (900 + 1) 900 (F s) h1 (by omega) q1 mp1 gg1.1 (fun _ => by omega) rfl
theorem m_bothW {d : Nat} {b : Nat → Nat} {n W dp : Nat} {F : PsG → PsG} (gF : Gd b n F) (hF : MC b n W (d + 7) 205 dp F) : MC b n W (d + 8) 206 dp (binW b n 11 3006 F) := fun _ _ _ mp iv hW k => m_bothW0 gF hF mp iv hW k
theorem m_truthW0 {d : Nat} {h : Hp} {b : Nat → Nat} {n : Nat} {s : PsG} {W dp : Nat} {F : PsG → PsG} {Q : Po} (gF : Gd b n F) (hF : MC b n W (d + 7) 206 dp F) (mp : MP b n s h) (iv : IV b n 0 s) (hW : rI h 134 1 = nI W) (k : ∀ h1, Fq sRd h h1 → MP b n (binW b n 10 3007 F s) h1 → Q mk_ h1) : wpC (d + 8) true 207 [.ref 130, .int (nI dp)] h Q := by
  have hb0 := mp_b mp
  refine go_in rfl ?_
  refine exf_go 3 (show wpC (d + 7) true 206 [.ref 130, .int (nI dp)] h (fun _ h' => Go (d + 7) true 207 5 [.ref 130, .int (nI dp)] [] h' Q) from ?_)
  refine hF _ _ _ mp (iv.le (Nat.zero_le _)) (hW) (fun h1 q1 mp1 => ?_)
  have hb1 := mp_b mp1
  have gg1 := gF _ _ iv; have iv1 := gg1.1
  show Go (d + 7) true 207 5 [.ref 130, .int (nI dp)] [] h1 Q
  have L5 : ∀ (k5 : Nat) (fu : Nat) (s1 : PsG) (hL : Hp), fu < k5 → (Fq sRd h hL) → (MP b n s1 hL) → (IV b n 0 s1) → (qe s1 = 0 → 900 ≤ qi s1 + fu) → (binW b n 10 3007 F s = whl (isK b n 10) (fun s => em 3007 (F (nx s))) fu s1) → Go (d + 7) true 207 5 [.ref 130, .int (nI dp)] [] hL Q := by
    intro k5
    induction k5 with
    | zero => intro fu s1 hL hk; exact absurd hk (Nat.not_lt_zero _)
    | succ k5 ih5 =>
      intro fu s1 hL hk qL mpL ivL hfu hwh
      have hbL := mp_b mpL
      refine exf_go 3 (show wpC (d + 7) true 194 [.ref 130, .int 10] hL (fun r h' => Go (d + 7) true 207 11 [.ref 130, .int (nI dp)] [r] h' Q) from ?_)
      refine m_eats (k := 10) mpL (by omega) (fun K11 h2 q2 mp2 => ?_) (fun K11 => ?_)
      · skip
        have K11e := isK_e K11
        have hb2 := mp_b mp2
        have hz2 := qe_nx s1; have hi2 := qi_nx s1
        have iv2 := iv_nx ivL (by omega)
        have hlt2 := iv_lt ivL (by omega)
        show Go (d + 7) true 207 11 [.ref 130, .int (nI dp)] [.int 1] h2 Q
        refine exf_go 1 (show ((1 : Int32) = 0 → Go (d + 7) true 207 29 [.ref 130, .int (nI dp)] [] h2 Q) ∧ (¬ ((1 : Int32) = 0) → Go (d + 7) true 207 14 [.ref 130, .int (nI dp)] [] h2 Q) from ⟨fun c1 => ?_, fun c1 => ?_⟩)
        · skip
          exact absurd c1 (by decide)
        · skip
          refine exf_go 3 (show wpC (d + 7) true 206 [.ref 130, .int (nI dp)] h2 (fun _ h' => Go (d + 7) true 207 19 [.ref 130, .int (nI dp)] [] h' Q) from ?_)
          refine hF _ _ _ mp2 (iv2.le (Nat.zero_le _)) ((((Fq.tr qL q2)).1 134 1 rfl).1.trans hW) (fun h3 q3 mp3 => ?_)
          have hb3 := mp_b mp3
          have gg3 := gF _ _ iv2; have iv3 := gg3.1
          show Go (d + 7) true 207 19 [.ref 130, .int (nI dp)] [] h3 Q
          refine exf_go 3 (show wpC (d + 7) true 200 [.ref 130, .int 3007] h3 (fun _ h' => Go (d + 7) true 207 26 [.ref 130, .int (nI dp)] [] h' Q) from ?_)
          refine m_codes (c := 3007) mp3 (fun e => ⟨iv_q iv3 (by omega) e, rfl⟩) (fun h4 q4 mp4 => ?_)
          have hb4 := mp_b mp4
          have hz4 := qe_em 3007 (F (nx s1)); have hi4 := qi_em 3007 (F (nx s1))
          show Go (d + 7) true 207 26 [.ref 130, .int (nI dp)] [] h4 Q
          refine exf_go 1 (show Go (d + 7) true 207 5 [.ref 130, .int (nI dp)] [] h4 Q from ?_)
          have hfu1 := hfu K11e.1; have hgq := gg3.2.1
          exact ih5 (fu - 1) _ h4 (by omega) (Fq.tr (Fq.tr (Fq.tr qL q2) q3) q4) mp4 (iv_em gg3.1) (fun _ => by omega) (by rw [hwh]; exact whl_y (by omega) K11)
      · skip
        have K11n := isK_x K11
        show Go (d + 7) true 207 11 [.ref 130, .int (nI dp)] [.int 0] hL Q
        refine exf_go 1 (show ((0 : Int32) = 0 → Go (d + 7) true 207 29 [.ref 130, .int (nI dp)] [] hL Q) ∧ (¬ ((0 : Int32) = 0) → Go (d + 7) true 207 14 [.ref 130, .int (nI dp)] [] hL Q) from ⟨fun c2 => ?_, fun c2 => ?_⟩)
        · skip
          refine exf_go 1 (show Q (mk_) hL from ?_)
          rw [hwh, whl_n K11] at k; exact k _ qL mpL
        · skip
          exact absurd (by decide) c2
  exact L5 (900 + 1) 900 (F s) h1 (by omega) q1 mp1 gg1.1 (fun _ => by omega) rfl
theorem m_truthW {d : Nat} {b : Nat → Nat} {n W dp : Nat} {F : PsG → PsG} (gF : Gd b n F) (hF : MC b n W (d + 7) 206 dp F) : MC b n W (d + 8) 207 dp (binW b n 10 3007 F) := fun _ _ _ mp iv hW k => m_truthW0 gF hF mp iv hW k
theorem m_sumF0 {d : Nat} {h : Hp} {b : Nat → Nat} {n : Nat} {s : PsG} {W dp : Nat} {F : PsG → PsG} {Q : Po} (gF : Gd b n F) (hF : MC b n W (d + 7) 203 dp F) (mp : MP b n s h) (iv : IV b n 0 s) (hW : rI h 134 1 = nI W) (k : ∀ h1, Fq sRd h h1 → MP b n (sumF b n F s) h1 → Q mk_ h1) : wpC (d + 8) true 204 [.ref 130, .int (nI dp)] h Q := by
  have hb0 := mp_b mp
  refine go_in rfl ?_
  refine exf_go 3 (show wpC (d + 7) true 203 [.ref 130, .int (nI dp)] h (fun _ h' => Go (d + 7) true 204 5 [.ref 130, .int (nI dp), mk_] [] h' Q) from ?_)
  refine hF _ _ _ mp (iv.le (Nat.zero_le _)) (hW) (fun h1 q1 mp1 => ?_)
  have hb1 := mp_b mp1
  have gg1 := gF _ _ iv; have iv1 := gg1.1
  show Go (d + 7) true 204 5 [.ref 130, .int (nI dp), mk_] [] h1 Q
  have L5 : ∀ (k5 : Nat) (z2 : Value) (fu : Nat) (s1 : PsG) (hL : Hp), fu < k5 → (Fq sRd h hL) → (MP b n s1 hL) → (IV b n 0 s1) → (qe s1 = 0 → 900 ≤ qi s1 + fu) → (sumF b n F s = whl (pmK b n) (pmB b n F) fu s1) → Go (d + 7) true 204 5 [.ref 130, .int (nI dp), z2] [] hL Q := by
    intro k5
    induction k5 with
    | zero => intro z2 fu s1 hL hk; exact absurd hk (Nat.not_lt_zero _)
    | succ k5 ih5 =>
      intro z2 fu s1 hL hk qL mpL ivL hfu hwh
      have hbL := mp_b mpL
      refine exf_go 3 (show wpC (d + 7) true 193 [.ref 130, .int 27] hL (fun r h' => Go (d + 7) true 204 11 [.ref 130, .int (nI dp), z2] [r] h' Q) from ?_)
      refine m_is (k := 27) mpL (by omega) (fun K11 => ?_) (fun K11 => ?_)
      · skip
        have K11e := isK_e K11
        show Go (d + 7) true 204 11 [.ref 130, .int (nI dp), z2] [.int 1] hL Q
        refine exf_go 1 (show (¬ (1 : Int32) = 0 → Go (d + 7) true 204 23 [.ref 130, .int (nI dp), z2] [] hL Q) ∧ (¬ (¬ (1 : Int32) = 0) → Go (d + 7) true 204 14 [.ref 130, .int (nI dp), z2] [] hL Q) from ⟨fun c1 => ?_, fun c1 => ?_⟩)
        · skip
          refine exf_go 2 (show Go (d + 7) true 204 27 [.ref 130, .int (nI dp), z2] [.int (rI hL 130 9)] hL Q from ?_)
          rw [show (rI hL 130 9 : Int32) = nI (kd b n (qi s1)) from mpL.2.1.2.2.1]
          refine exf_go 2 (show (¬ (nI (kd b n (qi s1))) = 27 → Go (d + 7) true 204 38 [.ref 130, .int (nI dp), z2] [] hL Q) ∧ (¬ (¬ (nI (kd b n (qi s1))) = 27) → Go (d + 7) true 204 32 [.ref 130, .int (nI dp), z2] [] hL Q) from ⟨fun c2 => ?_, fun c2 => ?_⟩)
          · skip
            have c2 : ¬ (kd b n (qi s1)) = 27 := fun q => c2 ((nI_eq (a := (kd b n (qi s1))) (b := 27) (by omega) (by omega)).mpr q)
            exfalso; omega
          · skip
            have c2 : (kd b n (qi s1)) = 27 := (nI_eq (a := (kd b n (qi s1))) (b := 27) (by omega) (by omega)).mp (Classical.not_not.mp c2)
            refine exf_go 5 (show wpC (d + 7) true 191 [.ref 130] hL (fun _ h' => Go (d + 7) true 204 46 [.ref 130, .int (nI dp), .int 3000] [] h' Q) from ?_)
            refine m_nx mpL (fun h2 q2 mp2 => ?_)
            have hb2 := mp_b mp2
            have hz2 := qe_nx s1; have hi2 := qi_nx s1
            have iv2 := iv_nx ivL (by omega)
            show Go (d + 7) true 204 46 [.ref 130, .int (nI dp), .int 3000] [] h2 Q
            refine exf_go 3 (show wpC (d + 7) true 203 [.ref 130, .int (nI dp)] h2 (fun _ h' => Go (d + 7) true 204 51 [.ref 130, .int (nI dp), .int 3000] [] h' Q) from ?_)
            refine hF _ _ _ mp2 (iv2.le (Nat.zero_le _)) ((((Fq.tr qL q2)).1 134 1 rfl).1.trans hW) (fun h3 q3 mp3 => ?_)
            have hb3 := mp_b mp3
            have gg3 := gF _ _ iv2; have iv3 := gg3.1
            show Go (d + 7) true 204 51 [.ref 130, .int (nI dp), .int 3000] [] h3 Q
            refine exf_go 3 (show wpC (d + 7) true 200 [.ref 130, .int 3000] h3 (fun _ h' => Go (d + 7) true 204 56 [.ref 130, .int (nI dp), .int 3000] [] h' Q) from ?_)
            refine m_codes (c := 3000) mp3 (fun e => ⟨iv_q iv3 (by omega) e, rfl⟩) (fun h4 q4 mp4 => ?_)
            have hb4 := mp_b mp4
            have hz4 := qe_em 3000 (F (nx s1)); have hi4 := qi_em 3000 (F (nx s1))
            show Go (d + 7) true 204 56 [.ref 130, .int (nI dp), .int 3000] [] h4 Q
            refine exf_go 1 (show Go (d + 7) true 204 5 [.ref 130, .int (nI dp), .int 3000] [] h4 Q from ?_)
            have hpk : pmK b n s1 = true := by unfold pmK; rw [K11]; rfl
            have hpb : (em 3000 (F (nx s1))) = pmB b n F s1 := by unfold pmB; rw [if_pos (by omega)]
            rw [hpb] at mp4
            have hg2 := gd_pm gF 0 s1 ivL hpk; have hfu1 := hfu (by omega); have hlt := iv_lt ivL (by omega)
            exact ih5 (.int 3000) (fu - 1) _ h4 (by omega) (Fq.tr (Fq.tr (Fq.tr qL q2) q3) q4) mp4 hg2.1 (fun _ => by omega) (by rw [hwh]; exact whl_y (by omega) hpk)
        · skip
          exact absurd (by decide) c1
      · skip
        have K11n := isK_x K11
        show Go (d + 7) true 204 11 [.ref 130, .int (nI dp), z2] [.int 0] hL Q
        refine exf_go 1 (show (¬ (0 : Int32) = 0 → Go (d + 7) true 204 23 [.ref 130, .int (nI dp), z2] [] hL Q) ∧ (¬ (¬ (0 : Int32) = 0) → Go (d + 7) true 204 14 [.ref 130, .int (nI dp), z2] [] hL Q) from ⟨fun c3 => ?_, fun c3 => ?_⟩)
        · skip
          exact absurd c3 (by decide)
        · skip
          refine exf_go 3 (show wpC (d + 7) true 193 [.ref 130, .int 28] hL (fun r h' => Go (d + 7) true 204 20 [.ref 130, .int (nI dp), z2] [r] h' Q) from ?_)
          refine m_is (k := 28) mpL (by omega) (fun K20 => ?_) (fun K20 => ?_)
          · skip
            have K20e := isK_e K20
            show Go (d + 7) true 204 20 [.ref 130, .int (nI dp), z2] [.int 1] hL Q
            refine exf_go 1 (show ((1 : Int32) = 0 → Go (d + 7) true 204 59 [.ref 130, .int (nI dp), z2] [] hL Q) ∧ (¬ ((1 : Int32) = 0) → Go (d + 7) true 204 23 [.ref 130, .int (nI dp), z2] [] hL Q) from ⟨fun c4 => ?_, fun c4 => ?_⟩)
            · skip
              exact absurd c4 (by decide)
            · skip
              refine exf_go 2 (show Go (d + 7) true 204 27 [.ref 130, .int (nI dp), z2] [.int (rI hL 130 9)] hL Q from ?_)
              rw [show (rI hL 130 9 : Int32) = nI (kd b n (qi s1)) from mpL.2.1.2.2.1]
              refine exf_go 2 (show (¬ (nI (kd b n (qi s1))) = 27 → Go (d + 7) true 204 38 [.ref 130, .int (nI dp), z2] [] hL Q) ∧ (¬ (¬ (nI (kd b n (qi s1))) = 27) → Go (d + 7) true 204 32 [.ref 130, .int (nI dp), z2] [] hL Q) from ⟨fun c5 => ?_, fun c5 => ?_⟩)
              · skip
                have c5 : ¬ (kd b n (qi s1)) = 27 := fun q => c5 ((nI_eq (a := (kd b n (qi s1))) (b := 27) (by omega) (by omega)).mpr q)
                refine exf_go 4 (show wpC (d + 7) true 191 [.ref 130] hL (fun _ h' => Go (d + 7) true 204 46 [.ref 130, .int (nI dp), .int 3001] [] h' Q) from ?_)
                refine m_nx mpL (fun h5 q5 mp5 => ?_)
                have hb5 := mp_b mp5
                have hz5 := qe_nx s1; have hi5 := qi_nx s1
                have iv5 := iv_nx ivL (by omega)
                show Go (d + 7) true 204 46 [.ref 130, .int (nI dp), .int 3001] [] h5 Q
                refine exf_go 3 (show wpC (d + 7) true 203 [.ref 130, .int (nI dp)] h5 (fun _ h' => Go (d + 7) true 204 51 [.ref 130, .int (nI dp), .int 3001] [] h' Q) from ?_)
                refine hF _ _ _ mp5 (iv5.le (Nat.zero_le _)) ((((Fq.tr qL q5)).1 134 1 rfl).1.trans hW) (fun h6 q6 mp6 => ?_)
                have hb6 := mp_b mp6
                have gg6 := gF _ _ iv5; have iv6 := gg6.1
                show Go (d + 7) true 204 51 [.ref 130, .int (nI dp), .int 3001] [] h6 Q
                refine exf_go 3 (show wpC (d + 7) true 200 [.ref 130, .int 3001] h6 (fun _ h' => Go (d + 7) true 204 56 [.ref 130, .int (nI dp), .int 3001] [] h' Q) from ?_)
                refine m_codes (c := 3001) mp6 (fun e => ⟨iv_q iv6 (by omega) e, rfl⟩) (fun h7 q7 mp7 => ?_)
                have hb7 := mp_b mp7
                have hz7 := qe_em 3001 (F (nx s1)); have hi7 := qi_em 3001 (F (nx s1))
                show Go (d + 7) true 204 56 [.ref 130, .int (nI dp), .int 3001] [] h7 Q
                refine exf_go 1 (show Go (d + 7) true 204 5 [.ref 130, .int (nI dp), .int 3001] [] h7 Q from ?_)
                have hpk : pmK b n s1 = true := by unfold pmK; rw [K11, K20]; rfl
                have hpb : (em 3001 (F (nx s1))) = pmB b n F s1 := by unfold pmB; rw [if_neg (by omega)]
                rw [hpb] at mp7
                have hg2 := gd_pm gF 0 s1 ivL hpk; have hfu1 := hfu (by omega); have hlt := iv_lt ivL (by omega)
                exact ih5 (.int 3001) (fu - 1) _ h7 (by omega) (Fq.tr (Fq.tr (Fq.tr qL q5) q6) q7) mp7 hg2.1 (fun _ => by omega) (by rw [hwh]; exact whl_y (by omega) hpk)
              · skip
                have c5 : (kd b n (qi s1)) = 27 := (nI_eq (a := (kd b n (qi s1))) (b := 27) (by omega) (by omega)).mp (Classical.not_not.mp c5)
                exfalso; omega
          · skip
            have K20n := isK_x K20
            show Go (d + 7) true 204 20 [.ref 130, .int (nI dp), z2] [.int 0] hL Q
            refine exf_go 1 (show ((0 : Int32) = 0 → Go (d + 7) true 204 59 [.ref 130, .int (nI dp), z2] [] hL Q) ∧ (¬ ((0 : Int32) = 0) → Go (d + 7) true 204 23 [.ref 130, .int (nI dp), z2] [] hL Q) from ⟨fun c6 => ?_, fun c6 => ?_⟩)
            · skip
              refine exf_go 1 (show Q (mk_) hL from ?_)
              have hpk : pmK b n s1 = false := by unfold pmK; rw [K11, K20]; rfl
              rw [hwh, whl_n hpk] at k; exact k _ qL mpL
            · skip
              exact absurd (by decide) c6
  exact L5 (900 + 1) mk_ 900 (F s) h1 (by omega) q1 mp1 gg1.1 (fun _ => by omega) rfl
theorem m_sumF {d : Nat} {b : Nat → Nat} {n W dp : Nat} {F : PsG → PsG} (gF : Gd b n F) (hF : MC b n W (d + 7) 203 dp F) : MC b n W (d + 8) 204 dp (sumF b n F) := fun _ _ _ mp iv hW k => m_sumF0 gF hF mp iv hW k
theorem m_sumS {d : Nat} {b : Nat → Nat} {n W m : Nat} (hW4 : W ≤ 4) (hm : m ≤ 6) (ih : ∀ q, m = q + 1 → MC b n W (d + 7) 204 (6 - q) (innS b n W m)) : MC b n W (d + 10) 204 (6 - m) (smL b n W m) := by
  rw [smL_e]
  exact m_sumF (d := d + 2) (gd_bin (by decide) (gd_atom (gd_innS b n W m))) (m_term (d := d + 1) (gd_atom (gd_innS b n W m)) (m_atom hW4 hm (gd_innS b n W m) ih))
theorem m_sumL {b : Nat → Nat} {n W : Nat} (hW4 : W ≤ 4) (d : Nat) : ∀ m, m ≤ 6 → MC b n W (3 * m + d + 10) 204 (6 - m) (smL b n W m)
  | 0, h => m_sumS hW4 h (fun q e => absurd e (by omega))
  | m + 1, h => m_sumS hW4 h (fun q e => by
    have e : q = m := by omega
    subst e
    rw [show 3 * (q + 1) + d + 7 = 3 * q + d + 10 from by omega]
    exact m_sumL hW4 d q (by omega))
