/-! The model: units, truths. -/
theorem m_unit0 {d : Nat} {h : Hp} {b : Nat → Nat} {n : Nat} {s : PsG} {W m : Nat} {un tr : PsG → PsG} {Q : Po} (hm : m ≤ 6) (gu : Gd b n un) (gt : Gd b n tr) (hS : MC b n W (d + 10) 204 (6 - m) (smL b n W m)) (ihu : ∀ q, m = q + 1 → MC b n W (d + 10) 205 (6 - q) un) (iht : ∀ q, m = q + 1 → MC b n W (d + 10) 207 (6 - q) tr) (mp : MP b n s h) (iv : IV b n 0 s) (hW : rI h 134 1 = nI W) (k : ∀ h1, Fq sRd h h1 → MP b n (unitF b n W m un tr s) h1 → Q mk_ h1) : wpC (d + 11) true 205 [.ref 130, .int (nI (6 - m))] h Q := by
  have hb0 := mp_b mp
  refine go_in rfl ?_
  have X111 : ∀ (x : Int32) (hC : Hp), (Fq sRd h hC) → (MP b n (smL b n W m s) hC) → (qe (smL b n W m s) = 0 → x = nI (cmpC b n (smL b n W m s))) → (∀ x y : PsG, (if isK b n 12 s = true then x else y) = y) → (∀ x y : PsG, (if isK b n 32 s = true then x else y) = y) → Go (d + 10) true 205 111 [.ref 130, .int (nI (6 - m)), mk_] [.int x] hC Q := by
    intro x hC qC mpC hxc H6 H39
    have hbC := mp_b mpC
    have ggC := gd_sum b n W m _ _ iv
    have ivC := ggC.1
    refine exf_go 4 (show wpC (d + 10) true 193 [.ref 130, .int 34] hC (fun r h' => Go (d + 10) true 205 118 [.ref 130, .int (nI (6 - m)), .int x] [r] h' Q) from ?_)
    refine m_is (k := 34) mpC (by omega) (fun K118 => ?_) (fun K118 => ?_)
    · skip
      have K118e := isK_e K118
      show Go (d + 10) true 205 118 [.ref 130, .int (nI (6 - m)), .int x] [.int 1] hC Q
      refine exf_go 1 (show (¬ (1 : Int32) = 0 → Go (d + 10) true 205 139 [.ref 130, .int (nI (6 - m)), .int x] [] hC Q) ∧ (¬ (¬ (1 : Int32) = 0) → Go (d + 10) true 205 121 [.ref 130, .int (nI (6 - m)), .int x] [] hC Q) from ⟨fun c1 => ?_, fun c1 => ?_⟩)
      · skip
        refine exf_go 2 (show wpC (d + 10) true 191 [.ref 130] hC (fun _ h' => Go (d + 10) true 205 143 [.ref 130, .int (nI (6 - m)), .int x] [] h' Q) from ?_)
        refine m_nx mpC (fun h1 q1 mp1 => ?_)
        have hb1 := mp_b mp1
        have hz1 := qe_nx (smL b n W m s); have hi1 := qi_nx (smL b n W m s)
        have iv1 := iv_nx ivC (by omega)
        show Go (d + 10) true 205 143 [.ref 130, .int (nI (6 - m)), .int x] [] h1 Q
        refine exf_go 4 (show wpC (d + 10) true 204 [.ref 130, .int (nI (6 - m))] h1 (fun _ h' => Go (d + 10) true 205 156 [.ref 130, .int (nI (6 - m)), .int x] [] h' Q) from ?_)
        refine hS _ _ _ mp1 (iv1.le (Nat.zero_le _)) ((((Fq.tr qC q1)).1 134 1 rfl).1.trans hW) (fun h2 q2 mp2 => ?_)
        have hb2 := mp_b mp2
        have gg2 := (gd_sum b n W m) _ _ iv1; have iv2 := gg2.1
        show Go (d + 10) true 205 156 [.ref 130, .int (nI (6 - m)), .int x] [] h2 Q
        refine exf_go 3 (show wpC (d + 10) true 200 [.ref 130, .int x] h2 (fun _ h' => Go (d + 10) true 205 161 [.ref 130, .int (nI (6 - m)), .int x] [] h' Q) from ?_)
        refine m_codes (c := cmpC b n (smL b n W m s)) mp2 (fun e => ⟨iv_q iv2 (by omega) e, hxc (by omega)⟩) (fun h3 q3 mp3 => ?_)
        have hb3 := mp_b mp3
        have hz3 := qe_em (cmpC b n (smL b n W m s)) (smL b n W m (nx (smL b n W m s))); have hi3 := qi_em (cmpC b n (smL b n W m s)) (smL b n W m (nx (smL b n W m s)))
        show Go (d + 10) true 205 161 [.ref 130, .int (nI (6 - m)), .int x] [] h3 Q
        refine exf_go 1 (show Q (mk_) h3 from ?_)
        have hck : cmpK b n (smL b n W m s) = true := by unfold cmpK; first | (rw [K118]; rfl) | (rw [K118, K127]; rfl) | (rw [K118, K127, K136]; rfl)
        have ea : unitF b n W m un tr s = (em (cmpC b n (smL b n W m s)) (smL b n W m (nx (smL b n W m s)))) := by unfold unitF; rw [H6, H39]; unfold cmpF cmpN; rw [if_pos hck]
        rw [ea] at k; exact k _ (Fq.tr (Fq.tr (Fq.tr qC q1) q2) q3) mp3
      · skip
        exact absurd (by decide) c1
    · skip
      have K118n := isK_x K118
      show Go (d + 10) true 205 118 [.ref 130, .int (nI (6 - m)), .int x] [.int 0] hC Q
      refine exf_go 1 (show (¬ (0 : Int32) = 0 → Go (d + 10) true 205 139 [.ref 130, .int (nI (6 - m)), .int x] [] hC Q) ∧ (¬ (¬ (0 : Int32) = 0) → Go (d + 10) true 205 121 [.ref 130, .int (nI (6 - m)), .int x] [] hC Q) from ⟨fun c2 => ?_, fun c2 => ?_⟩)
      · skip
        exact absurd c2 (by decide)
      · skip
        refine exf_go 3 (show wpC (d + 10) true 193 [.ref 130, .int 35] hC (fun r h' => Go (d + 10) true 205 127 [.ref 130, .int (nI (6 - m)), .int x] [r] h' Q) from ?_)
        refine m_is (k := 35) mpC (by omega) (fun K127 => ?_) (fun K127 => ?_)
        · skip
          have K127e := isK_e K127
          show Go (d + 10) true 205 127 [.ref 130, .int (nI (6 - m)), .int x] [.int 1] hC Q
          refine exf_go 1 (show (¬ (1 : Int32) = 0 → Go (d + 10) true 205 139 [.ref 130, .int (nI (6 - m)), .int x] [] hC Q) ∧ (¬ (¬ (1 : Int32) = 0) → Go (d + 10) true 205 130 [.ref 130, .int (nI (6 - m)), .int x] [] hC Q) from ⟨fun c3 => ?_, fun c3 => ?_⟩)
          · skip
            refine exf_go 2 (show wpC (d + 10) true 191 [.ref 130] hC (fun _ h' => Go (d + 10) true 205 143 [.ref 130, .int (nI (6 - m)), .int x] [] h' Q) from ?_)
            refine m_nx mpC (fun h4 q4 mp4 => ?_)
            have hb4 := mp_b mp4
            have hz4 := qe_nx (smL b n W m s); have hi4 := qi_nx (smL b n W m s)
            have iv4 := iv_nx ivC (by omega)
            show Go (d + 10) true 205 143 [.ref 130, .int (nI (6 - m)), .int x] [] h4 Q
            refine exf_go 4 (show wpC (d + 10) true 204 [.ref 130, .int (nI (6 - m))] h4 (fun _ h' => Go (d + 10) true 205 156 [.ref 130, .int (nI (6 - m)), .int x] [] h' Q) from ?_)
            refine hS _ _ _ mp4 (iv4.le (Nat.zero_le _)) ((((Fq.tr qC q4)).1 134 1 rfl).1.trans hW) (fun h5 q5 mp5 => ?_)
            have hb5 := mp_b mp5
            have gg5 := (gd_sum b n W m) _ _ iv4; have iv5 := gg5.1
            show Go (d + 10) true 205 156 [.ref 130, .int (nI (6 - m)), .int x] [] h5 Q
            refine exf_go 3 (show wpC (d + 10) true 200 [.ref 130, .int x] h5 (fun _ h' => Go (d + 10) true 205 161 [.ref 130, .int (nI (6 - m)), .int x] [] h' Q) from ?_)
            refine m_codes (c := cmpC b n (smL b n W m s)) mp5 (fun e => ⟨iv_q iv5 (by omega) e, hxc (by omega)⟩) (fun h6 q6 mp6 => ?_)
            have hb6 := mp_b mp6
            have hz6 := qe_em (cmpC b n (smL b n W m s)) (smL b n W m (nx (smL b n W m s))); have hi6 := qi_em (cmpC b n (smL b n W m s)) (smL b n W m (nx (smL b n W m s)))
            show Go (d + 10) true 205 161 [.ref 130, .int (nI (6 - m)), .int x] [] h6 Q
            refine exf_go 1 (show Q (mk_) h6 from ?_)
            have hck : cmpK b n (smL b n W m s) = true := by unfold cmpK; first | (rw [K118]; rfl) | (rw [K118, K127]; rfl) | (rw [K118, K127, K136]; rfl)
            have ea : unitF b n W m un tr s = (em (cmpC b n (smL b n W m s)) (smL b n W m (nx (smL b n W m s)))) := by unfold unitF; rw [H6, H39]; unfold cmpF cmpN; rw [if_pos hck]
            rw [ea] at k; exact k _ (Fq.tr (Fq.tr (Fq.tr qC q4) q5) q6) mp6
          · skip
            exact absurd (by decide) c3
        · skip
          have K127n := isK_x K127
          show Go (d + 10) true 205 127 [.ref 130, .int (nI (6 - m)), .int x] [.int 0] hC Q
          refine exf_go 1 (show (¬ (0 : Int32) = 0 → Go (d + 10) true 205 139 [.ref 130, .int (nI (6 - m)), .int x] [] hC Q) ∧ (¬ (¬ (0 : Int32) = 0) → Go (d + 10) true 205 130 [.ref 130, .int (nI (6 - m)), .int x] [] hC Q) from ⟨fun c4 => ?_, fun c4 => ?_⟩)
          · skip
            exact absurd c4 (by decide)
          · skip
            refine exf_go 3 (show wpC (d + 10) true 193 [.ref 130, .int 36] hC (fun r h' => Go (d + 10) true 205 136 [.ref 130, .int (nI (6 - m)), .int x] [r] h' Q) from ?_)
            refine m_is (k := 36) mpC (by omega) (fun K136 => ?_) (fun K136 => ?_)
            · skip
              have K136e := isK_e K136
              show Go (d + 10) true 205 136 [.ref 130, .int (nI (6 - m)), .int x] [.int 1] hC Q
              refine exf_go 1 (show ((1 : Int32) = 0 → Go (d + 10) true 205 146 [.ref 130, .int (nI (6 - m)), .int x] [] hC Q) ∧ (¬ ((1 : Int32) = 0) → Go (d + 10) true 205 139 [.ref 130, .int (nI (6 - m)), .int x] [] hC Q) from ⟨fun c5 => ?_, fun c5 => ?_⟩)
              · skip
                exact absurd c5 (by decide)
              · skip
                refine exf_go 2 (show wpC (d + 10) true 191 [.ref 130] hC (fun _ h' => Go (d + 10) true 205 143 [.ref 130, .int (nI (6 - m)), .int x] [] h' Q) from ?_)
                refine m_nx mpC (fun h7 q7 mp7 => ?_)
                have hb7 := mp_b mp7
                have hz7 := qe_nx (smL b n W m s); have hi7 := qi_nx (smL b n W m s)
                have iv7 := iv_nx ivC (by omega)
                show Go (d + 10) true 205 143 [.ref 130, .int (nI (6 - m)), .int x] [] h7 Q
                refine exf_go 4 (show wpC (d + 10) true 204 [.ref 130, .int (nI (6 - m))] h7 (fun _ h' => Go (d + 10) true 205 156 [.ref 130, .int (nI (6 - m)), .int x] [] h' Q) from ?_)
                refine hS _ _ _ mp7 (iv7.le (Nat.zero_le _)) ((((Fq.tr qC q7)).1 134 1 rfl).1.trans hW) (fun h8 q8 mp8 => ?_)
                have hb8 := mp_b mp8
                have gg8 := (gd_sum b n W m) _ _ iv7; have iv8 := gg8.1
                show Go (d + 10) true 205 156 [.ref 130, .int (nI (6 - m)), .int x] [] h8 Q
                refine exf_go 3 (show wpC (d + 10) true 200 [.ref 130, .int x] h8 (fun _ h' => Go (d + 10) true 205 161 [.ref 130, .int (nI (6 - m)), .int x] [] h' Q) from ?_)
                refine m_codes (c := cmpC b n (smL b n W m s)) mp8 (fun e => ⟨iv_q iv8 (by omega) e, hxc (by omega)⟩) (fun h9 q9 mp9 => ?_)
                have hb9 := mp_b mp9
                have hz9 := qe_em (cmpC b n (smL b n W m s)) (smL b n W m (nx (smL b n W m s))); have hi9 := qi_em (cmpC b n (smL b n W m s)) (smL b n W m (nx (smL b n W m s)))
                show Go (d + 10) true 205 161 [.ref 130, .int (nI (6 - m)), .int x] [] h9 Q
                refine exf_go 1 (show Q (mk_) h9 from ?_)
                have hck : cmpK b n (smL b n W m s) = true := by unfold cmpK; first | (rw [K118]; rfl) | (rw [K118, K127]; rfl) | (rw [K118, K127, K136]; rfl)
                have ea : unitF b n W m un tr s = (em (cmpC b n (smL b n W m s)) (smL b n W m (nx (smL b n W m s)))) := by unfold unitF; rw [H6, H39]; unfold cmpF cmpN; rw [if_pos hck]
                rw [ea] at k; exact k _ (Fq.tr (Fq.tr (Fq.tr qC q7) q8) q9) mp9
            · skip
              have K136n := isK_x K136
              show Go (d + 10) true 205 136 [.ref 130, .int (nI (6 - m)), .int x] [.int 0] hC Q
              refine exf_go 1 (show ((0 : Int32) = 0 → Go (d + 10) true 205 146 [.ref 130, .int (nI (6 - m)), .int x] [] hC Q) ∧ (¬ ((0 : Int32) = 0) → Go (d + 10) true 205 139 [.ref 130, .int (nI (6 - m)), .int x] [] hC Q) from ⟨fun c6 => ?_, fun c6 => ?_⟩)
              · skip
                refine exf_go 3 (show wpC (d + 10) true 192 [.ref 130, .int 2] hC (fun _ h' => Go (d + 10) true 205 151 [.ref 130, .int (nI (6 - m)), .int x] [] h' Q) from ?_)
                refine m_fails (w := 2) mpC (by omega) (fun h10 q10 mp10 => ?_)
                have hb10 := mp_b mp10
                have hz10 : ¬ qe (fl b n 2 (smL b n W m s)) = 0 := fl_ne (by omega)
                have iv10 : IV b n 0 (fl b n 2 (smL b n W m s)) := iv_fl2 ivC (by decide)
                show Go (d + 10) true 205 151 [.ref 130, .int (nI (6 - m)), .int x] [] h10 Q
                refine exf_go 3 (show wpC (d + 10) true 204 [.ref 130, .int (nI (6 - m))] h10 (fun _ h' => Go (d + 10) true 205 156 [.ref 130, .int (nI (6 - m)), .int x] [] h' Q) from ?_)
                refine hS _ _ _ mp10 (iv10.le (Nat.zero_le _)) ((((Fq.tr qC q10)).1 134 1 rfl).1.trans hW) (fun h11 q11 mp11 => ?_)
                have hb11 := mp_b mp11
                have gg11 := (gd_sum b n W m) _ _ iv10; have iv11 := gg11.1
                show Go (d + 10) true 205 156 [.ref 130, .int (nI (6 - m)), .int x] [] h11 Q
                refine exf_go 3 (show wpC (d + 10) true 200 [.ref 130, .int x] h11 (fun _ h' => Go (d + 10) true 205 161 [.ref 130, .int (nI (6 - m)), .int x] [] h' Q) from ?_)
                refine m_codes (c := cmpC b n (smL b n W m s)) mp11 (fun e => ⟨iv_q iv11 (by omega) e, absurd e (by rw [gg11.2.2 (fl_ne (by decide))]; exact fl_ne (by decide))⟩) (fun h12 q12 mp12 => ?_)
                have hb12 := mp_b mp12
                have hz12 := qe_em (cmpC b n (smL b n W m s)) (smL b n W m (fl b n 2 (smL b n W m s))); have hi12 := qi_em (cmpC b n (smL b n W m s)) (smL b n W m (fl b n 2 (smL b n W m s)))
                show Go (d + 10) true 205 161 [.ref 130, .int (nI (6 - m)), .int x] [] h12 Q
                refine exf_go 1 (show Q (mk_) h12 from ?_)
                have hck : cmpK b n (smL b n W m s) = false := by unfold cmpK; rw [K118, K127, K136]; rfl
                have ea : unitF b n W m un tr s = (em (cmpC b n (smL b n W m s)) (smL b n W m (fl b n 2 (smL b n W m s)))) := by unfold unitF; rw [H6, H39]; unfold cmpF cmpN; rw [if_neg (by rw [hck]; decide)]
                rw [ea] at k; exact k _ (Fq.tr (Fq.tr (Fq.tr qC q10) q11) q12) mp12
              · skip
                exact absurd (by decide) c6
  refine exf_go 3 (show wpC (d + 10) true 193 [.ref 130, .int 12] h (fun r h' => Go (d + 10) true 205 6 [.ref 130, .int (nI (6 - m)), mk_] [r] h' Q) from ?_)
  refine m_is (k := 12) mp (by omega) (fun K6 => ?_) (fun K6 => ?_)
  · skip
    have K6e := isK_e K6
    show Go (d + 10) true 205 6 [.ref 130, .int (nI (6 - m)), mk_] [.int 1] h Q
    refine exf_go 1 (show ((1 : Int32) = 0 → Go (d + 10) true 205 33 [.ref 130, .int (nI (6 - m)), mk_] [] h Q) ∧ (¬ ((1 : Int32) = 0) → Go (d + 10) true 205 9 [.ref 130, .int (nI (6 - m)), mk_] [] h Q) from ⟨fun c7 => ?_, fun c7 => ?_⟩)
    · skip
      exact absurd c7 (by decide)
    · skip
      refine exf_go 3 (show wpC (d + 10) true 201 [.ref 130, .int (nI (6 - m))] h (fun r h' => Go (d + 10) true 205 14 [.ref 130, .int (nI (6 - m)), mk_] [r] h' Q) from ?_)
      refine m_goesIn (m := m) mp (by omega) hm (fun hm0 h13 q13 mp13 => ?_) (fun hm0 h14 q14 mp14 => ?_)
      · skip
        have hb13 := mp_b mp13
        have hz13 := qe_nx s; have hi13 := qi_nx s
        have iv13 := iv_nx iv (by omega)
        show Go (d + 10) true 205 14 [.ref 130, .int (nI (6 - m)), mk_] [.int 1] h13 Q
        refine exf_go 1 (show (¬ (1 : Int32) = 0 → Go (d + 10) true 205 18 [.ref 130, .int (nI (6 - m)), mk_] [] h13 Q) ∧ (¬ (¬ (1 : Int32) = 0) → Go (d + 10) true 205 17 [.ref 130, .int (nI (6 - m)), mk_] [] h13 Q) from ⟨fun c8 => ?_, fun c8 => ?_⟩)
        · skip
          refine exf_go 4 (show Go (d + 10) true 205 22 [.ref 130, .int (nI (6 - m)), mk_] [.int ((nI (6 - m)) + 1), .ref 130] h13 Q from ?_)
          rw [show ((nI (6 - m)) + 1 : Int32) = nI ((6 - m) + 1) from nI_add (6 - m) 1]
          refine exf_go 1 (show wpC (d + 10) true 205 [.ref 130, .int (nI ((6 - m) + 1))] h13 (fun _ h' => Go (d + 10) true 205 25 [.ref 130, .int (nI (6 - m)), mk_] [] h' Q) from ?_)
          rw [show 6 - m + 1 = 6 - (m - 1) from by omega]
          refine ihu (m - 1) (by omega) _ _ _ mp13 (iv13.le (Nat.zero_le _)) (((q13).1 134 1 rfl).1.trans hW) (fun h15 q15 mp15 => ?_)
          have hb15 := mp_b mp15
          have gg15 := gu _ _ iv13; have iv15 := gg15.1
          show Go (d + 10) true 205 25 [.ref 130, .int (nI (6 - m)), mk_] [] h15 Q
          refine exf_go 3 (show wpC (d + 10) true 200 [.ref 130, .int 3008] h15 (fun _ h' => Go (d + 10) true 205 32 [.ref 130, .int (nI (6 - m)), mk_] [] h' Q) from ?_)
          refine m_codes (c := 3008) mp15 (fun e => ⟨iv_q iv15 (by omega) e, rfl⟩) (fun h16 q16 mp16 => ?_)
          have hb16 := mp_b mp16
          have hz16 := qe_em 3008 (un (nx s)); have hi16 := qi_em 3008 (un (nx s))
          show Go (d + 10) true 205 32 [.ref 130, .int (nI (6 - m)), mk_] [] h16 Q
          refine exf_go 1 (show Q (mk_) h16 from ?_)
          have ea : unitF b n W m un tr s = (em 3008 (un (nx s))) := by unfold unitF; rw [if_pos K6, if_neg hm0]
          rw [ea] at k; exact k _ (Fq.tr (Fq.tr q13 q15) q16) mp16
        · skip
          exact absurd (by decide) c8
      · skip
        show Go (d + 10) true 205 14 [.ref 130, .int (nI (6 - m)), mk_] [.int 0] h14 Q
        refine exf_go 1 (show (¬ (0 : Int32) = 0 → Go (d + 10) true 205 18 [.ref 130, .int (nI (6 - m)), mk_] [] h14 Q) ∧ (¬ (¬ (0 : Int32) = 0) → Go (d + 10) true 205 17 [.ref 130, .int (nI (6 - m)), mk_] [] h14 Q) from ⟨fun c9 => ?_, fun c9 => ?_⟩)
        · skip
          exact absurd c9 (by decide)
        · skip
          refine exf_go 1 (show Q (mk_) h14 from ?_)
          have ea : unitF b n W m un tr s = (fl b n 4 s) := by unfold unitF; first | rw [if_pos K6, if_pos hm0] | rw [if_neg (by rw [K6]; decide), if_pos K39, if_pos hm0]
          rw [ea] at k; exact k _ q14 mp14
  · skip
    have K6n := isK_x K6
    show Go (d + 10) true 205 6 [.ref 130, .int (nI (6 - m)), mk_] [.int 0] h Q
    refine exf_go 1 (show ((0 : Int32) = 0 → Go (d + 10) true 205 33 [.ref 130, .int (nI (6 - m)), mk_] [] h Q) ∧ (¬ ((0 : Int32) = 0) → Go (d + 10) true 205 9 [.ref 130, .int (nI (6 - m)), mk_] [] h Q) from ⟨fun c10 => ?_, fun c10 => ?_⟩)
    · skip
      refine exf_go 3 (show wpC (d + 10) true 193 [.ref 130, .int 32] h (fun r h' => Go (d + 10) true 205 39 [.ref 130, .int (nI (6 - m)), mk_] [r] h' Q) from ?_)
      refine m_is (k := 32) mp (by omega) (fun K39 => ?_) (fun K39 => ?_)
      · skip
        have K39e := isK_e K39
        show Go (d + 10) true 205 39 [.ref 130, .int (nI (6 - m)), mk_] [.int 1] h Q
        refine exf_go 1 (show ((1 : Int32) = 0 → Go (d + 10) true 205 73 [.ref 130, .int (nI (6 - m)), mk_] [] h Q) ∧ (¬ ((1 : Int32) = 0) → Go (d + 10) true 205 42 [.ref 130, .int (nI (6 - m)), mk_] [] h Q) from ⟨fun c11 => ?_, fun c11 => ?_⟩)
        · skip
          exact absurd c11 (by decide)
        · skip
          refine exf_go 3 (show wpC (d + 10) true 201 [.ref 130, .int (nI (6 - m))] h (fun r h' => Go (d + 10) true 205 47 [.ref 130, .int (nI (6 - m)), mk_] [r] h' Q) from ?_)
          refine m_goesIn (m := m) mp (by omega) hm (fun hm0 h17 q17 mp17 => ?_) (fun hm0 h18 q18 mp18 => ?_)
          · skip
            have hb17 := mp_b mp17
            have hz17 := qe_nx s; have hi17 := qi_nx s
            have iv17 := iv_nx iv (by omega)
            show Go (d + 10) true 205 47 [.ref 130, .int (nI (6 - m)), mk_] [.int 1] h17 Q
            refine exf_go 1 (show (¬ (1 : Int32) = 0 → Go (d + 10) true 205 51 [.ref 130, .int (nI (6 - m)), mk_] [] h17 Q) ∧ (¬ (¬ (1 : Int32) = 0) → Go (d + 10) true 205 50 [.ref 130, .int (nI (6 - m)), mk_] [] h17 Q) from ⟨fun c12 => ?_, fun c12 => ?_⟩)
            · skip
              refine exf_go 4 (show Go (d + 10) true 205 55 [.ref 130, .int (nI (6 - m)), mk_] [.int ((nI (6 - m)) + 1), .ref 130] h17 Q from ?_)
              rw [show ((nI (6 - m)) + 1 : Int32) = nI ((6 - m) + 1) from nI_add (6 - m) 1]
              refine exf_go 1 (show wpC (d + 10) true 207 [.ref 130, .int (nI ((6 - m) + 1))] h17 (fun _ h' => Go (d + 10) true 205 58 [.ref 130, .int (nI (6 - m)), mk_] [] h' Q) from ?_)
              rw [show 6 - m + 1 = 6 - (m - 1) from by omega]
              refine iht (m - 1) (by omega) _ _ _ mp17 (iv17.le (Nat.zero_le _)) (((q17).1 134 1 rfl).1.trans hW) (fun h19 q19 mp19 => ?_)
              have hb19 := mp_b mp19
              have gg19 := gt _ _ iv17; have iv19 := gg19.1
              show Go (d + 10) true 205 58 [.ref 130, .int (nI (6 - m)), mk_] [] h19 Q
              refine exf_go 3 (show wpC (d + 10) true 194 [.ref 130, .int 33] h19 (fun r h' => Go (d + 10) true 205 64 [.ref 130, .int (nI (6 - m)), mk_] [r] h' Q) from ?_)
              refine m_eats (k := 33) mp19 (by omega) (fun K64 h20 q20 mp20 => ?_) (fun K64 => ?_)
              · skip
                have K64e := isK_e K64
                have hb20 := mp_b mp20
                have hz20 := qe_nx (tr (nx s)); have hi20 := qi_nx (tr (nx s))
                have iv20 := iv_nx iv19 (by omega)
                have hlt20 := iv_lt iv19 (by omega)
                show Go (d + 10) true 205 64 [.ref 130, .int (nI (6 - m)), mk_] [.int 1] h20 Q
                refine exf_go 1 (show (¬ (1 : Int32) = 0 → Go (d + 10) true 205 72 [.ref 130, .int (nI (6 - m)), mk_] [] h20 Q) ∧ (¬ (¬ (1 : Int32) = 0) → Go (d + 10) true 205 67 [.ref 130, .int (nI (6 - m)), mk_] [] h20 Q) from ⟨fun c13 => ?_, fun c13 => ?_⟩)
                · skip
                  refine exf_go 1 (show Q (mk_) h20 from ?_)
                  have ea : unitF b n W m un tr s = (nx (tr (nx s))) := by unfold unitF; rw [if_neg (by rw [K6]; decide), if_pos K39, if_neg hm0]; unfold eat; rw [if_pos K64]
                  rw [ea] at k; exact k _ (Fq.tr (Fq.tr q17 q19) q20) mp20
                · skip
                  exact absurd (by decide) c13
              · skip
                have K64n := isK_x K64
                show Go (d + 10) true 205 64 [.ref 130, .int (nI (6 - m)), mk_] [.int 0] h19 Q
                refine exf_go 1 (show (¬ (0 : Int32) = 0 → Go (d + 10) true 205 72 [.ref 130, .int (nI (6 - m)), mk_] [] h19 Q) ∧ (¬ (¬ (0 : Int32) = 0) → Go (d + 10) true 205 67 [.ref 130, .int (nI (6 - m)), mk_] [] h19 Q) from ⟨fun c14 => ?_, fun c14 => ?_⟩)
                · skip
                  exact absurd c14 (by decide)
                · skip
                  refine exf_go 3 (show wpC (d + 10) true 192 [.ref 130, .int 2] h19 (fun _ h' => Go (d + 10) true 205 72 [.ref 130, .int (nI (6 - m)), mk_] [] h' Q) from ?_)
                  refine m_fails (w := 2) mp19 (by omega) (fun h21 q21 mp21 => ?_)
                  have hb21 := mp_b mp21
                  have hz21 : ¬ qe (fl b n 2 (tr (nx s))) = 0 := fl_ne (by omega)
                  have iv21 : IV b n 0 (fl b n 2 (tr (nx s))) := iv_fl2 iv19 (by decide)
                  show Go (d + 10) true 205 72 [.ref 130, .int (nI (6 - m)), mk_] [] h21 Q
                  refine exf_go 1 (show Q (mk_) h21 from ?_)
                  have ea : unitF b n W m un tr s = (fl b n 2 (tr (nx s))) := by unfold unitF; rw [if_neg (by rw [K6]; decide), if_pos K39, if_neg hm0]; unfold eat; rw [if_neg (by rw [K64]; decide)]
                  rw [ea] at k; exact k _ (Fq.tr (Fq.tr q17 q19) q21) mp21
            · skip
              exact absurd (by decide) c12
          · skip
            show Go (d + 10) true 205 47 [.ref 130, .int (nI (6 - m)), mk_] [.int 0] h18 Q
            refine exf_go 1 (show (¬ (0 : Int32) = 0 → Go (d + 10) true 205 51 [.ref 130, .int (nI (6 - m)), mk_] [] h18 Q) ∧ (¬ (¬ (0 : Int32) = 0) → Go (d + 10) true 205 50 [.ref 130, .int (nI (6 - m)), mk_] [] h18 Q) from ⟨fun c15 => ?_, fun c15 => ?_⟩)
            · skip
              exact absurd c15 (by decide)
            · skip
              refine exf_go 1 (show Q (mk_) h18 from ?_)
              have ea : unitF b n W m un tr s = (fl b n 4 s) := by unfold unitF; first | rw [if_pos K6, if_pos hm0] | rw [if_neg (by rw [K6]; decide), if_pos K39, if_pos hm0]
              rw [ea] at k; exact k _ q18 mp18
      · skip
        have K39n := isK_x K39
        show Go (d + 10) true 205 39 [.ref 130, .int (nI (6 - m)), mk_] [.int 0] h Q
        refine exf_go 1 (show ((0 : Int32) = 0 → Go (d + 10) true 205 73 [.ref 130, .int (nI (6 - m)), mk_] [] h Q) ∧ (¬ ((0 : Int32) = 0) → Go (d + 10) true 205 42 [.ref 130, .int (nI (6 - m)), mk_] [] h Q) from ⟨fun c16 => ?_, fun c16 => ?_⟩)
        · skip
          refine exf_go 3 (show wpC (d + 10) true 204 [.ref 130, .int (nI (6 - m))] h (fun _ h' => Go (d + 10) true 205 78 [.ref 130, .int (nI (6 - m)), mk_] [] h' Q) from ?_)
          refine hS _ _ _ mp (iv.le (Nat.zero_le _)) (hW) (fun h22 q22 mp22 => ?_)
          have hb22 := mp_b mp22
          have gg22 := (gd_sum b n W m) _ _ iv; have iv22 := gg22.1
          show Go (d + 10) true 205 78 [.ref 130, .int (nI (6 - m)), mk_] [] h22 Q
          refine exf_go 3 (show wpC (d + 10) true 193 [.ref 130, .int 34] h22 (fun r h' => Go (d + 10) true 205 84 [.ref 130, .int (nI (6 - m)), mk_] [r] h' Q) from ?_)
          refine m_is (k := 34) mp22 (by omega) (fun K84 => ?_) (fun K84 => ?_)
          · skip
            have K84e := isK_e K84
            show Go (d + 10) true 205 84 [.ref 130, .int (nI (6 - m)), mk_] [.int 1] h22 Q
            refine exf_go 1 (show ((1 : Int32) = 0 → Go (d + 10) true 205 93 [.ref 130, .int (nI (6 - m)), mk_] [] h22 Q) ∧ (¬ ((1 : Int32) = 0) → Go (d + 10) true 205 87 [.ref 130, .int (nI (6 - m)), mk_] [] h22 Q) from ⟨fun c17 => ?_, fun c17 => ?_⟩)
            · skip
              exact absurd c17 (by decide)
            · skip
              refine exf_go 2 (show Go (d + 10) true 205 111 [.ref 130, .int (nI (6 - m)), mk_] [.int 3003] h22 Q from ?_)
              exact X111 _ _ q22 mp22 (fun e => by unfold cmpC; rw [if_pos K84e.2]; rfl) (fun x y => if_neg (by rw [K6]; decide)) (fun x y => if_neg (by rw [K39]; decide))
          · skip
            have K84n := isK_x K84
            show Go (d + 10) true 205 84 [.ref 130, .int (nI (6 - m)), mk_] [.int 0] h22 Q
            refine exf_go 1 (show ((0 : Int32) = 0 → Go (d + 10) true 205 93 [.ref 130, .int (nI (6 - m)), mk_] [] h22 Q) ∧ (¬ ((0 : Int32) = 0) → Go (d + 10) true 205 87 [.ref 130, .int (nI (6 - m)), mk_] [] h22 Q) from ⟨fun c18 => ?_, fun c18 => ?_⟩)
            · skip
              refine exf_go 3 (show wpC (d + 10) true 193 [.ref 130, .int 35] h22 (fun r h' => Go (d + 10) true 205 99 [.ref 130, .int (nI (6 - m)), mk_] [r] h' Q) from ?_)
              refine m_is (k := 35) mp22 (by omega) (fun K99 => ?_) (fun K99 => ?_)
              · skip
                have K99e := isK_e K99
                show Go (d + 10) true 205 99 [.ref 130, .int (nI (6 - m)), mk_] [.int 1] h22 Q
                refine exf_go 1 (show ((1 : Int32) = 0 → Go (d + 10) true 205 108 [.ref 130, .int (nI (6 - m)), mk_] [] h22 Q) ∧ (¬ ((1 : Int32) = 0) → Go (d + 10) true 205 102 [.ref 130, .int (nI (6 - m)), mk_] [] h22 Q) from ⟨fun c19 => ?_, fun c19 => ?_⟩)
                · skip
                  exact absurd c19 (by decide)
                · skip
                  refine exf_go 2 (show Go (d + 10) true 205 111 [.ref 130, .int (nI (6 - m)), mk_] [.int 3004] h22 Q from ?_)
                  exact X111 _ _ q22 mp22 (fun e => by unfold cmpC; rw [if_neg (by omega), if_pos K99e.2]; rfl) (fun x y => if_neg (by rw [K6]; decide)) (fun x y => if_neg (by rw [K39]; decide))
              · skip
                have K99n := isK_x K99
                show Go (d + 10) true 205 99 [.ref 130, .int (nI (6 - m)), mk_] [.int 0] h22 Q
                refine exf_go 1 (show ((0 : Int32) = 0 → Go (d + 10) true 205 108 [.ref 130, .int (nI (6 - m)), mk_] [] h22 Q) ∧ (¬ ((0 : Int32) = 0) → Go (d + 10) true 205 102 [.ref 130, .int (nI (6 - m)), mk_] [] h22 Q) from ⟨fun c20 => ?_, fun c20 => ?_⟩)
                · skip
                  refine exf_go 1 (show Go (d + 10) true 205 111 [.ref 130, .int (nI (6 - m)), mk_] [.int 3005] h22 Q from ?_)
                  exact X111 _ _ q22 mp22 (fun e => by unfold cmpC; rw [if_neg (by omega), if_neg (by omega)]; rfl) (fun x y => if_neg (by rw [K6]; decide)) (fun x y => if_neg (by rw [K39]; decide))
                · skip
                  exact absurd (by decide) c20
            · skip
              exact absurd (by decide) c18
        · skip
          exact absurd (by decide) c16
    · skip
      exact absurd (by decide) c10
theorem MC.up {b : Nat → Nat} {n W D D' y dp : Nat} {F : PsG → PsG} (h : MC b n W D y dp F) (hd : D ≤ D') : MC b n W D' y dp F := fun s h1 Q mp iv hW k => wpC_le hd (h s h1 Q mp iv hW k)
theorem m_unitS {d : Nat} {b : Nat → Nat} {n W m : Nat} (hm : m ≤ 6) (hS : MC b n W (d + 10) 204 (6 - m) (smL b n W m)) (ihu : ∀ q, m = q + 1 → MC b n W (d + 10) 205 (6 - q) (innU b n W m)) (iht : ∀ q, m = q + 1 → MC b n W (d + 10) 207 (6 - q) (innT b n W m)) : MC b n W (d + 11) 205 (6 - m) (unitL b n W m) := by
  rw [unitL_e]
  exact fun _ _ _ mp iv hW k => m_unit0 hm (gd_innU b n W m) (gd_innT b n W m) hS ihu iht mp iv hW k
theorem m_trOf {d : Nat} {b : Nat → Nat} {n W dp : Nat} {u : PsG → PsG} (gu : Gd b n u) (hu : MC b n W (d + 7) 205 dp u) : MC b n W (d + 9) 207 dp (trOf b n u) := m_truthW (d := d + 1) (gd_bin (by decide) gu) (m_bothW gu hu)
theorem m_unitL {b : Nat → Nat} {n W : Nat} (hW4 : W ≤ 4) (d : Nat) : ∀ m, m ≤ 6 → MC b n W (3 * m + d + 11) 205 (6 - m) (unitL b n W m)
  | 0, h => m_unitS h (m_sumL hW4 d 0 h) (fun q e => absurd e (by omega)) (fun q e => absurd e (by omega))
  | m + 1, h => by
    have ih := m_unitL (b := b) (n := n) hW4 d m (by omega)
    refine m_unitS h (m_sumL hW4 d (m + 1) h) (fun q e => ?_) (fun q e => ?_)
    · have e : q = m := by omega
      subst e
      exact ih.up (by omega)
    · have e : q = m := by omega
      subst e
      exact (m_trOf (d := 3 * q + d + 4) (gd_unitL b n W q) ih).up (by omega)
def trL (b : Nat → Nat) (n W m : Nat) : PsG → PsG := trOf b n (unitL b n W m)
theorem gd_trL (b : Nat → Nat) (n W m : Nat) : Gd b n (trL b n W m) := gd_tr (gd_unitL b n W m)
theorem m_trL {b : Nat → Nat} {n W : Nat} (hW4 : W ≤ 4) (d : Nat) : MC b n W (d + 31) 207 0 (trL b n W 6) := by
  have h := m_unitL (b := b) (n := n) hW4 d 6 (by decide)
  unfold trL
  have g := gd_unitL b n W 6
  generalize unitL b n W 6 = u at h g
  have h2 : MC b n W (d + 22 + 7) 205 0 u := h.up (by omega)
  exact m_trOf g h2
