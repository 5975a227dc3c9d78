/-! The model: a line. -/
def sBm (a i : Nat) : Bool := sRd a i || (Nat.beq a 134 && (Nat.ble 6 i && Nat.ble i 7))
theorem sRd_B (a i : Nat) (e : sBm a i = false) : sRd a i = false := (Bool.or_eq_false_iff.mp e).1
theorem sBm_M (a i : Nat) (e : sMn a i = false) : sBm a i = false := by
  unfold sBm
  rw [sRd_M a i e]
  cases h : (Nat.beq a 134 && (Nat.ble 6 i && Nat.ble i 7)) with
  | false => rfl
  | true =>
    simp only [Bool.and_eq_true, Nat.ble_eq] at h
    have e2 := sMl_M a i e
    rw [Nat.eq_of_beq_eq_true h.1, sMl_t (by omega)] at e2
    exact absurd e2 (by decide)
def bB (b : Nat → Nat) (n : Nat) (s : PsG) : PsG := tkn b n 1 1000 (tkn b n 1 10 s)
theorem mr_arr {g : ShG} {st en : Nat → Nat} {a ah : Nat} {h h1 : Hp} (hg : ShW g) (mr : MRw g st en a ah h) (e : ∀ i, i < 2940 → 10 ≤ i → ¬ i = 50 → rI h1 134 i = rI h 134 i) : (∀ w, w < sW g → rI h1 134 (10 + w) = nI (sF g w) ∧ rI h1 134 (14 + w) = nI (sS g w) ∧ rI h1 134 (18 + w) = nI (sR g w)) ∧ (∀ c, c < sC g → rI h1 134 (22 + c) = nI (sT g c) ∧ rI h1 134 (30 + c) = nI (st c) ∧ rI h1 134 (38 + c) = nI (en c - st c)) ∧ (∀ m, m < sM g → rI h1 134 (46 + m) = nI (sK g m)) ∧ ∀ i, 51 ≤ i → i < 2940 → rI h1 134 i = if 54 ≤ i ∧ i < 58 then 1023 else 0 := by
  have h1' := hg.1; have h2' := hg.2.2.2.1; have h3' := hg.2.2.2.2.2.1
  obtain ⟨_, mw, mc, mm, mz⟩ := mr
  exact ⟨fun w hw => ⟨(e _ (by omega) (by omega) (by omega)).trans (mw w hw).1, (e _ (by omega) (by omega) (by omega)).trans (mw w hw).2.1, (e _ (by omega) (by omega) (by omega)).trans (mw w hw).2.2⟩, fun c hc => ⟨(e _ (by omega) (by omega) (by omega)).trans (mc c hc).1, (e _ (by omega) (by omega) (by omega)).trans (mc c hc).2.1, (e _ (by omega) (by omega) (by omega)).trans (mc c hc).2.2⟩, fun m hm => (e _ (by omega) (by omega) (by omega)).trans (mm m hm), fun i i1 i2 => (e i (by omega) (by omega) (by omega)).trans (mz i i1 i2)⟩
theorem m_readBar {d : Nat} {h : Hp} {b : Nat → Nat} {n : Nat} {s : PsG} {Q : Po} (mp : MP b n s h) (iv : IV b n 0 s) (k : ∀ h1, Fq sBm h h1 → MP b n (bB b n s) h1 → (qe (bB b n s) = 0 → rI h1 134 6 = nI (vl b n (qi s)) ∧ rI h1 134 7 = nI (vl b n (qi s + 1))) → Q mk_ h1) : wpC (d + 8) true 209 [.ref 130] h Q := by
  have hb0 := mp_b mp
  refine go_in rfl ?_
  refine exf_go 4 (show wpC (d + 7) true 195 [.ref 130, .int 1, .int 9] h (fun r h' => Go (d + 7) true 209 7 [.ref 130, mk_, mk_] [r] h' Q) from ?_)
  refine m_takes (lo := 1) (hh := 10) mp (by omega) (by first | rfl | decide) (by omega) (fun h1 v1 q1 mp1 hv1 => ?_)
  have hb1 := mp_b mp1
  have iv1 := (iv_tkn (lo := 1) (hh := 10) iv).1
  show Go (d + 7) true 209 7 [.ref 130, mk_, mk_] [.int v1] h1 Q
  refine exf_go 5 (show wpC (d + 7) true 195 [.ref 130, .int 1, .int 999] h1 (fun r h' => Go (d + 7) true 209 16 [.ref 130, .int v1, mk_] [r] h' Q) from ?_)
  refine m_takes (lo := 1) (hh := 1000) mp1 (by omega) (by first | rfl | decide) (by omega) (fun h2 v2 q2 mp2 hv2 => ?_)
  have hb2 := mp_b mp2
  have iv2 := (iv_tkn (lo := 1) (hh := 1000) iv1).1
  show Go (d + 7) true 209 16 [.ref 130, .int v1, mk_] [.int v2] h2 Q
  refine exf_go 3 (show Go (d + 7) true 209 21 [.ref 130, .int v1, .int v2] [.int (rI h2 130 11)] h2 Q from ?_)
  rw [show (rI h2 130 11 : Int32) = nI (qe (tkn b n 1 1000 (tkn b n 1 10 s))) from mp2.2.2.1.1]
  refine exf_go 1 (show ((nI (qe (tkn b n 1 1000 (tkn b n 1 10 s)))) = 0 → Go (d + 7) true 209 25 [.ref 130, .int v1, .int v2] [] h2 Q) ∧ (¬ ((nI (qe (tkn b n 1 1000 (tkn b n 1 10 s)))) = 0) → Go (d + 7) true 209 24 [.ref 130, .int v1, .int v2] [] h2 Q) from ⟨fun c1 => ?_, fun c1 => ?_⟩)
  · skip
    have c1 : (qe (tkn b n 1 1000 (tkn b n 1 10 s))) = 0 := (nI_eq (a := (qe (tkn b n 1 1000 (tkn b n 1 10 s)))) (b := 0) (by omega) (by omega)).mp c1
    refine exf_go 11 (show vp_in 6 13841 ∧ vp_in 7 13841 ∧ Q (mk_) (uI (uI h2 134 6 v1) 134 7 v2) from ⟨(vp_in_nI (n := 6) (by decide) (by decide)), (vp_in_nI (n := 7) (by decide) (by decide)), ?_⟩)
    have z2 : qe (tkn b n 1 1000 (tkn b n 1 10 s)) = 0 := by omega
    have e2 := tkn_e z2; have e1 := tkn_e e2.2.1
    have a2 := hv2 z2; have a1 := hv1 e2.2.1
    rw [e1.1, qi_nx] at a2
    have qF : Fq sBm h2 (uI (uI h2 134 6 v1) 134 7 v2) := (Fq.rfl'.uI' _ _ _ rfl).uI' _ _ _ rfl
    have qG : Fq sMl h2 (uI (uI h2 134 6 v1) 134 7 v2) := (Fq.rfl'.uI' _ _ _ rfl).uI' _ _ _ rfl
    exact k _ (Fq.tr ((Fq.tr q1 q2).mono sRd_B) qF) (mp_o mp2 qG) (fun _ => ⟨a1, a2⟩)
  · skip
    have c1 : ¬ (qe (tkn b n 1 1000 (tkn b n 1 10 s))) = 0 := fun q => c1 ((nI_eq (a := (qe (tkn b n 1 1000 (tkn b n 1 10 s)))) (b := 0) (by omega) (by omega)).mpr q)
    refine exf_go 1 (show Q (mk_) h2 from ?_)
    exact k _ ((Fq.tr q1 q2).mono sRd_B) mp2 (fun z => absurd z (by show ¬ qe (tkn b n 1 1000 (tkn b n 1 10 s)) = 0; omega))
theorem m_readLine {d : Nat} {h : Hp} {b : Nat → Nat} {n : Nat} {s : PsG} {g : ShG} {st en : Nat → Nat} {a ah : Nat} {Q : Po} (hg : ShW g) (mp : MP b n s h) (iv : IV b n 0 s) (he : qe s = 0) (hah : ah ≤ 1) (mr : MRw g st en a ah h) (hk22 : ¬ kd b n (qi s) = 22) (k : ∀ h1, Fq sMn h h1 → MY b n (rLn b n (s, g, st, en, a, ah)) h1 → Q mk_ h1) : wpC (d + 33) true 215 [.ref 130] h Q := by
  have hb0 := mp_b mp; have hW4 := hg.1; have hC8 := hg.2.2.2.1; have hM4 := hg.2.2.2.2.2.1; have hv0 := vl_c (n := n) (i := qi s) mp.1.1.1.2
  refine go_in rfl ?_
  refine exf_go 3 (show wpC (d + 32) true 193 [.ref 130, .int 0] h (fun r h' => Go (d + 32) true 215 5 [.ref 130, mk_] [r] h' Q) from ?_)
  refine m_is (k := 0) mp (by omega) (fun K5 => ?_) (fun K5 => ?_)
  · skip
    have K5e := isK_e K5
    show Go (d + 32) true 215 5 [.ref 130, mk_] [.int 1] h Q
    refine exf_go 1 (show ((1 : Int32) = 0 → Go (d + 32) true 215 22 [.ref 130, mk_] [] h Q) ∧ (¬ ((1 : Int32) = 0) → Go (d + 32) true 215 8 [.ref 130, mk_] [] h Q) from ⟨fun c1 => ?_, fun c1 => ?_⟩)
    · skip
      exact absurd c1 (by decide)
    · skip
      refine exf_go 2 (show Go (d + 32) true 215 12 [.ref 130, mk_] [.int (rI h 130 15)] h Q from ?_)
      rw [show (rI h 130 15 : Int32) = nI ah from mr.1.2.2.2.2.2.2.2.2.2.2.2]
      refine exf_go 1 (show (¬ (nI ah) = 0 → Go (d + 32) true 215 22 [.ref 130, mk_] [] h Q) ∧ (¬ (¬ (nI ah) = 0) → Go (d + 32) true 215 15 [.ref 130, mk_] [] h Q) from ⟨fun c2 => ?_, fun c2 => ?_⟩)
      · skip
        have c2 : ¬ ah = 0 := fun q => c2 ((nI_eq (a := ah) (b := 0) (by omega) (by omega)).mpr q)
        refine exf_go 3 (show wpC (d + 32) true 193 [.ref 130, .int 3] h (fun r h' => Go (d + 32) true 215 27 [.ref 130, mk_] [r] h' Q) from ?_)
        refine m_is (k := 3) mp (by omega) (fun K27 => absurd (isK_e K27).2 (by omega)) (fun K27 => ?_)
        show Go (d + 32) true 215 27 [.ref 130, mk_] [.int 0] h Q
        refine exf_go 1 (show ((0 : Int32) = 0 → Go (d + 32) true 215 37 [.ref 130, mk_] [] h Q) ∧ (¬ ((0 : Int32) = 0) → Go (d + 32) true 215 30 [.ref 130, mk_] [] h Q) from ⟨fun c3 => ?_, fun c3 => ?_⟩)
        · skip
          refine exf_go 3 (show wpC (d + 32) true 194 [.ref 130, .int 4] h (fun r h' => Go (d + 32) true 215 42 [.ref 130, mk_] [r] h' Q) from ?_)
          refine m_eats (k := 4) mp (by omega) (fun K42 => absurd (isK_e K42).2 (by omega)) (fun K42 => ?_)
          show Go (d + 32) true 215 42 [.ref 130, mk_] [.int 0] h Q
          refine exf_go 1 (show ((0 : Int32) = 0 → Go (d + 32) true 215 61 [.ref 130, mk_] [] h Q) ∧ (¬ ((0 : Int32) = 0) → Go (d + 32) true 215 45 [.ref 130, mk_] [] h Q) from ⟨fun c4 => ?_, fun c4 => ?_⟩)
          · skip
            refine exf_go 3 (show wpC (d + 32) true 194 [.ref 130, .int 5] h (fun r h' => Go (d + 32) true 215 66 [.ref 130, mk_] [r] h' Q) from ?_)
            refine m_eats (k := 5) mp (by omega) (fun K66 => absurd (isK_e K66).2 (by omega)) (fun K66 => ?_)
            show Go (d + 32) true 215 66 [.ref 130, mk_] [.int 0] h Q
            refine exf_go 1 (show ((0 : Int32) = 0 → Go (d + 32) true 215 76 [.ref 130, mk_] [] h Q) ∧ (¬ ((0 : Int32) = 0) → Go (d + 32) true 215 69 [.ref 130, mk_] [] h Q) from ⟨fun c5 => ?_, fun c5 => ?_⟩)
            · skip
              refine exf_go 3 (show wpC (d + 32) true 194 [.ref 130, .int 6] h (fun r h' => Go (d + 32) true 215 82 [.ref 130, mk_] [r] h' Q) from ?_)
              refine m_eats (k := 6) mp (by omega) (fun K82 => absurd (isK_e K82).2 (by omega)) (fun K82 => ?_)
              show Go (d + 32) true 215 82 [.ref 130, mk_] [.int 0] h Q
              refine exf_go 1 (show ((0 : Int32) = 0 → Go (d + 32) true 215 103 [.ref 130, mk_] [] h Q) ∧ (¬ ((0 : Int32) = 0) → Go (d + 32) true 215 85 [.ref 130, mk_] [] h Q) from ⟨fun c6 => ?_, fun c6 => ?_⟩)
              · skip
                refine exf_go 3 (show wpC (d + 32) true 193 [.ref 130, .int 7] h (fun r h' => Go (d + 32) true 215 109 [.ref 130, mk_] [r] h' Q) from ?_)
                refine m_is (k := 7) mp (by omega) (fun K109 => absurd (isK_e K109).2 (by omega)) (fun K109 => ?_)
                show Go (d + 32) true 215 109 [.ref 130, mk_] [.int 0] h Q
                refine exf_go 1 (show ((0 : Int32) = 0 → Go (d + 32) true 215 119 [.ref 130, mk_] [] h Q) ∧ (¬ ((0 : Int32) = 0) → Go (d + 32) true 215 112 [.ref 130, mk_] [] h Q) from ⟨fun c7 => ?_, fun c7 => ?_⟩)
                · skip
                  refine exf_go 3 (show wpC (d + 32) true 193 [.ref 130, .int 8] h (fun r h' => Go (d + 32) true 215 125 [.ref 130, mk_] [r] h' Q) from ?_)
                  refine m_is (k := 8) mp (by omega) (fun K125 => absurd (isK_e K125).2 (by omega)) (fun K125 => ?_)
                  show Go (d + 32) true 215 125 [.ref 130, mk_] [.int 0] h Q
                  refine exf_go 1 (show (¬ (0 : Int32) = 0 → Go (d + 32) true 215 137 [.ref 130, mk_] [] h Q) ∧ (¬ (¬ (0 : Int32) = 0) → Go (d + 32) true 215 128 [.ref 130, mk_] [] h Q) from ⟨fun c8 => ?_, fun c8 => ?_⟩)
                  · skip
                    exact absurd c8 (by decide)
                  · skip
                    refine exf_go 3 (show wpC (d + 32) true 193 [.ref 130, .int 9] h (fun r h' => Go (d + 32) true 215 134 [.ref 130, mk_] [r] h' Q) from ?_)
                    refine m_is (k := 9) mp (by omega) (fun K134 => absurd (isK_e K134).2 (by omega)) (fun K134 => ?_)
                    show Go (d + 32) true 215 134 [.ref 130, mk_] [.int 0] h Q
                    refine exf_go 1 (show ((0 : Int32) = 0 → Go (d + 32) true 215 176 [.ref 130, mk_] [] h Q) ∧ (¬ ((0 : Int32) = 0) → Go (d + 32) true 215 137 [.ref 130, mk_] [] h Q) from ⟨fun c9 => ?_, fun c9 => ?_⟩)
                    · skip
                      refine exf_go 3 (show wpC (d + 32) true 192 [.ref 130, .int 2] h (fun _ h' => Go (d + 32) true 215 181 [.ref 130, mk_] [] h' Q) from ?_)
                      refine m_fails (w := 2) mp (by omega) (fun h1 q1 mp1 => ?_)
                      have hb1 := mp_b mp1
                      have hz1 : ¬ qe (fl b n 2 s) = 0 := fl_ne (by omega)
                      have iv1 : IV b n 0 (fl b n 2 s) := iv_fl2 iv (by decide)
                      show Go (d + 32) true 215 181 [.ref 130, mk_] [] h1 Q
                      refine exf_go 1 (show Q (mk_) h1 from ?_)
                      have ea : rLn b n (s, g, st, en, a, ah) = ((fl b n 2 s), g, st, en, a, ah) := (rL_0 (y := (s, g, st, en, a, ah)) (show kd b n (qi s) = 0 from K5e.2)).trans (if_neg (show ¬ ah = 0 by omega))
                      rw [ea] at k; exact k _ (q1.mono sRd_M) ⟨mp1, fun z => absurd z (show ¬ qe (fl b n 2 s) = 0 by omega)⟩
                    · skip
                      exact absurd (by decide) c9
                · skip
                  exact absurd (by decide) c7
              · skip
                exact absurd (by decide) c6
            · skip
              exact absurd (by decide) c5
          · skip
            exact absurd (by decide) c4
        · skip
          exact absurd (by decide) c3
      · skip
        have c2 : ah = 0 := (nI_eq (a := ah) (b := 0) (by omega) (by omega)).mp (Classical.not_not.mp c2)
        refine exf_go 2 (show wpC (d + 32) true 197 [.ref 130] h (fun _ h' => Go (d + 32) true 215 19 [.ref 130, mk_] [] h' Q) from ?_)
        refine m_readWheel hg mp iv he K5e.2 mr (fun h1 q1 my1 => ?_)
        show Go (d + 32) true 215 19 [.ref 130, mk_] [] h1 Q
        refine exf_go 2 (show Q (mk_) h1 from ?_)
        have ea : rLn b n (s, g, st, en, a, ah) = rWh b n (s, g, st, en, a, ah) := if_pos ⟨K5e.2, show ah = 0 by omega⟩
        rw [ea] at k; exact k _ q1 my1
  · skip
    have K5n := isK_x K5
    show Go (d + 32) true 215 5 [.ref 130, mk_] [.int 0] h Q
    refine exf_go 1 (show ((0 : Int32) = 0 → Go (d + 32) true 215 22 [.ref 130, mk_] [] h Q) ∧ (¬ ((0 : Int32) = 0) → Go (d + 32) true 215 8 [.ref 130, mk_] [] h Q) from ⟨fun c10 => ?_, fun c10 => ?_⟩)
    · skip
      refine exf_go 3 (show wpC (d + 32) true 193 [.ref 130, .int 3] h (fun r h' => Go (d + 32) true 215 27 [.ref 130, mk_] [r] h' Q) from ?_)
      refine m_is (k := 3) mp (by omega) (fun K27 => ?_) (fun K27 => ?_)
      · skip
        have K27e := isK_e K27
        show Go (d + 32) true 215 27 [.ref 130, mk_] [.int 1] h Q
        refine exf_go 1 (show ((1 : Int32) = 0 → Go (d + 32) true 215 37 [.ref 130, mk_] [] h Q) ∧ (¬ ((1 : Int32) = 0) → Go (d + 32) true 215 30 [.ref 130, mk_] [] h Q) from ⟨fun c11 => ?_, fun c11 => ?_⟩)
        · skip
          exact absurd c11 (by decide)
        · skip
          refine exf_go 2 (show wpC (d + 32) true 208 [.ref 130] h (fun _ h' => Go (d + 32) true 215 34 [.ref 130, mk_] [] h' Q) from ?_)
          refine m_readClue hg mp iv he K27e.2 mr (fun h1 q1 my1 => ?_)
          show Go (d + 32) true 215 34 [.ref 130, mk_] [] h1 Q
          refine exf_go 2 (show Q (mk_) h1 from ?_)
          rw [(rL_3 (y := (s, g, st, en, a, ah)) (show kd b n (qi s) = 3 from K27e.2))] at k; exact k _ q1 my1
      · skip
        have K27n := isK_x K27
        show Go (d + 32) true 215 27 [.ref 130, mk_] [.int 0] h Q
        refine exf_go 1 (show ((0 : Int32) = 0 → Go (d + 32) true 215 37 [.ref 130, mk_] [] h Q) ∧ (¬ ((0 : Int32) = 0) → Go (d + 32) true 215 30 [.ref 130, mk_] [] h Q) from ⟨fun c12 => ?_, fun c12 => ?_⟩)
        · skip
          refine exf_go 3 (show wpC (d + 32) true 194 [.ref 130, .int 4] h (fun r h' => Go (d + 32) true 215 42 [.ref 130, mk_] [r] h' Q) from ?_)
          refine m_eats (k := 4) mp (by omega) (fun K42 h2 q2 mp2 => ?_) (fun K42 => ?_)
          · skip
            have K42e := isK_e K42
            have hb2 := mp_b mp2
            have hz2 := qe_nx s; have hi2 := qi_nx s
            have iv2 := iv_nx iv (by omega)
            have hlt2 := iv_lt iv (by omega)
            show Go (d + 32) true 215 42 [.ref 130, mk_] [.int 1] h2 Q
            refine exf_go 1 (show ((1 : Int32) = 0 → Go (d + 32) true 215 61 [.ref 130, mk_] [] h2 Q) ∧ (¬ ((1 : Int32) = 0) → Go (d + 32) true 215 45 [.ref 130, mk_] [] h2 Q) from ⟨fun c13 => ?_, fun c13 => ?_⟩)
            · skip
              exact absurd c13 (by decide)
            · skip
              refine exf_go 7 (show wpC (d + 32) true 195 [.ref 130, .int 1, .int 60] h2 (fun r h' => Go (d + 32) true 215 57 [.ref 130, mk_] [r, .int 5, .ref 134] h' Q) from ?_)
              refine m_takes (lo := 1) (hh := 61) mp2 (by omega) (by first | rfl | decide) (by omega) (fun h3 v3 q3 mp3 hv3 => ?_)
              have hb3 := mp_b mp3
              have iv3 := (iv_tkn (lo := 1) (hh := 61) iv2).1
              show Go (d + 32) true 215 57 [.ref 130, mk_] [.int v3, .int 5, .ref 134] h3 Q
              refine exf_go 3 (show vp_in 5 13841 ∧ Q (mk_) (uI h3 134 5 v3) from ⟨(vp_in_nI (n := 5) (by decide) (by decide)), ?_⟩)
              have mX := (mr_rd hg mr (Fq.tr q2 q3))
              have qF : Fq sMl h3 (uI h3 134 5 v3) := Fq.rfl'.uI' _ _ _ rfl
              by_cases z : qe (puA b n s) = 0
              · have ea : rLn b n (s, g, st, en, a, ah) = (puA b n s, gPu g (vl b n (qi s + 1)), st, en, a, ah) := (rL_4 (y := (s, g, st, en, a, ah)) (show kd b n (qi s) = 4 from K42e.2)).trans (if_pos z)
                have hv := hv3 z; rw [qi_nx] at hv
                obtain ⟨⟨m0, m1, m2, m3, m4, m5, m6, m7, m8, m9, m10, m11⟩, mw, mc, mm, mz⟩ := id mX
                have ar := mr_arr (h1 := uI h3 134 5 v3) hg mX (fun i i1 i2 i3 => rI_uI_at (a := 134) (by omega))
                rw [ea] at k; exact k _ (Fq.tr ((Fq.tr q2 q3).mono sRd_M) (qF.mono sMl_M)) ⟨mp_o mp3 qF, fun _ => ⟨⟨m0, m1, m2, m3, m4, hv, m6, m7, m8, m9, m10, m11⟩, ar⟩⟩
              · have ea : rLn b n (s, g, st, en, a, ah) = (puA b n s, g, st, en, a, ah) := (rL_4 (y := (s, g, st, en, a, ah)) (show kd b n (qi s) = 4 from K42e.2)).trans (if_neg z)
                rw [ea] at k; exact k _ (Fq.tr ((Fq.tr q2 q3).mono sRd_M) (qF.mono sMl_M)) ⟨mp_o mp3 qF, fun e => absurd e z⟩
          · skip
            have K42n := isK_x K42
            show Go (d + 32) true 215 42 [.ref 130, mk_] [.int 0] h Q
            refine exf_go 1 (show ((0 : Int32) = 0 → Go (d + 32) true 215 61 [.ref 130, mk_] [] h Q) ∧ (¬ ((0 : Int32) = 0) → Go (d + 32) true 215 45 [.ref 130, mk_] [] h Q) from ⟨fun c14 => ?_, fun c14 => ?_⟩)
            · skip
              refine exf_go 3 (show wpC (d + 32) true 194 [.ref 130, .int 5] h (fun r h' => Go (d + 32) true 215 66 [.ref 130, mk_] [r] h' Q) from ?_)
              refine m_eats (k := 5) mp (by omega) (fun K66 h4 q4 mp4 => ?_) (fun K66 => ?_)
              · skip
                have K66e := isK_e K66
                have hb4 := mp_b mp4
                have hz4 := qe_nx s; have hi4 := qi_nx s
                have iv4 := iv_nx iv (by omega)
                have hlt4 := iv_lt iv (by omega)
                show Go (d + 32) true 215 66 [.ref 130, mk_] [.int 1] h4 Q
                refine exf_go 1 (show ((1 : Int32) = 0 → Go (d + 32) true 215 76 [.ref 130, mk_] [] h4 Q) ∧ (¬ ((1 : Int32) = 0) → Go (d + 32) true 215 69 [.ref 130, mk_] [] h4 Q) from ⟨fun c15 => ?_, fun c15 => ?_⟩)
                · skip
                  exact absurd c15 (by decide)
                · skip
                  refine exf_go 2 (show wpC (d + 32) true 209 [.ref 130] h4 (fun _ h' => Go (d + 32) true 215 73 [.ref 130, mk_] [] h' Q) from ?_)
                  refine m_readBar mp4 (iv4.le (Nat.zero_le _)) (fun hB qB mpB hvB => ?_)
                  show Go (d + 32) true 215 73 [.ref 130, mk_] [] hB Q
                  refine exf_go 2 (show Q (mk_) hB from ?_)
                  have hS : bB b n (nx s) = baA b n s := rfl
                  rw [hS] at mpB hvB
                  have mX := (mr_rd hg mr q4)
                  by_cases z : qe (baA b n s) = 0
                  · have ea : rLn b n (s, g, st, en, a, ah) = (baA b n s, gBa g (vl b n (qi s + 1)) (vl b n (qi s + 2)), st, en, a, ah) := (rL_5 (y := (s, g, st, en, a, ah)) (show kd b n (qi s) = 5 from K66e.2)).trans (if_pos z)
                    have rd : ∀ i, i < 2940 → ¬ i = 6 → ¬ i = 7 → rI hB 134 i = rI h4 134 i := fun i i1 i2 i3 => (qB.1 134 i (by unfold sBm; rw [sRd_lo i1]; cases h9 : (Nat.beq 134 134 && (Nat.ble 6 i && Nat.ble i 7)) with | false => rfl | true => (simp only [Bool.and_eq_true, Nat.ble_eq] at h9; omega))).1
                    have hv := hvB z; rw [qi_nx] at hv
                    obtain ⟨⟨m0, m1, m2, m3, m4, m5, m6, m7, m8, m9, m10, m11⟩, mw, mc, mm, mz⟩ := id mX
                    have ar := mr_arr (h1 := hB) hg mX (fun i i1 i2 i3 => rd i i1 (by omega) (by omega))
                    rw [ea] at k; exact k _ (Fq.tr (q4.mono sRd_M) (qB.mono sBm_M)) ⟨mpB, fun _ => ⟨⟨(rd 0 (by omega) (by omega) (by omega)).trans m0, (rd 1 (by omega) (by omega) (by omega)).trans m1, (rd 2 (by omega) (by omega) (by omega)).trans m2, (rd 3 (by omega) (by omega) (by omega)).trans m3, (rd 4 (by omega) (by omega) (by omega)).trans m4, (rd 5 (by omega) (by omega) (by omega)).trans m5, hv.1, hv.2, (rd 8 (by omega) (by omega) (by omega)).trans m8, (rd 9 (by omega) (by omega) (by omega)).trans m9, (rd 50 (by omega) (by omega) (by omega)).trans m10, (qB.1 130 15 rfl).1.trans m11⟩, ar⟩⟩
                  · have ea : rLn b n (s, g, st, en, a, ah) = (baA b n s, g, st, en, a, ah) := (rL_5 (y := (s, g, st, en, a, ah)) (show kd b n (qi s) = 5 from K66e.2)).trans (if_neg z)
                    rw [ea] at k; exact k _ (Fq.tr (q4.mono sRd_M) (qB.mono sBm_M)) ⟨mpB, fun e => absurd e z⟩
              · skip
                have K66n := isK_x K66
                show Go (d + 32) true 215 66 [.ref 130, mk_] [.int 0] h Q
                refine exf_go 1 (show ((0 : Int32) = 0 → Go (d + 32) true 215 76 [.ref 130, mk_] [] h Q) ∧ (¬ ((0 : Int32) = 0) → Go (d + 32) true 215 69 [.ref 130, mk_] [] h Q) from ⟨fun c16 => ?_, fun c16 => ?_⟩)
                · skip
                  refine exf_go 3 (show wpC (d + 32) true 194 [.ref 130, .int 6] h (fun r h' => Go (d + 32) true 215 82 [.ref 130, mk_] [r] h' Q) from ?_)
                  refine m_eats (k := 6) mp (by omega) (fun K82 h5 q5 mp5 => ?_) (fun K82 => ?_)
                  · skip
                    have K82e := isK_e K82
                    have hb5 := mp_b mp5
                    have hz5 := qe_nx s; have hi5 := qi_nx s
                    have iv5 := iv_nx iv (by omega)
                    have hlt5 := iv_lt iv (by omega)
                    show Go (d + 32) true 215 82 [.ref 130, mk_] [.int 1] h5 Q
                    refine exf_go 1 (show ((1 : Int32) = 0 → Go (d + 32) true 215 103 [.ref 130, mk_] [] h5 Q) ∧ (¬ ((1 : Int32) = 0) → Go (d + 32) true 215 85 [.ref 130, mk_] [] h5 Q) from ⟨fun c17 => ?_, fun c17 => ?_⟩)
                    · skip
                      exact absurd c17 (by decide)
                    · skip
                      refine exf_go 7 (show wpC (d + 32) true 195 [.ref 130, .int 1, .int 999] h5 (fun r h' => Go (d + 32) true 215 99 [.ref 130, mk_] [r, .int 8, .ref 134] h' Q) from ?_)
                      refine m_takes (lo := 1) (hh := 1000) mp5 (by omega) (by first | rfl | decide) (by omega) (fun h6 v6 q6 mp6 hv6 => ?_)
                      have hb6 := mp_b mp6
                      have iv6 := (iv_tkn (lo := 1) (hh := 1000) iv5).1
                      show Go (d + 32) true 215 99 [.ref 130, mk_] [.int v6, .int 8, .ref 134] h6 Q
                      refine exf_go 3 (show vp_in 8 13841 ∧ Q (mk_) (uI h6 134 8 v6) from ⟨(vp_in_nI (n := 8) (by decide) (by decide)), ?_⟩)
                      have mX := (mr_rd hg mr (Fq.tr q5 q6))
                      have qF : Fq sMl h6 (uI h6 134 8 v6) := Fq.rfl'.uI' _ _ _ rfl
                      by_cases z : qe (saA b n s) = 0
                      · have ea : rLn b n (s, g, st, en, a, ah) = (saA b n s, gSa g (vl b n (qi s + 1)), st, en, a, ah) := (rL_6 (y := (s, g, st, en, a, ah)) (show kd b n (qi s) = 6 from K82e.2)).trans (if_pos z)
                        have hv := hv6 z; rw [qi_nx] at hv
                        obtain ⟨⟨m0, m1, m2, m3, m4, m5, m6, m7, m8, m9, m10, m11⟩, mw, mc, mm, mz⟩ := id mX
                        have ar := mr_arr (h1 := uI h6 134 8 v6) hg mX (fun i i1 i2 i3 => rI_uI_at (a := 134) (by omega))
                        rw [ea] at k; exact k _ (Fq.tr ((Fq.tr q5 q6).mono sRd_M) (qF.mono sMl_M)) ⟨mp_o mp6 qF, fun _ => ⟨⟨m0, m1, m2, m3, m4, m5, m6, m7, hv, m9, m10, m11⟩, ar⟩⟩
                      · have ea : rLn b n (s, g, st, en, a, ah) = (saA b n s, g, st, en, a, ah) := (rL_6 (y := (s, g, st, en, a, ah)) (show kd b n (qi s) = 6 from K82e.2)).trans (if_neg z)
                        rw [ea] at k; exact k _ (Fq.tr ((Fq.tr q5 q6).mono sRd_M) (qF.mono sMl_M)) ⟨mp_o mp6 qF, fun e => absurd e z⟩
                  · skip
                    have K82n := isK_x K82
                    show Go (d + 32) true 215 82 [.ref 130, mk_] [.int 0] h Q
                    refine exf_go 1 (show ((0 : Int32) = 0 → Go (d + 32) true 215 103 [.ref 130, mk_] [] h Q) ∧ (¬ ((0 : Int32) = 0) → Go (d + 32) true 215 85 [.ref 130, mk_] [] h Q) from ⟨fun c18 => ?_, fun c18 => ?_⟩)
                    · skip
                      refine exf_go 3 (show wpC (d + 32) true 193 [.ref 130, .int 7] h (fun r h' => Go (d + 32) true 215 109 [.ref 130, mk_] [r] h' Q) from ?_)
                      refine m_is (k := 7) mp (by omega) (fun K109 => ?_) (fun K109 => ?_)
                      · skip
                        have K109e := isK_e K109
                        show Go (d + 32) true 215 109 [.ref 130, mk_] [.int 1] h Q
                        refine exf_go 1 (show ((1 : Int32) = 0 → Go (d + 32) true 215 119 [.ref 130, mk_] [] h Q) ∧ (¬ ((1 : Int32) = 0) → Go (d + 32) true 215 112 [.ref 130, mk_] [] h Q) from ⟨fun c19 => ?_, fun c19 => ?_⟩)
                        · skip
                          exact absurd c19 (by decide)
                        · skip
                          refine exf_go 2 (show wpC (d + 32) true 199 [.ref 130] h (fun _ h' => Go (d + 32) true 215 116 [.ref 130, mk_] [] h' Q) from ?_)
                          refine m_readMate hg mp iv he K109e.2 mr (fun h1 q1 my1 => ?_)
                          show Go (d + 32) true 215 116 [.ref 130, mk_] [] h1 Q
                          refine exf_go 2 (show Q (mk_) h1 from ?_)
                          rw [(rL_7 (y := (s, g, st, en, a, ah)) (show kd b n (qi s) = 7 from K109e.2))] at k; exact k _ q1 my1
                      · skip
                        have K109n := isK_x K109
                        show Go (d + 32) true 215 109 [.ref 130, mk_] [.int 0] h Q
                        refine exf_go 1 (show ((0 : Int32) = 0 → Go (d + 32) true 215 119 [.ref 130, mk_] [] h Q) ∧ (¬ ((0 : Int32) = 0) → Go (d + 32) true 215 112 [.ref 130, mk_] [] h Q) from ⟨fun c20 => ?_, fun c20 => ?_⟩)
                        · skip
                          refine exf_go 3 (show wpC (d + 32) true 193 [.ref 130, .int 8] h (fun r h' => Go (d + 32) true 215 125 [.ref 130, mk_] [r] h' Q) from ?_)
                          refine m_is (k := 8) mp (by omega) (fun K125 => ?_) (fun K125 => ?_)
                          · skip
                            have K125e := isK_e K125
                            show Go (d + 32) true 215 125 [.ref 130, mk_] [.int 1] h Q
                            refine exf_go 1 (show (¬ (1 : Int32) = 0 → Go (d + 32) true 215 137 [.ref 130, mk_] [] h Q) ∧ (¬ (¬ (1 : Int32) = 0) → Go (d + 32) true 215 128 [.ref 130, mk_] [] h Q) from ⟨fun c21 => ?_, fun c21 => ?_⟩)
                            · skip
                              refine exf_go 2 (show Go (d + 32) true 215 141 [.ref 130, mk_] [.int (rI h 130 9)] h Q from ?_)
                              rw [show (rI h 130 9 : Int32) = nI (kd b n (qi s)) from mp.2.1.2.2.1]
                              refine exf_go 2 (show (¬ (nI (kd b n (qi s))) = 8 → Go (d + 32) true 215 151 [.ref 130, mk_] [] h Q) ∧ (¬ (¬ (nI (kd b n (qi s))) = 8) → Go (d + 32) true 215 146 [.ref 130, mk_] [] h Q) from ⟨fun c22 => ?_, fun c22 => ?_⟩)
                              · skip
                                have c22 : ¬ (kd b n (qi s)) = 8 := fun q => c22 ((nI_eq (a := (kd b n (qi s))) (b := 8) (by omega) (by omega)).mpr q)
                                exfalso; omega
                              · skip
                                have c22 : (kd b n (qi s)) = 8 := (nI_eq (a := (kd b n (qi s))) (b := 8) (by omega) (by omega)).mp (Classical.not_not.mp c22)
                                refine exf_go 5 (show wpC (d + 32) true 191 [.ref 130] h (fun _ h' => Go (d + 32) true 215 158 [.ref 130, .int 9] [] h' Q) from ?_)
                                refine m_nx mp (fun h7 q7 mp7 => ?_)
                                have hb7 := mp_b mp7
                                have hz7 := qe_nx s; have hi7 := qi_nx s
                                have iv7 := iv_nx iv (by omega)
                                show Go (d + 32) true 215 158 [.ref 130, .int 9] [] h7 Q
                                refine exf_go 5 (show wpC (d + 32) true 198 [.ref 130] h7 (fun r h' => Go (d + 32) true 215 167 [.ref 130, .int 9] [r, .int 9, .ref 134] h' Q) from ?_)
                                refine m_takesNumber hg mp7 (iv7.le (Nat.zero_le _)) (mr_rd hg mr q7) (fun hN vN qN mpN hvN => ?_)
                                show Go (d + 32) true 215 167 [.ref 130, .int 9] [.int vN, .int 9, .ref 134] hN Q
                                refine exf_go 6 (show vp_in 9 13841 ∧ ((1 : Int32) = 0 ∨ (1 : Int32) = 1) ∧ Q (mk_) (uI (uI hN 134 9 vN) 130 15 1) from ⟨(vp_in_nI (n := 9) (by decide) (by decide)), (by first | exact Or.inl rfl | exact Or.inr rfl | assumption), ?_⟩)
                                have hS : fgB b n g (nx s) = fgA b n g s := rfl
                                rw [hS] at mpN hvN
                                have mX := mr_rd hg (mr_rd hg mr q7) qN
                                have qF : Fq sMl hN (uI (uI hN 134 9 vN) 130 15 1) := (Fq.rfl'.uI' _ _ _ rfl).uI' _ _ _ rfl
                                by_cases z : qe (fgA b n g s).1 = 0
                                · have ea : rLn b n (s, g, st, en, a, ah) = ((fgA b n g s).1, gSe g (fgA b n g s).2, st, en, a, 1) := (rL_8 (y := (s, g, st, en, a, ah)) (show kd b n (qi s) = 8 from K125e.2)).trans (if_pos z)
                                  have hv := hvN z
                                  obtain ⟨⟨m0, m1, m2, m3, m4, m5, m6, m7, m8, m9, m10, m11⟩, mw, mc, mm, mz⟩ := id mX
                                  have ar := mr_arr (h1 := uI (uI hN 134 9 vN) 130 15 1) hg mX (fun i i1 i2 i3 => rI_uI_at (a := 134) (by omega))
                                  rw [ea] at k; exact k _ (Fq.tr (Fq.tr (q7.mono sRd_M) (qN.mono sRd_M)) (qF.mono sMl_M)) ⟨mp_o mpN qF, fun _ => ⟨⟨m0, m1, m2, m3, m4, m5, m6, m7, m8, hv, m10, rfl⟩, ar⟩⟩
                                · have ea : rLn b n (s, g, st, en, a, ah) = ((fgA b n g s).1, g, st, en, a, ah) := (rL_8 (y := (s, g, st, en, a, ah)) (show kd b n (qi s) = 8 from K125e.2)).trans (if_neg z)
                                  rw [ea] at k; exact k _ (Fq.tr (Fq.tr (q7.mono sRd_M) (qN.mono sRd_M)) (qF.mono sMl_M)) ⟨mp_o mpN qF, fun e => absurd e z⟩
                            · skip
                              exact absurd (by decide) c21
                          · skip
                            have K125n := isK_x K125
                            show Go (d + 32) true 215 125 [.ref 130, mk_] [.int 0] h Q
                            refine exf_go 1 (show (¬ (0 : Int32) = 0 → Go (d + 32) true 215 137 [.ref 130, mk_] [] h Q) ∧ (¬ (¬ (0 : Int32) = 0) → Go (d + 32) true 215 128 [.ref 130, mk_] [] h Q) from ⟨fun c23 => ?_, fun c23 => ?_⟩)
                            · skip
                              exact absurd c23 (by decide)
                            · skip
                              refine exf_go 3 (show wpC (d + 32) true 193 [.ref 130, .int 9] h (fun r h' => Go (d + 32) true 215 134 [.ref 130, mk_] [r] h' Q) from ?_)
                              refine m_is (k := 9) mp (by omega) (fun K134 => ?_) (fun K134 => ?_)
                              · skip
                                have K134e := isK_e K134
                                show Go (d + 32) true 215 134 [.ref 130, mk_] [.int 1] h Q
                                refine exf_go 1 (show ((1 : Int32) = 0 → Go (d + 32) true 215 176 [.ref 130, mk_] [] h Q) ∧ (¬ ((1 : Int32) = 0) → Go (d + 32) true 215 137 [.ref 130, mk_] [] h Q) from ⟨fun c24 => ?_, fun c24 => ?_⟩)
                                · skip
                                  exact absurd c24 (by decide)
                                · skip
                                  refine exf_go 2 (show Go (d + 32) true 215 141 [.ref 130, mk_] [.int (rI h 130 9)] h Q from ?_)
                                  rw [show (rI h 130 9 : Int32) = nI (kd b n (qi s)) from mp.2.1.2.2.1]
                                  refine exf_go 2 (show (¬ (nI (kd b n (qi s))) = 8 → Go (d + 32) true 215 151 [.ref 130, mk_] [] h Q) ∧ (¬ (¬ (nI (kd b n (qi s))) = 8) → Go (d + 32) true 215 146 [.ref 130, mk_] [] h Q) from ⟨fun c25 => ?_, fun c25 => ?_⟩)
                                  · skip
                                    have c25 : ¬ (kd b n (qi s)) = 8 := fun q => c25 ((nI_eq (a := (kd b n (qi s))) (b := 8) (by omega) (by omega)).mpr q)
                                    refine exf_go 4 (show wpC (d + 32) true 191 [.ref 130] h (fun _ h' => Go (d + 32) true 215 158 [.ref 130, .int 50] [] h' Q) from ?_)
                                    refine m_nx mp (fun h8 q8 mp8 => ?_)
                                    have hb8 := mp_b mp8
                                    have hz8 := qe_nx s; have hi8 := qi_nx s
                                    have iv8 := iv_nx iv (by omega)
                                    show Go (d + 32) true 215 158 [.ref 130, .int 50] [] h8 Q
                                    refine exf_go 5 (show wpC (d + 32) true 198 [.ref 130] h8 (fun r h' => Go (d + 32) true 215 167 [.ref 130, .int 50] [r, .int 50, .ref 134] h' Q) from ?_)
                                    refine m_takesNumber hg mp8 (iv8.le (Nat.zero_le _)) (mr_rd hg mr q8) (fun hN vN qN mpN hvN => ?_)
                                    show Go (d + 32) true 215 167 [.ref 130, .int 50] [.int vN, .int 50, .ref 134] hN Q
                                    refine exf_go 6 (show vp_in 50 13841 ∧ ((1 : Int32) = 0 ∨ (1 : Int32) = 1) ∧ Q (mk_) (uI (uI hN 134 50 vN) 130 15 1) from ⟨(vp_in_nI (n := 50) (by decide) (by decide)), (by first | exact Or.inl rfl | exact Or.inr rfl | assumption), ?_⟩)
                                    have hS : fgB b n g (nx s) = fgA b n g s := rfl
                                    rw [hS] at mpN hvN
                                    have mX := mr_rd hg (mr_rd hg mr q8) qN
                                    have qF : Fq sMl hN (uI (uI hN 134 50 vN) 130 15 1) := (Fq.rfl'.uI' _ _ _ rfl).uI' _ _ _ rfl
                                    by_cases z : qe (fgA b n g s).1 = 0
                                    · have ea : rLn b n (s, g, st, en, a, ah) = ((fgA b n g s).1, g, st, en, (fgA b n g s).2, 1) := (rL_9 (y := (s, g, st, en, a, ah)) (show kd b n (qi s) = 9 from K134e.2)).trans (if_pos z)
                                      have hv := hvN z
                                      obtain ⟨⟨m0, m1, m2, m3, m4, m5, m6, m7, m8, m9, m10, m11⟩, mw, mc, mm, mz⟩ := id mX
                                      have ar := mr_arr (h1 := uI (uI hN 134 50 vN) 130 15 1) hg mX (fun i i1 i2 i3 => rI_uI_at (a := 134) (by omega))
                                      rw [ea] at k; exact k _ (Fq.tr (Fq.tr (q8.mono sRd_M) (qN.mono sRd_M)) (qF.mono sMl_M)) ⟨mp_o mpN qF, fun _ => ⟨⟨m0, m1, m2, m3, m4, m5, m6, m7, m8, m9, hv, rfl⟩, ar⟩⟩
                                    · have ea : rLn b n (s, g, st, en, a, ah) = ((fgA b n g s).1, g, st, en, a, ah) := (rL_9 (y := (s, g, st, en, a, ah)) (show kd b n (qi s) = 9 from K134e.2)).trans (if_neg z)
                                      rw [ea] at k; exact k _ (Fq.tr (Fq.tr (q8.mono sRd_M) (qN.mono sRd_M)) (qF.mono sMl_M)) ⟨mp_o mpN qF, fun e => absurd e z⟩
                                  · skip
                                    have c25 : (kd b n (qi s)) = 8 := (nI_eq (a := (kd b n (qi s))) (b := 8) (by omega) (by omega)).mp (Classical.not_not.mp c25)
                                    exfalso; omega
                              · skip
                                have K134n := isK_x K134
                                show Go (d + 32) true 215 134 [.ref 130, mk_] [.int 0] h Q
                                refine exf_go 1 (show ((0 : Int32) = 0 → Go (d + 32) true 215 176 [.ref 130, mk_] [] h Q) ∧ (¬ ((0 : Int32) = 0) → Go (d + 32) true 215 137 [.ref 130, mk_] [] h Q) from ⟨fun c26 => ?_, fun c26 => ?_⟩)
                                · skip
                                  refine exf_go 3 (show wpC (d + 32) true 192 [.ref 130, .int 2] h (fun _ h' => Go (d + 32) true 215 181 [.ref 130, mk_] [] h' Q) from ?_)
                                  refine m_fails (w := 2) mp (by omega) (fun h9 q9 mp9 => ?_)
                                  have hb9 := mp_b mp9
                                  have hz9 : ¬ qe (fl b n 2 s) = 0 := fl_ne (by omega)
                                  have iv9 : IV b n 0 (fl b n 2 s) := iv_fl2 iv (by decide)
                                  show Go (d + 32) true 215 181 [.ref 130, mk_] [] h9 Q
                                  refine exf_go 1 (show Q (mk_) h9 from ?_)
                                  have hkk : ∀ k, k < 10 → k = 1 ∨ k = 2 ∨ ¬ kd b n (qi s) = k := fun k hk => by
                                    have n0 := isK_x K5; have n3 := isK_x K27; have n4 := isK_x K42; have n5 := isK_x K66; have n6 := isK_x K82; have n7 := isK_x K109; have n8 := isK_x K125; have n9 := isK_x K134; omega
                                  have ea : rLn b n (s, g, st, en, a, ah) = ((fl b n 2 s), g, st, en, a, ah) := rL_x (y := (s, g, st, en, a, ah)) hkk
                                  rw [ea] at k; exact k _ (q9.mono sRd_M) ⟨mp9, fun z => absurd z (show ¬ qe (fl b n 2 s) = 0 by omega)⟩
                                · skip
                                  exact absurd (by decide) c26
                        · skip
                          exact absurd (by decide) c20
                    · skip
                      exact absurd (by decide) c18
                · skip
                  exact absurd (by decide) c16
            · skip
              exact absurd (by decide) c14
        · skip
          exact absurd (by decide) c12
    · skip
      exact absurd (by decide) c10
theorem m_line {d : Nat} {h : Hp} {b : Nat → Nat} {n : Nat} {Q : Po} {y : LnG} (yw : YW b n y) (my : MY b n y h) (he : qe (ys y) = 0) (hk : ¬ kd b n (qi (ys y)) = 22) (k : ∀ h1, Fq sMn h h1 → MY b n (rLn b n y) h1 → Q mk_ h1) : wpC (d + 33) true 215 [.ref 130] h Q := by
  obtain ⟨s, g, st, en, a, ah⟩ := y
  exact m_readLine (st := st) yw.1 my.1 yw.2.1 he yw.2.2.1.2.1 (my.2 he) hk k
