/-! The model's small words on reading, second part. -/
theorem fl_ne {b : Nat → Nat} {n w : Nat} {s : PsG} (hw : ¬ w = 0) : ¬ qe (fl b n w s) = 0 := by
  unfold fl
  split
  · show ¬ (if kd b n (qi s) = 23 then 1 else w) = 0
    split <;> omega
  · assumption
theorem hi_lt {x : Int32} {hh v : Nat} (hx : x = nI hh - 1) (h1 : hh < 2 ^ 30) (h2 : v < 2 ^ 30) : x.toInt64 < lN v ↔ hh ≤ v := by
  subst hx
  cases hh with
  | zero =>
    have e : (nI 0 - 1).toInt64.toInt = -1 := by decide
    rw [Int64.lt_iff_toInt_lt, e, lN_toInt (by omega)]
    omega
  | succ q =>
    rw [nI_pred, nI_l (by omega), pk_lLT (by omega) (by omega)]
    omega
theorem mp_b {b : Nat → Nat} {n : Nat} {s : PsG} {h : Hp} (mp : MP b n s h) : kd b n (qi s) ≤ 36 ∧ qe s ≤ 4 ∧ n ≤ 900 ∧ tkP b n (qi s) ≤ n := ⟨tK_b b n (tkP b n (qi s)), mp.1.2, mp.1.1.1.1, tkP_b b n (qi s)⟩
theorem vl_c {b : Nat → Nat} {n i : Nat} (hb : ∀ i, b i < 256) : vl b n i ≤ 33300 := vl_b2 hb _ _
theorem sRd_c {j : Nat} (h : j ≤ 2000) : sRd 134 (2941 + j) = true := by
  unfold sRd
  rw [show Nat.beq 134 130 = false from rfl, show Nat.beq 134 134 = true from rfl, Bool.false_and, Bool.false_or, Bool.true_and, Bool.and_eq_true]
  exact ⟨Nat.ble_eq_true_of_le (by omega), Nat.ble_eq_true_of_le (by omega)⟩
theorem qi_nx (s : PsG) : qi (nx s) = qi s + 1 := rfl
theorem qe_nx (s : PsG) : qe (nx s) = qe s := rfl
theorem isK_x {b : Nat → Nat} {n k : Nat} {s : PsG} (h : isK b n k s = false) : ¬ (qe s = 0 ∧ kd b n (qi s) = k) := of_decide_eq_false h
theorem m_takes {d : Nat} {h : Hp} {b : Nat → Nat} {n : Nat} {s : PsG} {lo hh : Nat} {x : Int32} {Q : Po} (mp : MP b n s h) (hlb : lo < 1000) (hx : x = nI hh - 1) (hhb : hh < 100000) (k : ∀ h1 v, Fq sRd h h1 → MP b n (tkn b n lo hh s) h1 → (qe (tkn b n lo hh s) = 0 → v = nI (vl b n (qi s))) → Q (.int v) h1) : wpC (d + 7) true 195 [.ref 130, .int (nI lo), .int x] h Q := by
  have hb0 := mp_b mp; have hv0 := vl_c (n := n) (i := qi s) mp.1.1.1.2
  refine go_in rfl ?_
  refine exf_go 3 (show wpC (d + 6) true 193 [.ref 130, .int 21] h (fun r h' => Go (d + 6) true 195 6 [.ref 130, .int (nI lo), .int x, mk_] [r] h' Q) from ?_)
  refine m_is (k := 21) mp (by omega) (fun K1 => ?_) (fun K1 => ?_)
  · skip
    have K1e := isK_e K1
    show Go (d + 6) true 195 6 [.ref 130, .int (nI lo), .int x, mk_] [.int 1] h Q
    refine exf_go 1 (show (¬ (1 : Int32) = 0 → Go (d + 6) true 195 17 [.ref 130, .int (nI lo), .int x, mk_] [] h Q) ∧ (¬ (¬ (1 : Int32) = 0) → Go (d + 6) true 195 9 [.ref 130, .int (nI lo), .int x, mk_] [] h Q) from ⟨fun c2 => ?_, fun c2 => ?_⟩)
    · skip
      refine exf_go 2 (show Go (d + 6) true 195 21 [.ref 130, .int (nI lo), .int x, mk_] [.int (rI h 130 10)] h Q from ?_)
      rw [show (rI h 130 10 : Int32) = nI (vl b n (qi s)) from mp.2.1.2.2.2 K1e.2]
      refine exf_go 1 (show Go (d + 6) true 195 22 [.ref 130, .int (nI lo), .int x, mk_] [.long ((nI (vl b n (qi s))).toInt64)] h Q from ?_)
      rw [show ((nI (vl b n (qi s))).toInt64 : Int64) = lN (vl b n (qi s)) from nI_l (n := (vl b n (qi s))) (by omega)]
      refine exf_go 2 (show Go (d + 6) true 195 24 [.ref 130, .int (nI lo), .int x, mk_] [.long ((nI lo).toInt64), .long (lN (vl b n (qi s)))] h Q from ?_)
      rw [show ((nI lo).toInt64 : Int64) = lN lo from nI_l (n := lo) (by omega)]
      refine exf_go 3 (show wpC (d + 6) true 183 [.long (lN (vl b n (qi s))), .long (lN lo), .long x.toInt64] h (fun r h' => Go (d + 6) true 195 29 [.ref 130, .int (nI lo), .int x, mk_] [r] h' Q) from ?_)
      refine m_within (fun u1 v1 => ?_) (fun u1 => ?_)
      · skip
        have hlo : lo ≤ vl b n (qi s) := by rw [pk_lLT (by omega) (by omega)] at u1; omega
        have hhi : vl b n (qi s) < hh := by rw [hi_lt hx (by omega) (by omega)] at v1; omega
        show Go (d + 6) true 195 29 [.ref 130, .int (nI lo), .int x, mk_] [.int 1] h Q
        refine exf_go 1 (show (¬ (1 : Int32) = 0 → Go (d + 6) true 195 37 [.ref 130, .int (nI lo), .int x, mk_] [] h Q) ∧ (¬ (¬ (1 : Int32) = 0) → Go (d + 6) true 195 32 [.ref 130, .int (nI lo), .int x, mk_] [] h Q) from ⟨fun c3 => ?_, fun c3 => ?_⟩)
        · skip
          refine exf_go 2 (show Go (d + 6) true 195 41 [.ref 130, .int (nI lo), .int x, mk_] [.int (rI h 130 10)] h Q from ?_)
          rw [show (rI h 130 10 : Int32) = nI (vl b n (qi s)) from mp.2.1.2.2.2 K1e.2]
          refine exf_go 3 (show Go (d + 6) true 195 46 [.ref 130, .int (nI lo), .int x, .int (nI (vl b n (qi s)))] [.int (rI h 130 11)] h Q from ?_)
          rw [show (rI h 130 11 : Int32) = nI (qe s) from mp.2.2.1.1]
          refine exf_go 1 (show (¬ (nI (qe s)) = 0 → Go (d + 6) true 195 53 [.ref 130, .int (nI lo), .int x, .int (nI (vl b n (qi s)))] [] h Q) ∧ (¬ (¬ (nI (qe s)) = 0) → Go (d + 6) true 195 49 [.ref 130, .int (nI lo), .int x, .int (nI (vl b n (qi s)))] [] h Q) from ⟨fun c4 => ?_, fun c4 => ?_⟩)
          · skip
            have c4 : ¬ (qe s) = 0 := fun q => c4 ((nI_eq (a := (qe s)) (b := 0) (by omega) (by omega)).mpr q)
            exfalso; omega
          · skip
            have c4 : (qe s) = 0 := (nI_eq (a := (qe s)) (b := 0) (by omega) (by omega)).mp (Classical.not_not.mp c4)
            refine exf_go 2 (show wpC (d + 6) true 191 [.ref 130] h (fun _ h' => Go (d + 6) true 195 53 [.ref 130, .int (nI lo), .int x, .int (nI (vl b n (qi s)))] [] h' Q) from ?_)
            refine m_nx mp (fun h1 q1 mp1 => ?_)
            have hb1 := mp_b mp1
            have hz1 := qe_nx s; have hi1 := qi_nx s
            show Go (d + 6) true 195 53 [.ref 130, .int (nI lo), .int x, .int (nI (vl b n (qi s)))] [] h1 Q
            refine exf_go 2 (show Q (.int (nI (vl b n (qi s)))) h1 from ?_)
            have e : tkn b n lo hh s = nx s := by unfold tkn; rw [if_pos K1, if_pos ⟨hlo, hhi⟩]
            rw [e] at k; exact k _ _ q1 mp1 (fun _ => rfl)
        · skip
          exact absurd (by decide) c3
      · skip
        have hno : ¬ (lo ≤ vl b n (qi s) ∧ vl b n (qi s) < hh) := by rw [pk_lLT (by omega) (by omega), hi_lt hx (by omega) (by omega)] at u1; omega
        show Go (d + 6) true 195 29 [.ref 130, .int (nI lo), .int x, mk_] [.int 0] h Q
        refine exf_go 1 (show (¬ (0 : Int32) = 0 → Go (d + 6) true 195 37 [.ref 130, .int (nI lo), .int x, mk_] [] h Q) ∧ (¬ (¬ (0 : Int32) = 0) → Go (d + 6) true 195 32 [.ref 130, .int (nI lo), .int x, mk_] [] h Q) from ⟨fun c5 => ?_, fun c5 => ?_⟩)
        · skip
          exact absurd c5 (by decide)
        · skip
          refine exf_go 3 (show wpC (d + 6) true 192 [.ref 130, .int 3] h (fun _ h' => Go (d + 6) true 195 37 [.ref 130, .int (nI lo), .int x, mk_] [] h' Q) from ?_)
          refine m_fails (w := 3) mp (by omega) (fun h2 q2 mp2 => ?_)
          have hb2 := mp_b mp2
          have hz2 : ¬ qe (fl b n 3 s) = 0 := fl_ne (by omega)
          show Go (d + 6) true 195 37 [.ref 130, .int (nI lo), .int x, mk_] [] h2 Q
          refine exf_go 5 (show Go (d + 6) true 195 46 [.ref 130, .int (nI lo), .int x, .int (rI h2 130 10)] [.int (rI h2 130 11)] h2 Q from ?_)
          rw [show (rI h2 130 11 : Int32) = nI (qe (fl b n 3 s)) from mp2.2.2.1.1]
          refine exf_go 1 (show (¬ (nI (qe (fl b n 3 s))) = 0 → Go (d + 6) true 195 53 [.ref 130, .int (nI lo), .int x, .int (rI h2 130 10)] [] h2 Q) ∧ (¬ (¬ (nI (qe (fl b n 3 s))) = 0) → Go (d + 6) true 195 49 [.ref 130, .int (nI lo), .int x, .int (rI h2 130 10)] [] h2 Q) from ⟨fun c6 => ?_, fun c6 => ?_⟩)
          · skip
            have c6 : ¬ (qe (fl b n 3 s)) = 0 := fun q => c6 ((nI_eq (a := (qe (fl b n 3 s))) (b := 0) (by omega) (by omega)).mpr q)
            refine exf_go 2 (show Q (.int (rI h2 130 10)) h2 from ?_)
            have e : tkn b n lo hh s = fl b n 3 s := by unfold tkn; rw [if_pos K1, if_neg hno]
            rw [e] at k; exact k _ _ q2 mp2 (fun z => absurd z (by omega))
          · skip
            have c6 : (qe (fl b n 3 s)) = 0 := (nI_eq (a := (qe (fl b n 3 s))) (b := 0) (by omega) (by omega)).mp (Classical.not_not.mp c6)
            exfalso; omega
    · skip
      exact absurd (by decide) c2
  · skip
    have K1n := isK_x K1
    show Go (d + 6) true 195 6 [.ref 130, .int (nI lo), .int x, mk_] [.int 0] h Q
    refine exf_go 1 (show (¬ (0 : Int32) = 0 → Go (d + 6) true 195 17 [.ref 130, .int (nI lo), .int x, mk_] [] h Q) ∧ (¬ (¬ (0 : Int32) = 0) → Go (d + 6) true 195 9 [.ref 130, .int (nI lo), .int x, mk_] [] h Q) from ⟨fun c7 => ?_, fun c7 => ?_⟩)
    · skip
      exact absurd c7 (by decide)
    · skip
      refine exf_go 3 (show wpC (d + 6) true 192 [.ref 130, .int 2] h (fun _ h' => Go (d + 6) true 195 14 [.ref 130, .int (nI lo), .int x, mk_] [] h' Q) from ?_)
      refine m_fails (w := 2) mp (by omega) (fun h3 q3 mp3 => ?_)
      have hb3 := mp_b mp3
      have hz3 : ¬ qe (fl b n 2 s) = 0 := fl_ne (by omega)
      show Go (d + 6) true 195 14 [.ref 130, .int (nI lo), .int x, mk_] [] h3 Q
      refine exf_go 6 (show Go (d + 6) true 195 46 [.ref 130, .int (nI lo), .int x, .int (rI h3 130 10)] [.int (rI h3 130 11)] h3 Q from ?_)
      rw [show (rI h3 130 11 : Int32) = nI (qe (fl b n 2 s)) from mp3.2.2.1.1]
      refine exf_go 1 (show (¬ (nI (qe (fl b n 2 s))) = 0 → Go (d + 6) true 195 53 [.ref 130, .int (nI lo), .int x, .int (rI h3 130 10)] [] h3 Q) ∧ (¬ (¬ (nI (qe (fl b n 2 s))) = 0) → Go (d + 6) true 195 49 [.ref 130, .int (nI lo), .int x, .int (rI h3 130 10)] [] h3 Q) from ⟨fun c8 => ?_, fun c8 => ?_⟩)
      · skip
        have c8 : ¬ (qe (fl b n 2 s)) = 0 := fun q => c8 ((nI_eq (a := (qe (fl b n 2 s))) (b := 0) (by omega) (by omega)).mpr q)
        refine exf_go 2 (show Q (.int (rI h3 130 10)) h3 from ?_)
        have e : tkn b n lo hh s = fl b n 2 s := by unfold tkn; rw [if_neg (by rw [K1]; decide)]
        rw [e] at k; exact k _ _ q3 mp3 (fun z => absurd z (by omega))
      · skip
        have c8 : (qe (fl b n 2 s)) = 0 := (nI_eq (a := (qe (fl b n 2 s))) (b := 0) (by omega) (by omega)).mp (Classical.not_not.mp c8)
        exfalso; omega
theorem m_eats {d : Nat} {h : Hp} {b : Nat → Nat} {n : Nat} {s : PsG} {k : Nat} {Q : Po} (mp : MP b n s h) (hk : k < 100) (k1 : isK b n k s = true → ∀ h1, Fq sRd h h1 → MP b n (nx s) h1 → Q (.int 1) h1) (k0 : isK b n k s = false → Q (.int 0) h) : wpC (d + 7) true 194 [.ref 130, .int (nI k)] h Q := by
  refine go_in rfl ?_
  refine exf_go 3 (show wpC (d + 6) true 193 [.ref 130, .int (nI k)] h (fun r h' => Go (d + 6) true 194 5 [.ref 130, .int (nI k)] [r] h' Q) from ?_)
  refine m_is (k := k) mp (by omega) (fun K1 => ?_) (fun K1 => ?_)
  · skip
    have K1e := isK_e K1
    show Go (d + 6) true 194 5 [.ref 130, .int (nI k)] [.int 1] h Q
    refine exf_go 1 (show (¬ (1 : Int32) = 0 → Go (d + 6) true 194 10 [.ref 130, .int (nI k)] [] h Q) ∧ (¬ (¬ (1 : Int32) = 0) → Go (d + 6) true 194 8 [.ref 130, .int (nI k)] [] h Q) from ⟨fun c2 => ?_, fun c2 => ?_⟩)
    · skip
      refine exf_go 2 (show wpC (d + 6) true 191 [.ref 130] h (fun _ h' => Go (d + 6) true 194 14 [.ref 130, .int (nI k)] [] h' Q) from ?_)
      refine m_nx mp (fun h1 q1 mp1 => ?_)
      have hb1 := mp_b mp1
      have hz1 := qe_nx s; have hi1 := qi_nx s
      show Go (d + 6) true 194 14 [.ref 130, .int (nI k)] [] h1 Q
      refine exf_go 2 (show ((1 : Int32) = 0 ∨ (1 : Int32) = 1) ∧ Q (.int 1) h1 from ⟨(by first | exact Or.inl rfl | exact Or.inr rfl | assumption), ?_⟩)
      exact k1 K1 h1 q1 mp1
    · skip
      exact absurd (by decide) c2
  · skip
    have K1n := isK_x K1
    show Go (d + 6) true 194 5 [.ref 130, .int (nI k)] [.int 0] h Q
    refine exf_go 1 (show (¬ (0 : Int32) = 0 → Go (d + 6) true 194 10 [.ref 130, .int (nI k)] [] h Q) ∧ (¬ (¬ (0 : Int32) = 0) → Go (d + 6) true 194 8 [.ref 130, .int (nI k)] [] h Q) from ⟨fun c3 => ?_, fun c3 => ?_⟩)
    · skip
      exact absurd c3 (by decide)
    · skip
      refine exf_go 2 (show ((0 : Int32) = 0 ∨ (0 : Int32) = 1) ∧ Q (.int 0) h from ⟨(by first | exact Or.inl rfl | exact Or.inr rfl | assumption), ?_⟩)
      exact k0 K1
theorem m_codes {d : Nat} {h : Hp} {b : Nat → Nat} {n : Nat} {s : PsG} {c : Nat} {x : Int32} {Q : Po} (mp : MP b n s h) (hx : qe s = 0 → qn s < 1000 ∧ x = nI c) (k : ∀ h1, Fq sRd h h1 → MP b n (em c s) h1 → Q mk_ h1) : wpC (d + 1) true 200 [.ref 130, .int x] h Q := by
  have hb0 := mp_b mp
  refine go_in rfl ?_
  refine exf_go 2 (show Go d true 200 4 [.ref 130, .int x] [.int (rI h 130 11)] h Q from ?_)
  rw [show (rI h 130 11 : Int32) = nI (qe s) from mp.2.2.1.1]
  refine exf_go 1 (show ((nI (qe s)) = 0 → Go d true 200 8 [.ref 130, .int x] [] h Q) ∧ (¬ ((nI (qe s)) = 0) → Go d true 200 7 [.ref 130, .int x] [] h Q) from ⟨fun c1 => ?_, fun c1 => ?_⟩)
  · skip
    have c1 : (qe s) = 0 := (nI_eq (a := (qe s)) (b := 0) (by omega) (by omega)).mp c1
    refine exf_go 7 (show vp_in 2940 13841 ∧ (Go d true 200 23 [.ref 130, .int x] [.int (rI h 134 2940), .int 2941, .ref 134] h Q) from ⟨(vp_in_nI (n := 2940) (by decide) (by decide)), ?_⟩)
    rw [show (rI h 134 2940 : Int32) = nI (qn s) from mp.2.2.2.1]
    refine exf_go 1 (show Go d true 200 24 [.ref 130, .int x] [.int (2941 + (nI (qn s))), .ref 134] h Q from ?_)
    rw [show (2941 + (nI (qn s)) : Int32) = nI (2941 + (qn s)) from nI_add 2941 (qn s)]
    refine exf_go 7 (show vp_in (nI (2941 + (qn s))) 13841 ∧ vp_in 2940 13841 ∧ (Go d true 200 35 [.ref 130, .int x] [.int (rI (uI h 134 ((nI (2941 + (qn s))).toNatClampNeg) x) 134 2940), .int 2940, .ref 134] (uI h 134 ((nI (2941 + (qn s))).toNatClampNeg) x) Q) from ⟨(vp_in_nI (n := 2941 + qn s) (by have := hx (by omega); omega) (by have := hx (by omega); omega)), (vp_in_nI (n := 2940) (by decide) (by decide)), ?_⟩)
    rw [show (rI (uI h 134 ((nI (2941 + (qn s))).toNatClampNeg) x) 134 2940 : Int32) = nI (qn s) from by rw [nI_clamp (by have := hx (by omega); omega), rI_uI_at (by omega)]; exact mp.2.2.2.1]
    refine exf_go 2 (show Go d true 200 37 [.ref 130, .int x] [.int ((nI (qn s)) + 1), .int 2940, .ref 134] (uI h 134 ((nI (2941 + (qn s))).toNatClampNeg) x) Q from ?_)
    rw [show ((nI (qn s)) + 1 : Int32) = nI ((qn s) + 1) from nI_add (qn s) 1]
    refine exf_go 2 (show vp_in 2940 13841 ∧ Q (mk_) (uI (uI h 134 ((nI (2941 + (qn s))).toNatClampNeg) x) 134 2940 (nI ((qn s) + 1))) from ⟨(vp_in_nI (n := 2940) (by decide) (by decide)), ?_⟩)
    have hz : qe s = 0 := by omega
    obtain ⟨hq, hxe⟩ := hx hz
    have hcl : (nI (2941 + qn s)).toNatClampNeg = 2941 + qn s := nI_clamp (by omega)
    have e : em c s = (qi s, qe s, qx s, qn s + 1, va_up (qc s) (qn s) c) := if_pos hz
    rw [e] at k; rw [hcl, hxe]
    have q1 : Fq sRd h (uI (uI h 134 (2941 + qn s) (nI c)) 134 2940 (nI (qn s + 1))) := (Fq.rfl'.uI' _ _ _ (sRd_c (by omega))).uI' _ _ _ rfl
    refine k _ q1 ⟨⟨mx_rd mp.1.1 q1, mp.1.2⟩, mp.2.1, mp.2.2.1, rfl, fun j hj => ?_⟩
    have hj : j < qn s + 1 := hj
    show rI (uI (uI h 134 (2941 + qn s) (nI c)) 134 2940 (nI (qn s + 1))) 134 (2941 + j) = nI (va_up (qc s) (qn s) c j)
    rw [rI_uI_at (by omega)]
    rcases Nat.lt_or_ge j (qn s) with z | z
    · rw [rI_uI_at (by omega), va_up_n (by omega)]; exact mp.2.2.2.2 j z
    · rw [show j = qn s from by omega, rI_uI_eq, va_up_s]
  · skip
    have c1 : ¬ (qe s) = 0 := fun q => c1 ((nI_eq (a := (qe s)) (b := 0) (by omega) (by omega)).mpr q)
    refine exf_go 1 (show Q (mk_) h from ?_)
    have e : em c s = s := if_neg (by omega)
    rw [e] at k; exact k h Fq.rfl' mp
theorem m_goesIn {d : Nat} {h : Hp} {b : Nat → Nat} {n : Nat} {s : PsG} {m : Nat} {Q : Po} (mp : MP b n s h) (he : qe s = 0) (hm : m ≤ 6) (k1 : ¬ m = 0 → ∀ h1, Fq sRd h h1 → MP b n (nx s) h1 → Q (.int 1) h1) (k0 : m = 0 → ∀ h1, Fq sRd h h1 → MP b n (fl b n 4 s) h1 → Q (.int 0) h1) : wpC (d + 7) true 201 [.ref 130, .int (nI (6 - m))] h Q := by
  have hb0 := mp_b mp
  refine go_in rfl ?_
  refine exf_go 3 (show (¬ (nI (6 - m)) = 6 → Go (d + 6) true 201 11 [.ref 130, .int (nI (6 - m))] [] h Q) ∧ (¬ (¬ (nI (6 - m)) = 6) → Go (d + 6) true 201 6 [.ref 130, .int (nI (6 - m))] [] h Q) from ⟨fun c1 => ?_, fun c1 => ?_⟩)
  · skip
    have c1 : ¬ (6 - m) = 6 := fun q => c1 ((nI_eq (a := (6 - m)) (b := 6) (by omega) (by omega)).mpr q)
    refine exf_go 2 (show Go (d + 6) true 201 15 [.ref 130, .int (nI (6 - m))] [.int (rI h 130 11)] h Q from ?_)
    rw [show (rI h 130 11 : Int32) = nI (qe s) from mp.2.2.1.1]
    refine exf_go 1 (show (¬ (nI (qe s)) = 0 → Go (d + 6) true 201 22 [.ref 130, .int (nI (6 - m))] [] h Q) ∧ (¬ (¬ (nI (qe s)) = 0) → Go (d + 6) true 201 18 [.ref 130, .int (nI (6 - m))] [] h Q) from ⟨fun c2 => ?_, fun c2 => ?_⟩)
    · skip
      have c2 : ¬ (qe s) = 0 := fun q => c2 ((nI_eq (a := (qe s)) (b := 0) (by omega) (by omega)).mpr q)
      exfalso; omega
    · skip
      have c2 : (qe s) = 0 := (nI_eq (a := (qe s)) (b := 0) (by omega) (by omega)).mp (Classical.not_not.mp c2)
      refine exf_go 2 (show wpC (d + 6) true 191 [.ref 130] h (fun _ h' => Go (d + 6) true 201 22 [.ref 130, .int (nI (6 - m))] [] h' Q) from ?_)
      refine m_nx mp (fun h1 q1 mp1 => ?_)
      have hb1 := mp_b mp1
      have hz1 := qe_nx s; have hi1 := qi_nx s
      show Go (d + 6) true 201 22 [.ref 130, .int (nI (6 - m))] [] h1 Q
      refine exf_go 2 (show Go (d + 6) true 201 26 [.ref 130, .int (nI (6 - m))] [.int (rI h1 130 11)] h1 Q from ?_)
      rw [show (rI h1 130 11 : Int32) = nI (qe (nx s)) from mp1.2.2.1.1]
      refine exf_go 1 (show (¬ (nI (qe (nx s))) = 0 → Go (d + 6) true 201 33 [.ref 130, .int (nI (6 - m))] [] h1 Q) ∧ (¬ (¬ (nI (qe (nx s))) = 0) → Go (d + 6) true 201 29 [.ref 130, .int (nI (6 - m))] [] h1 Q) from ⟨fun c3 => ?_, fun c3 => ?_⟩)
      · skip
        have c3 : ¬ (qe (nx s)) = 0 := fun q => c3 ((nI_eq (a := (qe (nx s))) (b := 0) (by omega) (by omega)).mpr q)
        exfalso; omega
      · skip
        have c3 : (qe (nx s)) = 0 := (nI_eq (a := (qe (nx s))) (b := 0) (by omega) (by omega)).mp (Classical.not_not.mp c3)
        refine exf_go 3 (show ((1 : Int32) = 0 ∨ (1 : Int32) = 1) ∧ Q (.int 1) h1 from ⟨(by first | exact Or.inl rfl | exact Or.inr rfl | assumption), ?_⟩)
        exact k1 (by omega) h1 q1 mp1
  · skip
    have c1 : (6 - m) = 6 := (nI_eq (a := (6 - m)) (b := 6) (by omega) (by omega)).mp (Classical.not_not.mp c1)
    refine exf_go 3 (show wpC (d + 6) true 192 [.ref 130, .int 4] h (fun _ h' => Go (d + 6) true 201 11 [.ref 130, .int (nI (6 - m))] [] h' Q) from ?_)
    refine m_fails (w := 4) mp (by omega) (fun h2 q2 mp2 => ?_)
    have hb2 := mp_b mp2
    have hz2 : ¬ qe (fl b n 4 s) = 0 := fl_ne (by omega)
    show Go (d + 6) true 201 11 [.ref 130, .int (nI (6 - m))] [] h2 Q
    refine exf_go 2 (show Go (d + 6) true 201 15 [.ref 130, .int (nI (6 - m))] [.int (rI h2 130 11)] h2 Q from ?_)
    rw [show (rI h2 130 11 : Int32) = nI (qe (fl b n 4 s)) from mp2.2.2.1.1]
    refine exf_go 1 (show (¬ (nI (qe (fl b n 4 s))) = 0 → Go (d + 6) true 201 22 [.ref 130, .int (nI (6 - m))] [] h2 Q) ∧ (¬ (¬ (nI (qe (fl b n 4 s))) = 0) → Go (d + 6) true 201 18 [.ref 130, .int (nI (6 - m))] [] h2 Q) from ⟨fun c4 => ?_, fun c4 => ?_⟩)
    · skip
      have c4 : ¬ (qe (fl b n 4 s)) = 0 := fun q => c4 ((nI_eq (a := (qe (fl b n 4 s))) (b := 0) (by omega) (by omega)).mpr q)
      refine exf_go 2 (show Go (d + 6) true 201 26 [.ref 130, .int (nI (6 - m))] [.int (rI h2 130 11)] h2 Q from ?_)
      rw [show (rI h2 130 11 : Int32) = nI (qe (fl b n 4 s)) from mp2.2.2.1.1]
      refine exf_go 1 (show (¬ (nI (qe (fl b n 4 s))) = 0 → Go (d + 6) true 201 33 [.ref 130, .int (nI (6 - m))] [] h2 Q) ∧ (¬ (¬ (nI (qe (fl b n 4 s))) = 0) → Go (d + 6) true 201 29 [.ref 130, .int (nI (6 - m))] [] h2 Q) from ⟨fun c5 => ?_, fun c5 => ?_⟩)
      · skip
        have c5 : ¬ (qe (fl b n 4 s)) = 0 := fun q => c5 ((nI_eq (a := (qe (fl b n 4 s))) (b := 0) (by omega) (by omega)).mpr q)
        refine exf_go 2 (show ((0 : Int32) = 0 ∨ (0 : Int32) = 1) ∧ Q (.int 0) h2 from ⟨(by first | exact Or.inl rfl | exact Or.inr rfl | assumption), ?_⟩)
        exact k0 (by omega) h2 q2 mp2
      · skip
        have c5 : (qe (fl b n 4 s)) = 0 := (nI_eq (a := (qe (fl b n 4 s))) (b := 0) (by omega) (by omega)).mp (Classical.not_not.mp c5)
        exfalso; omega
    · skip
      have c4 : (qe (fl b n 4 s)) = 0 := (nI_eq (a := (qe (fl b n 4 s))) (b := 0) (by omega) (by omega)).mp (Classical.not_not.mp c4)
      exfalso; omega
