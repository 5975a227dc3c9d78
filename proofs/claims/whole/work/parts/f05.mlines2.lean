/-! The model: lines, second part. -/
def fgB (b : Nat → Nat) (n : Nat) (g : ShG) (s : PsG) : PsG × Nat := if sW g = 0 then (tkn b n 0 0 s, 0) else fgL b n (sF g) (sW g) s
theorem m_takesNumber {d : Nat} {h : Hp} {b : Nat → Nat} {n : Nat} {s : PsG} {g : ShG} {st en : Nat → Nat} {a ah : Nat} {Q : Po} (hg : ShW g) (mp : MP b n s h) (iv : IV b n 0 s) (mr : MRw g st en a ah h) (k : ∀ h1 v, Fq sRd h h1 → MP b n (fgB b n g s).1 h1 → (qe (fgB b n g s).1 = 0 → v = nI (fgB b n g s).2) → Q (.int v) h1) : wpC (d + 8) true 198 [.ref 130] h Q := by
  have hb0 := mp_b mp; have hW4 := hg.1
  refine go_in rfl ?_
  refine exf_go 6 (show vp_in 1 13841 ∧ (Go (d + 7) true 198 8 [.ref 130, .int 0, mk_] [.int (rI h 134 1)] h Q) from ⟨(vp_in_nI (n := 1) (by decide) (by decide)), ?_⟩)
  rw [show (rI h 134 1 : Int32) = nI (sW g) from mr.1.2.1]
  refine exf_go 1 (show (¬ (nI (sW g)) = 0 → Go (d + 7) true 198 18 [.ref 130, .int 0, mk_] [] h Q) ∧ (¬ (¬ (nI (sW g)) = 0) → Go (d + 7) true 198 11 [.ref 130, .int 0, mk_] [] h Q) from ⟨fun c1 => ?_, fun c1 => ?_⟩)
  · skip
    have c1 : ¬ (sW g) = 0 := fun q => c1 ((nI_eq (a := (sW g)) (b := 0) (by omega) (by omega)).mpr q)
    refine exf_go 2 (show Go (d + 7) true 198 20 [.ref 130, .int 0, .int 0] [] h Q from ?_)
    have L20 : ∀ (k20 : Nat) (u : Nat) (x : Int32) (s1 : PsG) (hL : Hp), (sW g - u) < k20 → (u ≤ sW g) → (Fq sRd h hL) → (MP b n s1 hL) → (IV b n 0 s1) → (sW g = 0 → s1 = tkn b n 0 0 s) → (¬ sW g = 0 → (fgL b n (sF g) u s).1 = s1 ∧ (qe s1 = 0 → x = nI (fgL b n (sF g) u s).2)) → Go (d + 7) true 198 20 [.ref 130, .int x, .int (nI u)] [] hL Q := by
      intro k20
      induction k20 with
      | zero => intro u x s1 hL hk; exact absurd hk (Nat.not_lt_zero _)
      | succ k20 ih20 =>
        intro u x s1 hL hk hu qL mpL ivL hw0 hw1
        have hbL := mp_b mpL
        have hFu := sF_b hg u
        refine exf_go 5 (show vp_in 1 13841 ∧ (Go (d + 7) true 198 27 [.ref 130, .int x, .int (nI u)] [.int (rI hL 134 1), .int (nI u)] hL Q) from ⟨(vp_in_nI (n := 1) (by decide) (by decide)), ?_⟩)
        rw [show (rI hL 134 1 : Int32) = nI (sW g) from (mr_rd hg mr qL).1.2.1]
        refine exf_go 1 (show ((nI (sW g)) ≤ (nI u) → Go (d + 7) true 198 65 [.ref 130, .int x, .int (nI u)] [] hL Q) ∧ (¬ ((nI (sW g)) ≤ (nI u)) → Go (d + 7) true 198 30 [.ref 130, .int x, .int (nI u)] [] hL Q) from ⟨fun c2 => ?_, fun c2 => ?_⟩)
        · skip
          have c2 : (sW g) ≤ u := (nI_leI (a := (sW g)) (b := u) (by omega) (by omega)).mp c2
          refine exf_go 2 (show Q (.int x) hL from ?_)
          have ea : (fgB b n g s).1 = s1 ∧ (qe s1 = 0 → x = nI (fgB b n g s).2) := by
            unfold fgB
            by_cases z : sW g = 0
            · have e := hw0 z; rw [if_pos z]; exact ⟨e.symm, fun q => absurd (tkn_e (show qe (tkn b n 0 0 s) = 0 by rw [← e]; exact q)).2.2.2.2 (Nat.not_lt_zero _)⟩
            · have e := hw1 z; rw [show u = sW g from by omega] at e; rw [if_neg z]; exact e
          exact k _ x qL (by rw [ea.1]; exact mpL) (fun e => ea.2 (by rw [ea.1] at e; exact e))
        · skip
          have c2 : ¬ (sW g) ≤ u := fun q => c2 ((nI_leI (a := (sW g)) (b := u) (by omega) (by omega)).mpr q)
          refine exf_go 6 (show Go (d + 7) true 198 39 [.ref 130, .int x, .int (nI u)] [.int (10 + (nI u)), .ref 134, .int x] hL Q from ?_)
          rw [show (10 + (nI u) : Int32) = nI (10 + u) from nI_add 10 u]
          refine exf_go 1 (show vp_in (nI (10 + u)) 13841 ∧ (Go (d + 7) true 198 40 [.ref 130, .int x, .int (nI u)] [.int (rI hL 134 ((nI (10 + u)).toNatClampNeg)), .int x] hL Q) from ⟨(vp_in_nI (by omega) (by omega)), ?_⟩)
          rw [show (rI hL 134 ((nI (10 + u)).toNatClampNeg) : Int32) = nI (sF g u) from by rw [nI_clamp (by omega)]; exact ((mr_rd hg mr qL).2.1 _ (by omega)).1]
          refine exf_go 8 (show Go (d + 7) true 198 51 [.ref 130, .int x, .int (nI u)] [.int (10 + (nI u)), .ref 134, .int 0, .ref 130, .int (x * (nI (sF g u)))] hL Q from ?_)
          rw [show (10 + (nI u) : Int32) = nI (10 + u) from nI_add 10 u]
          refine exf_go 1 (show vp_in (nI (10 + u)) 13841 ∧ (Go (d + 7) true 198 52 [.ref 130, .int x, .int (nI u)] [.int (rI hL 134 ((nI (10 + u)).toNatClampNeg)), .int 0, .ref 130, .int (x * (nI (sF g u)))] hL Q) from ⟨(vp_in_nI (by omega) (by omega)), ?_⟩)
          rw [show (rI hL 134 ((nI (10 + u)).toNatClampNeg) : Int32) = nI (sF g u) from by rw [nI_clamp (by omega)]; exact ((mr_rd hg mr qL).2.1 _ (by omega)).1]
          refine exf_go 3 (show wpC (d + 7) true 195 [.ref 130, .int 0, .int ((nI (sF g u)) - 1)] hL (fun r h' => Go (d + 7) true 198 57 [.ref 130, .int x, .int (nI u)] [r, .int (x * (nI (sF g u)))] h' Q) from ?_)
          refine m_takes (lo := 0) (hh := (sF g u)) mpL (by omega) (by first | rfl | decide) (by omega) (fun h1 v1 q1 mp1 hv1 => ?_)
          have hb1 := mp_b mp1
          have iv1 := (iv_tkn (lo := 0) (hh := (sF g u)) ivL).1
          show Go (d + 7) true 198 57 [.ref 130, .int x, .int (nI u)] [.int v1, .int (x * (nI (sF g u)))] h1 Q
          refine exf_go 3 (show Go (d + 7) true 198 62 [.ref 130, .int ((x * (nI (sF g u))) + v1), .int ((nI u) + 1)] [] h1 Q from ?_)
          rw [show ((nI u) + 1 : Int32) = nI (u + 1) from nI_add u 1]
          refine exf_go 1 (show Go (d + 7) true 198 20 [.ref 130, .int ((x * (nI (sF g u))) + v1), .int (nI (u + 1))] [] h1 Q from ?_)
          have hW0 : ¬ sW g = 0 := by omega
          have hS : (fgL b n (sF g) (u + 1) s).1 = tkn b n 0 (sF g u) s1 := by show tkn b n 0 (sF g u) (fgL b n (sF g) u s).1 = _; rw [(hw1 hW0).1]
          have hX : qe (tkn b n 0 (sF g u) s1) = 0 → x * nI (sF g u) + v1 = nI (fgL b n (sF g) (u + 1) s).2 := fun e => by rw [hv1 e, (hw1 hW0).2 (tkn_e e).2.1, pk_mul, nI_add]; show _ = nI ((fgL b n (sF g) u s).2 * sF g u + vl b n (qi (fgL b n (sF g) u s).1)); rw [(hw1 hW0).1]
          exact ih20 (u + 1) _ _ h1 (by omega) (by omega) (Fq.tr qL q1) mp1 (iv1.le (Nat.zero_le _)) (fun z => absurd z hW0) (fun _ => ⟨hS, hX⟩)
    exact L20 ((sW g) + 1) 0 0 s h (by omega) (by omega) Fq.rfl' mp iv (fun z => absurd z (by omega)) (fun _ => ⟨rfl, fun _ => rfl⟩)
  · skip
    have c1 : (sW g) = 0 := (nI_eq (a := (sW g)) (b := 0) (by omega) (by omega)).mp (Classical.not_not.mp c1)
    refine exf_go 4 (show wpC (d + 7) true 195 [.ref 130, .int 0, .int (-1)] h (fun r h' => Go (d + 7) true 198 17 [.ref 130, .int 0, mk_] [r] h' Q) from ?_)
    refine m_takes (lo := 0) (hh := 0) mp (by omega) (by first | rfl | decide) (by omega) (fun h2 v2 q2 mp2 hv2 => ?_)
    have hb2 := mp_b mp2
    have iv2 := (iv_tkn (lo := 0) (hh := 0) iv).1
    show Go (d + 7) true 198 17 [.ref 130, .int 0, mk_] [.int v2] h2 Q
    refine exf_go 3 (show Go (d + 7) true 198 20 [.ref 130, .int 0, .int 0] [] h2 Q from ?_)
    have L20 : ∀ (k20 : Nat) (u : Nat) (x : Int32) (s1 : PsG) (hL : Hp), (sW g - u) < k20 → (u ≤ sW g) → (Fq sRd h hL) → (MP b n s1 hL) → (IV b n 0 s1) → (sW g = 0 → s1 = tkn b n 0 0 s) → (¬ sW g = 0 → (fgL b n (sF g) u s).1 = s1 ∧ (qe s1 = 0 → x = nI (fgL b n (sF g) u s).2)) → Go (d + 7) true 198 20 [.ref 130, .int x, .int (nI u)] [] hL Q := by
      intro k20
      induction k20 with
      | zero => intro u x s1 hL hk; exact absurd hk (Nat.not_lt_zero _)
      | succ k20 ih20 =>
        intro u x s1 hL hk hu qL mpL ivL hw0 hw1
        have hbL := mp_b mpL
        have hFu := sF_b hg u
        refine exf_go 5 (show vp_in 1 13841 ∧ (Go (d + 7) true 198 27 [.ref 130, .int x, .int (nI u)] [.int (rI hL 134 1), .int (nI u)] hL Q) from ⟨(vp_in_nI (n := 1) (by decide) (by decide)), ?_⟩)
        rw [show (rI hL 134 1 : Int32) = nI (sW g) from (mr_rd hg mr qL).1.2.1]
        refine exf_go 1 (show ((nI (sW g)) ≤ (nI u) → Go (d + 7) true 198 65 [.ref 130, .int x, .int (nI u)] [] hL Q) ∧ (¬ ((nI (sW g)) ≤ (nI u)) → Go (d + 7) true 198 30 [.ref 130, .int x, .int (nI u)] [] hL Q) from ⟨fun c3 => ?_, fun c3 => ?_⟩)
        · skip
          have c3 : (sW g) ≤ u := (nI_leI (a := (sW g)) (b := u) (by omega) (by omega)).mp c3
          refine exf_go 2 (show Q (.int x) hL from ?_)
          have ea : (fgB b n g s).1 = s1 ∧ (qe s1 = 0 → x = nI (fgB b n g s).2) := by
            unfold fgB
            by_cases z : sW g = 0
            · have e := hw0 z; rw [if_pos z]; exact ⟨e.symm, fun q => absurd (tkn_e (show qe (tkn b n 0 0 s) = 0 by rw [← e]; exact q)).2.2.2.2 (Nat.not_lt_zero _)⟩
            · have e := hw1 z; rw [show u = sW g from by omega] at e; rw [if_neg z]; exact e
          exact k _ x qL (by rw [ea.1]; exact mpL) (fun e => ea.2 (by rw [ea.1] at e; exact e))
        · skip
          have c3 : ¬ (sW g) ≤ u := fun q => c3 ((nI_leI (a := (sW g)) (b := u) (by omega) (by omega)).mpr q)
          refine exf_go 6 (show Go (d + 7) true 198 39 [.ref 130, .int x, .int (nI u)] [.int (10 + (nI u)), .ref 134, .int x] hL Q from ?_)
          rw [show (10 + (nI u) : Int32) = nI (10 + u) from nI_add 10 u]
          refine exf_go 1 (show vp_in (nI (10 + u)) 13841 ∧ (Go (d + 7) true 198 40 [.ref 130, .int x, .int (nI u)] [.int (rI hL 134 ((nI (10 + u)).toNatClampNeg)), .int x] hL Q) from ⟨(vp_in_nI (by omega) (by omega)), ?_⟩)
          rw [show (rI hL 134 ((nI (10 + u)).toNatClampNeg) : Int32) = nI (sF g u) from by rw [nI_clamp (by omega)]; exact ((mr_rd hg mr qL).2.1 _ (by omega)).1]
          refine exf_go 8 (show Go (d + 7) true 198 51 [.ref 130, .int x, .int (nI u)] [.int (10 + (nI u)), .ref 134, .int 0, .ref 130, .int (x * (nI (sF g u)))] hL Q from ?_)
          rw [show (10 + (nI u) : Int32) = nI (10 + u) from nI_add 10 u]
          refine exf_go 1 (show vp_in (nI (10 + u)) 13841 ∧ (Go (d + 7) true 198 52 [.ref 130, .int x, .int (nI u)] [.int (rI hL 134 ((nI (10 + u)).toNatClampNeg)), .int 0, .ref 130, .int (x * (nI (sF g u)))] hL Q) from ⟨(vp_in_nI (by omega) (by omega)), ?_⟩)
          rw [show (rI hL 134 ((nI (10 + u)).toNatClampNeg) : Int32) = nI (sF g u) from by rw [nI_clamp (by omega)]; exact ((mr_rd hg mr qL).2.1 _ (by omega)).1]
          refine exf_go 3 (show wpC (d + 7) true 195 [.ref 130, .int 0, .int ((nI (sF g u)) - 1)] hL (fun r h' => Go (d + 7) true 198 57 [.ref 130, .int x, .int (nI u)] [r, .int (x * (nI (sF g u)))] h' Q) from ?_)
          refine m_takes (lo := 0) (hh := (sF g u)) mpL (by omega) (by first | rfl | decide) (by omega) (fun h3 v3 q3 mp3 hv3 => ?_)
          have hb3 := mp_b mp3
          have iv3 := (iv_tkn (lo := 0) (hh := (sF g u)) ivL).1
          show Go (d + 7) true 198 57 [.ref 130, .int x, .int (nI u)] [.int v3, .int (x * (nI (sF g u)))] h3 Q
          refine exf_go 3 (show Go (d + 7) true 198 62 [.ref 130, .int ((x * (nI (sF g u))) + v3), .int ((nI u) + 1)] [] h3 Q from ?_)
          rw [show ((nI u) + 1 : Int32) = nI (u + 1) from nI_add u 1]
          refine exf_go 1 (show Go (d + 7) true 198 20 [.ref 130, .int ((x * (nI (sF g u))) + v3), .int (nI (u + 1))] [] h3 Q from ?_)
          have hW0 : ¬ sW g = 0 := by omega
          have hS : (fgL b n (sF g) (u + 1) s).1 = tkn b n 0 (sF g u) s1 := by show tkn b n 0 (sF g u) (fgL b n (sF g) u s).1 = _; rw [(hw1 hW0).1]
          have hX : qe (tkn b n 0 (sF g u) s1) = 0 → x * nI (sF g u) + v3 = nI (fgL b n (sF g) (u + 1) s).2 := fun e => by rw [hv3 e, (hw1 hW0).2 (tkn_e e).2.1, pk_mul, nI_add]; show _ = nI ((fgL b n (sF g) u s).2 * sF g u + vl b n (qi (fgL b n (sF g) u s).1)); rw [(hw1 hW0).1]
          exact ih20 (u + 1) _ _ h3 (by omega) (by omega) (Fq.tr qL q3) mp3 (iv3.le (Nat.zero_le _)) (fun z => absurd z hW0) (fun _ => ⟨hS, hX⟩)
    exact L20 ((sW g) + 1) 0 0 _ h2 (by omega) (by omega) q2 mp2 (iv2.le (Nat.zero_le _)) (fun _ => rfl) (fun z => absurd (show sW g = 0 by omega) z)
theorem mt_id {b : Nat → Nat} {n C f k : Nat} {s : PsG} (z : ¬ qe s = 0) : mtL b n C f s k = (s, k) := by
  rcases f with _ | f
  · rfl
  · rw [mtL, if_neg (by rw [isK_id z]; decide)]
theorem m_readMate {d : Nat} {h : Hp} {b : Nat → Nat} {n : Nat} {s : PsG} {g : ShG} {st en : Nat → Nat} {a ah : Nat} {Q : Po} (hg : ShW g) (mp : MP b n s h) (iv : IV b n 0 s) (he : qe s = 0) (hk : kd b n (qi s) = 7) (mr : MRw g st en a ah h) (k : ∀ h1, Fq sMn h h1 → MY b n (rMt b n (s, g, st, en, a, ah)) h1 → Q mk_ h1) : wpC (d + 8) true 199 [.ref 130] h Q := by
  have hb0 := mp_b mp; have hW4 := hg.1; have hC8 := hg.2.2.2.1; have hM4 := hg.2.2.2.2.2.1; have hv0 := vl_c (n := n) (i := qi s) mp.1.1.1.2
  refine go_in rfl ?_
  refine exf_go 4 (show vp_in 3 13841 ∧ (Go (d + 7) true 199 6 [.ref 130, mk_, mk_, mk_] [.int (rI h 134 3)] h Q) from ⟨(vp_in_nI (n := 3) (by decide) (by decide)), ?_⟩)
  rw [show (rI h 134 3 : Int32) = nI (sM g) from mr.1.2.2.2.1]
  refine exf_go 4 (show (¬ (nI (sM g)) = 4 → Go (d + 7) true 199 17 [.ref 130, .int (nI (sM g)), mk_, mk_] [] h Q) ∧ (¬ (¬ (nI (sM g)) = 4) → Go (d + 7) true 199 12 [.ref 130, .int (nI (sM g)), mk_, mk_] [] h Q) from ⟨fun c1 => ?_, fun c1 => ?_⟩)
  · skip
    have c1 : ¬ (sM g) = 4 := fun q => c1 ((nI_eq (a := (sM g)) (b := 4) (by omega) (by omega)).mpr q)
    refine exf_go 2 (show Go (d + 7) true 199 21 [.ref 130, .int (nI (sM g)), mk_, mk_] [.int (rI h 130 11)] h Q from ?_)
    rw [show (rI h 130 11 : Int32) = nI (qe s) from mp.2.2.1.1]
    refine exf_go 1 (show ((nI (qe s)) = 0 → Go (d + 7) true 199 25 [.ref 130, .int (nI (sM g)), mk_, mk_] [] h Q) ∧ (¬ ((nI (qe s)) = 0) → Go (d + 7) true 199 24 [.ref 130, .int (nI (sM g)), mk_, mk_] [] h Q) from ⟨fun c2 => ?_, fun c2 => ?_⟩)
    · skip
      have c2 : (qe s) = 0 := (nI_eq (a := (qe s)) (b := 0) (by omega) (by omega)).mp c2
      refine exf_go 2 (show wpC (d + 7) true 191 [.ref 130] h (fun _ h' => Go (d + 7) true 199 29 [.ref 130, .int (nI (sM g)), mk_, mk_] [] h' Q) from ?_)
      refine m_nx mp (fun h1 q1 mp1 => ?_)
      have hb1 := mp_b mp1
      have hz1 := qe_nx s; have hi1 := qi_nx s
      have iv1 := iv_nx iv (by omega)
      show Go (d + 7) true 199 29 [.ref 130, .int (nI (sM g)), mk_, mk_] [] h1 Q
      refine exf_go 2 (show Go (d + 7) true 199 31 [.ref 130, .int (nI (sM g)), .int 0, mk_] [] h1 Q from ?_)
      have L31 : ∀ (k31 : Nat) (z3 : Value) (fu x : Nat) (s1 : PsG) (hL : Hp), fu < k31 → (Fq sRd h hL) → (MP b n s1 hL) → (IV b n 0 s1) → (qe s1 = 0 → 900 ≤ qi s1 + fu) → (mtA b n g s = mtL b n (sC g) fu s1 x) → Go (d + 7) true 199 31 [.ref 130, .int (nI (sM g)), .int (nI x), z3] [] hL Q := by
        intro k31
        induction k31 with
        | zero => intro z3 fu x s1 hL hk; exact absurd hk (Nat.not_lt_zero _)
        | succ k31 ih31 =>
          intro z3 fu x s1 hL hk qL mpL ivL hfu hwh
          have hbL := mp_b mpL
          refine exf_go 3 (show wpC (d + 7) true 193 [.ref 130, .int 21] hL (fun r h' => Go (d + 7) true 199 37 [.ref 130, .int (nI (sM g)), .int (nI x), z3] [r] h' Q) from ?_)
          refine m_is (k := 21) mpL (by omega) (fun K37 => ?_) (fun K37 => ?_)
          · skip
            have K37e := isK_e K37
            show Go (d + 7) true 199 37 [.ref 130, .int (nI (sM g)), .int (nI x), z3] [.int 1] hL Q
            refine exf_go 1 (show ((1 : Int32) = 0 → Go (d + 7) true 199 70 [.ref 130, .int (nI (sM g)), .int (nI x), z3] [] hL Q) ∧ (¬ ((1 : Int32) = 0) → Go (d + 7) true 199 40 [.ref 130, .int (nI (sM g)), .int (nI x), z3] [] hL Q) from ⟨fun c3 => ?_, fun c3 => ?_⟩)
            · skip
              exact absurd c3 (by decide)
            · skip
              refine exf_go 6 (show vp_in 2 13841 ∧ (Go (d + 7) true 199 48 [.ref 130, .int (nI (sM g)), .int (nI x), z3] [.int (rI hL 134 2), .int 0, .ref 130] hL Q) from ⟨(vp_in_nI (n := 2) (by decide) (by decide)), ?_⟩)
              rw [show (rI hL 134 2 : Int32) = nI (sC g) from (mr_rd hg mr qL).1.2.2.1]
              refine exf_go 3 (show wpC (d + 7) true 195 [.ref 130, .int 0, .int ((nI (sC g)) - 1)] hL (fun r h' => Go (d + 7) true 199 53 [.ref 130, .int (nI (sM g)), .int (nI x), z3] [r] h' Q) from ?_)
              refine m_takes (lo := 0) (hh := (sC g)) mpL (by omega) (by first | rfl | decide) (by omega) (fun h2 v2 q2 mp2 hv2 => ?_)
              have hb2 := mp_b mp2
              have iv2 := (iv_tkn (lo := 0) (hh := (sC g)) ivL).1
              show Go (d + 7) true 199 53 [.ref 130, .int (nI (sM g)), .int (nI x), z3] [.int v2] h2 Q
              refine exf_go 3 (show Go (d + 7) true 199 58 [.ref 130, .int (nI (sM g)), .int (nI x), .int v2] [.int (rI h2 130 11)] h2 Q from ?_)
              rw [show (rI h2 130 11 : Int32) = nI (qe (tkn b n 0 (sC g) s1)) from mp2.2.2.1.1]
              refine exf_go 1 (show (¬ (nI (qe (tkn b n 0 (sC g) s1))) = 0 → Go (d + 7) true 199 67 [.ref 130, .int (nI (sM g)), .int (nI x), .int v2] [] h2 Q) ∧ (¬ (¬ (nI (qe (tkn b n 0 (sC g) s1))) = 0) → Go (d + 7) true 199 61 [.ref 130, .int (nI (sM g)), .int (nI x), .int v2] [] h2 Q) from ⟨fun c4 => ?_, fun c4 => ?_⟩)
              · skip
                have c4 : ¬ (qe (tkn b n 0 (sC g) s1)) = 0 := fun q => c4 ((nI_eq (a := (qe (tkn b n 0 (sC g) s1))) (b := 0) (by omega) (by omega)).mpr q)
                have z9 : ¬ qe (tkn b n 0 (sC g) s1) = 0 := by omega
                refine exf_go 1 (show Go (d + 7) true 199 31 [.ref 130, .int (nI (sM g)), .int (nI x), .int v2] [] h2 Q from ?_)
                have hlt := iv_lt ivL (by omega); have hfu1 := hfu K37e.1
                exact ih31 (.int v2) (fu - 1) _ _ h2 (by omega) (Fq.tr qL q2) mp2 (iv2.le (Nat.zero_le _)) (fun e => absurd e z9) (by rw [hwh, mt_f (by omega) K37e.1 K37e.2 z9]; exact (mt_id z9).symm)
              · skip
                have c4 : (qe (tkn b n 0 (sC g) s1)) = 0 := (nI_eq (a := (qe (tkn b n 0 (sC g) s1))) (b := 0) (by omega) (by omega)).mp (Classical.not_not.mp c4)
                have z9 : qe (tkn b n 0 (sC g) s1) = 0 := by omega
                have hv9 := hv2 z9; have hlt9 := (tkn_e z9).2.2.2.2
                subst hv9
                refine exf_go 4 (show Go (d + 7) true 199 65 [.ref 130, .int (nI (sM g)), .int (nI x), .int (nI (vl b n (qi s1)))] [.int (1 <<< ((nI (vl b n (qi s1))) &&& 31)), .int (nI x)] h2 Q from ?_)
                rw [show (1 <<< ((nI (vl b n (qi s1))) &&& 31) : Int32) = nI (2 ^ (vl b n (qi s1))) from nI_1shl (k := (vl b n (qi s1))) (by omega)]
                refine exf_go 1 (show Go (d + 7) true 199 66 [.ref 130, .int (nI (sM g)), .int (nI x), .int (nI (vl b n (qi s1)))] [.int ((nI x) ||| (nI (2 ^ (vl b n (qi s1)))))] h2 Q from ?_)
                rw [show ((nI x) ||| (nI (2 ^ (vl b n (qi s1)))) : Int32) = nI (x ||| (2 ^ (vl b n (qi s1)))) from nI_or x (2 ^ (vl b n (qi s1)))]
                refine exf_go 2 (show Go (d + 7) true 199 31 [.ref 130, .int (nI (sM g)), .int (nI (x ||| (2 ^ (vl b n (qi s1))))), .int (nI (vl b n (qi s1)))] [] h2 Q from ?_)
                have hlt := iv_lt ivL (by omega); have hfu1 := hfu K37e.1
                have e9 := (tkn_e z9).1; have hq9 : qi (tkn b n 0 (sC g) s1) = qi s1 + 1 := by rw [e9]; rfl
                exact ih31 (.int (nI (vl b n (qi s1)))) (fu - 1) _ _ h2 (by omega) (Fq.tr qL q2) mp2 (iv2.le (Nat.zero_le _)) (fun _ => by omega) (by rw [hwh, e9]; exact mt_y (by omega) K37e.1 K37e.2 e9)
          · skip
            have K37n := isK_x K37
            show Go (d + 7) true 199 37 [.ref 130, .int (nI (sM g)), .int (nI x), z3] [.int 0] hL Q
            refine exf_go 1 (show ((0 : Int32) = 0 → Go (d + 7) true 199 70 [.ref 130, .int (nI (sM g)), .int (nI x), z3] [] hL Q) ∧ (¬ ((0 : Int32) = 0) → Go (d + 7) true 199 40 [.ref 130, .int (nI (sM g)), .int (nI x), z3] [] hL Q) from ⟨fun c5 => ?_, fun c5 => ?_⟩)
            · skip
              refine exf_go 2 (show Go (d + 7) true 199 74 [.ref 130, .int (nI (sM g)), .int (nI x), z3] [.int (rI hL 130 11)] hL Q from ?_)
              rw [show (rI hL 130 11 : Int32) = nI (qe s1) from mpL.2.2.1.1]
              refine exf_go 1 (show ((nI (qe s1)) = 0 → Go (d + 7) true 199 78 [.ref 130, .int (nI (sM g)), .int (nI x), z3] [] hL Q) ∧ (¬ ((nI (qe s1)) = 0) → Go (d + 7) true 199 77 [.ref 130, .int (nI (sM g)), .int (nI x), z3] [] hL Q) from ⟨fun c6 => ?_, fun c6 => ?_⟩)
              · skip
                have c6 : (qe s1) = 0 := (nI_eq (a := (qe s1)) (b := 0) (by omega) (by omega)).mp c6
                refine exf_go 5 (show Go (d + 7) true 199 86 [.ref 130, .int (nI (sM g)), .int (nI x), z3] [.int (46 + (nI (sM g))), .ref 134] hL Q from ?_)
                rw [show (46 + (nI (sM g)) : Int32) = nI (46 + (sM g)) from nI_add 46 (sM g)]
                refine exf_go 2 (show vp_in (nI (46 + (sM g))) 13841 ∧ (Go (d + 7) true 199 88 [.ref 130, .int (nI (sM g)), .int (nI x), z3] [] (uI hL 134 ((nI (46 + (sM g))).toNatClampNeg) (nI x)) Q) from ⟨(vp_in_nI (by omega) (by omega)), ?_⟩)
                rw [nI_clamp (n := 46 + (sM g)) (by omega)]
                have qD : Fq sMl hL (uI hL 134 (46 + (sM g)) (nI x)) := (Fq.rfl'.uI' _ _ _ (sMl_t (by omega)))
                have rdD : ∀ i, i ≠ 46 + (sM g) → rI (uI hL 134 (46 + (sM g)) (nI x)) 134 i = rI hL 134 i := fun i i0 => by rw [rI_uI_at i0]
                have eD0 : rI (uI hL 134 (46 + (sM g)) (nI x)) 134 (46 + (sM g)) = nI x := by exact rI_uI_eq
                have fD : ∀ i, rI (uI hL 134 (46 + (sM g)) (nI x)) 130 i = rI hL 130 i := fun _ => rfl
                generalize hgD : uI hL 134 (46 + (sM g)) (nI x) = hD at qD rdD fD eD0 ⊢
                refine exf_go 5 (show vp_in 3 13841 ∧ (Go (d + 7) true 199 95 [.ref 130, .int (nI (sM g)), .int (nI x), z3] [.int (rI hD 134 3), .int 3, .ref 134] hD Q) from ⟨(vp_in_nI (n := 3) (by decide) (by decide)), ?_⟩)
                rw [show (rI hD 134 3 : Int32) = nI (sM g) from (rdD 3 (by omega)).trans (mr_rd hg mr qL).1.2.2.2.1]
                refine exf_go 2 (show Go (d + 7) true 199 97 [.ref 130, .int (nI (sM g)), .int (nI x), z3] [.int ((nI (sM g)) + 1), .int 3, .ref 134] hD Q from ?_)
                rw [show ((nI (sM g)) + 1 : Int32) = nI ((sM g) + 1) from nI_add (sM g) 1]
                refine exf_go 2 (show vp_in 3 13841 ∧ Q (mk_) (uI hD 134 3 (nI ((sM g) + 1))) from ⟨(vp_in_nI (n := 3) (by decide) (by decide)), ?_⟩)
                have hnk : ¬ kd b n (qi s1) = 21 := by omega
                have ea : rMt b n (s, g, st, en, a, ah) = (s1, gMt g x, st, en, a, ah) := rM_ok (show ¬ sM g = 4 by omega) (hwh.trans (mt_n (Or.inr hnk))) (by omega)
                have mX := mr_rd hg mr qL
                have qF : Fq sMl hD (uI hD 134 3 (nI (sM g + 1))) := Fq.rfl'.uI' _ _ _ rfl
                have rd : ∀ i, i ≠ 46 + sM g → i ≠ 3 → rI (uI hD 134 3 (nI (sM g + 1))) 134 i = rI hL 134 i := fun i i1 i2 => by rw [rI_uI_at i2, rdD i i1]
                rw [ea] at k; refine k _ (Fq.tr (qL.mono sRd_M) ((qD.tr qF).mono sMl_M)) ⟨mp_o mpL (qD.tr qF), fun _ => ?_⟩
                obtain ⟨⟨m0, m1, m2, m3, m4, m5, m6, m7, m8, m9, m10, m11⟩, mw, mc, mm, mz⟩ := mX
                refine ⟨⟨(rd 0 (by omega) (by omega)).trans m0, (rd 1 (by omega) (by omega)).trans m1, (rd 2 (by omega) (by omega)).trans m2, rfl, (rd 4 (by omega) (by omega)).trans m4, (rd 5 (by omega) (by omega)).trans m5, (rd 6 (by omega) (by omega)).trans m6, (rd 7 (by omega) (by omega)).trans m7, (rd 8 (by omega) (by omega)).trans m8, (rd 9 (by omega) (by omega)).trans m9, (rd 50 (by omega) (by omega)).trans m10, (fD 15).trans m11⟩, fun w hw => ?_, fun c hc => ?_, fun m hm => ?_, fun i i1 i2 => (rd i (by omega) (by omega)).trans (mz i i1 i2)⟩
                · have hw : w < sW g := hw
                  rw [rd _ (by omega) (by omega), rd _ (by omega) (by omega), rd _ (by omega) (by omega)]; exact mw w hw
                · have hc : c < sC g := hc
                  rw [rd _ (by omega) (by omega), rd _ (by omega) (by omega), rd _ (by omega) (by omega)]; exact mc c hc
                · have hm : m < sM g + 1 := hm
                  show _ = nI (va_up (sK g) (sM g) x m)
                  by_cases e : m = sM g
                  · rw [e, va_up_s, rI_uI_at (by omega)]; exact eD0
                  · rw [va_up_n e, rd _ (by omega) (by omega)]; exact mm m (by omega)
              · skip
                have c6 : ¬ (qe s1) = 0 := fun q => c6 ((nI_eq (a := (qe s1)) (b := 0) (by omega) (by omega)).mpr q)
                refine exf_go 1 (show Q (mk_) hL from ?_)
                have ea : rMt b n (s, g, st, en, a, ah) = (s1, g, st, en, a, ah) := rM_no (x := x) (show ¬ sM g = 4 by omega) (hwh.trans (mt_id (by omega))) (by omega)
                rw [ea] at k; exact k _ (qL.mono sRd_M) ⟨mpL, fun z => absurd z (show ¬ qe s1 = 0 by omega)⟩
            · skip
              exact absurd (by decide) c5
      exact L31 (900 + 1) mk_ 900 0 _ h1 (by omega) q1 mp1 (iv1.le (Nat.zero_le _)) (fun _ => by omega) rfl
    · skip
      have c2 : ¬ (qe s) = 0 := fun q => c2 ((nI_eq (a := (qe s)) (b := 0) (by omega) (by omega)).mpr q)
      exfalso; omega
  · skip
    have c1 : (sM g) = 4 := (nI_eq (a := (sM g)) (b := 4) (by omega) (by omega)).mp (Classical.not_not.mp c1)
    refine exf_go 3 (show wpC (d + 7) true 192 [.ref 130, .int 4] h (fun _ h' => Go (d + 7) true 199 17 [.ref 130, .int (nI (sM g)), mk_, mk_] [] h' Q) from ?_)
    refine m_fails (w := 4) mp (by omega) (fun h3 q3 mp3 => ?_)
    have hb3 := mp_b mp3
    have hz3 : ¬ qe (fl b n 4 s) = 0 := fl_ne (by omega)
    have iv3 : IV b n 0 (fl b n 4 s) := iv_fl2 iv (by decide)
    show Go (d + 7) true 199 17 [.ref 130, .int (nI (sM g)), mk_, mk_] [] h3 Q
    refine exf_go 2 (show Go (d + 7) true 199 21 [.ref 130, .int (nI (sM g)), mk_, mk_] [.int (rI h3 130 11)] h3 Q from ?_)
    rw [show (rI h3 130 11 : Int32) = nI (qe (fl b n 4 s)) from mp3.2.2.1.1]
    refine exf_go 1 (show ((nI (qe (fl b n 4 s))) = 0 → Go (d + 7) true 199 25 [.ref 130, .int (nI (sM g)), mk_, mk_] [] h3 Q) ∧ (¬ ((nI (qe (fl b n 4 s))) = 0) → Go (d + 7) true 199 24 [.ref 130, .int (nI (sM g)), mk_, mk_] [] h3 Q) from ⟨fun c7 => ?_, fun c7 => ?_⟩)
    · skip
      have c7 : (qe (fl b n 4 s)) = 0 := (nI_eq (a := (qe (fl b n 4 s))) (b := 0) (by omega) (by omega)).mp c7
      exfalso; omega
    · skip
      have c7 : ¬ (qe (fl b n 4 s)) = 0 := fun q => c7 ((nI_eq (a := (qe (fl b n 4 s))) (b := 0) (by omega) (by omega)).mpr q)
      refine exf_go 1 (show Q (mk_) h3 from ?_)
      have ea : rMt b n (s, g, st, en, a, ah) = ((fl b n 4 s), g, st, en, a, ah) := if_pos (show sM g = 4 by omega)
      rw [ea] at k; exact k _ (q3.mono sRd_M) ⟨mp3, fun z => absurd z (show ¬ qe (fl b n 4 s) = 0 by omega)⟩
theorem m_readClue {d : Nat} {h : Hp} {b : Nat → Nat} {n : Nat} {s : PsG} {g : ShG} {st en : Nat → Nat} {a ah : Nat} {Q : Po} (hg : ShW g) (mp : MP b n s h) (iv : IV b n 0 s) (he : qe s = 0) (hk : kd b n (qi s) = 3) (mr : MRw g st en a ah h) (k : ∀ h1, Fq sMn h h1 → MY b n (rCl b n (s, g, st, en, a, ah)) h1 → Q mk_ h1) : wpC (d + 32) true 208 [.ref 130] h Q := by
  have hb0 := mp_b mp; have hW4 := hg.1; have hC8 := hg.2.2.2.1; have hM4 := hg.2.2.2.2.2.1; have hv0 := vl_c (n := n) (i := qi s) mp.1.1.1.2
  refine go_in rfl ?_
  refine exf_go 4 (show vp_in 2 13841 ∧ (Go (d + 31) true 208 6 [.ref 130, mk_, mk_, mk_] [.int (rI h 134 2)] h Q) from ⟨(vp_in_nI (n := 2) (by decide) (by decide)), ?_⟩)
  rw [show (rI h 134 2 : Int32) = nI (sC g) from mr.1.2.2.1]
  refine exf_go 4 (show (¬ (nI (sC g)) = 8 → Go (d + 31) true 208 18 [.ref 130, .int (nI (sC g)), mk_, mk_] [] h Q) ∧ (¬ (¬ (nI (sC g)) = 8) → Go (d + 31) true 208 13 [.ref 130, .int (nI (sC g)), mk_, mk_] [] h Q) from ⟨fun c1 => ?_, fun c1 => ?_⟩)
  · skip
    have c1 : ¬ (sC g) = 8 := fun q => c1 ((nI_eq (a := (sC g)) (b := 8) (by omega) (by omega)).mpr q)
    refine exf_go 2 (show Go (d + 31) true 208 22 [.ref 130, .int (nI (sC g)), mk_, mk_] [.int (rI h 130 11)] h Q from ?_)
    rw [show (rI h 130 11 : Int32) = nI (qe s) from mp.2.2.1.1]
    refine exf_go 1 (show ((nI (qe s)) = 0 → Go (d + 31) true 208 26 [.ref 130, .int (nI (sC g)), mk_, mk_] [] h Q) ∧ (¬ ((nI (qe s)) = 0) → Go (d + 31) true 208 25 [.ref 130, .int (nI (sC g)), mk_, mk_] [] h Q) from ⟨fun c2 => ?_, fun c2 => ?_⟩)
    · skip
      have c2 : (qe s) = 0 := (nI_eq (a := (qe s)) (b := 0) (by omega) (by omega)).mp c2
      refine exf_go 2 (show wpC (d + 31) true 191 [.ref 130] h (fun _ h' => Go (d + 31) true 208 30 [.ref 130, .int (nI (sC g)), mk_, mk_] [] h' Q) from ?_)
      refine m_nx mp (fun h1 q1 mp1 => ?_)
      have hb1 := mp_b mp1
      have hz1 := qe_nx s; have hi1 := qi_nx s
      have iv1 := iv_nx iv (by omega)
      show Go (d + 31) true 208 30 [.ref 130, .int (nI (sC g)), mk_, mk_] [] h1 Q
      refine exf_go 4 (show wpC (d + 31) true 195 [.ref 130, .int 0, .int 10] h1 (fun r h' => Go (d + 31) true 208 37 [.ref 130, .int (nI (sC g)), mk_, mk_] [r] h' Q) from ?_)
      refine m_takes (lo := 0) (hh := 11) mp1 (by omega) (by first | rfl | decide) (by omega) (fun h2 v2 q2 mp2 hv2 => ?_)
      have hb2 := mp_b mp2
      have iv2 := (iv_tkn (lo := 0) (hh := 11) iv1).1
      show Go (d + 31) true 208 37 [.ref 130, .int (nI (sC g)), mk_, mk_] [.int v2] h2 Q
      refine exf_go 4 (show wpC (d + 31) true 194 [.ref 130, .int 26] h2 (fun r h' => Go (d + 31) true 208 44 [.ref 130, .int (nI (sC g)), .int v2, mk_] [r] h' Q) from ?_)
      refine m_eats (k := 26) mp2 (by omega) (fun K44 h3 q3 mp3 => ?_) (fun K44 => ?_)
      · skip
        have K44e := isK_e K44
        have hb3 := mp_b mp3
        have hz3 := qe_nx (tkn b n 0 11 (nx s)); have hi3 := qi_nx (tkn b n 0 11 (nx s))
        have iv3 := iv_nx iv2 (by omega)
        have hlt3 := iv_lt iv2 (by omega)
        show Go (d + 31) true 208 44 [.ref 130, .int (nI (sC g)), .int v2, mk_] [.int 1] h3 Q
        refine exf_go 1 (show (¬ (1 : Int32) = 0 → Go (d + 31) true 208 52 [.ref 130, .int (nI (sC g)), .int v2, mk_] [] h3 Q) ∧ (¬ (¬ (1 : Int32) = 0) → Go (d + 31) true 208 47 [.ref 130, .int (nI (sC g)), .int v2, mk_] [] h3 Q) from ⟨fun c3 => ?_, fun c3 => ?_⟩)
        · skip
          refine exf_go 4 (show vp_in 2940 13841 ∧ (Go (d + 31) true 208 60 [.ref 130, .int (nI (sC g)), .int v2, mk_] [.int (rI h3 134 2940)] h3 Q) from ⟨(vp_in_nI (n := 2940) (by decide) (by decide)), ?_⟩)
          rw [show (rI h3 134 2940 : Int32) = nI (qn (nx (tkn b n 0 11 (nx s)))) from mp3.2.2.2.1]
          refine exf_go 4 (show wpC (d + 31) true 207 [.ref 130, .int 0] h3 (fun _ h' => Go (d + 31) true 208 66 [.ref 130, .int (nI (sC g)), .int v2, .int (nI (qn (nx (tkn b n 0 11 (nx s)))))] [] h' Q) from ?_)
          refine (m_trL hg.1 _) _ _ _ mp3 (iv3.le (Nat.zero_le _)) ((mr_rd hg mr (Fq.tr (Fq.tr q1 q2) q3)).1.2.1) (fun h4 q4 mp4 => ?_)
          have hb4 := mp_b mp4
          have gg4 := gd_trL b n (sW g) 6 _ _ iv3; have iv4 := gg4.1
          show Go (d + 31) true 208 66 [.ref 130, .int (nI (sC g)), .int v2, .int (nI (qn (nx (tkn b n 0 11 (nx s)))))] [] h4 Q
          refine exf_go 2 (show Go (d + 31) true 208 70 [.ref 130, .int (nI (sC g)), .int v2, .int (nI (qn (nx (tkn b n 0 11 (nx s)))))] [.int (rI h4 130 11)] h4 Q from ?_)
          rw [show (rI h4 130 11 : Int32) = nI (qe (trL b n (sW g) 6 (nx (tkn b n 0 11 (nx s))))) from mp4.2.2.1.1]
          refine exf_go 1 (show ((nI (qe (trL b n (sW g) 6 (nx (tkn b n 0 11 (nx s)))))) = 0 → Go (d + 31) true 208 74 [.ref 130, .int (nI (sC g)), .int v2, .int (nI (qn (nx (tkn b n 0 11 (nx s)))))] [] h4 Q) ∧ (¬ ((nI (qe (trL b n (sW g) 6 (nx (tkn b n 0 11 (nx s)))))) = 0) → Go (d + 31) true 208 73 [.ref 130, .int (nI (sC g)), .int v2, .int (nI (qn (nx (tkn b n 0 11 (nx s)))))] [] h4 Q) from ⟨fun c4 => ?_, fun c4 => ?_⟩)
          · skip
            have c4 : (qe (trL b n (sW g) 6 (nx (tkn b n 0 11 (nx s))))) = 0 := (nI_eq (a := (qe (trL b n (sW g) 6 (nx (tkn b n 0 11 (nx s)))))) (b := 0) (by omega) (by omega)).mp c4
            refine exf_go 5 (show Go (d + 31) true 208 82 [.ref 130, .int (nI (sC g)), .int v2, .int (nI (qn (nx (tkn b n 0 11 (nx s)))))] [.int (22 + (nI (sC g))), .ref 134] h4 Q from ?_)
            rw [show (22 + (nI (sC g)) : Int32) = nI (22 + (sC g)) from nI_add 22 (sC g)]
            refine exf_go 7 (show vp_in (nI (22 + (sC g))) 13841 ∧ (Go (d + 31) true 208 92 [.ref 130, .int (nI (sC g)), .int v2, .int (nI (qn (nx (tkn b n 0 11 (nx s)))))] [.int (30 + (nI (sC g))), .ref 134] (uI h4 134 ((nI (22 + (sC g))).toNatClampNeg) v2) Q) from ⟨(vp_in_nI (by omega) (by omega)), ?_⟩)
            rw [show (30 + (nI (sC g)) : Int32) = nI (30 + (sC g)) from nI_add 30 (sC g)]
            refine exf_go 2 (show vp_in (nI (30 + (sC g))) 13841 ∧ (Go (d + 31) true 208 94 [.ref 130, .int (nI (sC g)), .int v2, .int (nI (qn (nx (tkn b n 0 11 (nx s)))))] [] (uI (uI h4 134 ((nI (22 + (sC g))).toNatClampNeg) v2) 134 ((nI (30 + (sC g))).toNatClampNeg) (nI (qn (nx (tkn b n 0 11 (nx s)))))) Q) from ⟨(vp_in_nI (by omega) (by omega)), ?_⟩)
            rw [nI_clamp (n := 22 + (sC g)) (by omega), nI_clamp (n := 30 + (sC g)) (by omega)]
            have qA : Fq sMl h4 (uI (uI h4 134 (22 + (sC g)) v2) 134 (30 + (sC g)) (nI (qn (nx (tkn b n 0 11 (nx s)))))) := ((Fq.rfl'.uI' _ _ _ (sMl_t (by omega))).uI' _ _ _ (sMl_t (by omega)))
            have rdA : ∀ i, i ≠ 22 + (sC g) → i ≠ 30 + (sC g) → rI (uI (uI h4 134 (22 + (sC g)) v2) 134 (30 + (sC g)) (nI (qn (nx (tkn b n 0 11 (nx s)))))) 134 i = rI h4 134 i := fun i i0 i1 => by rw [rI_uI_at i1, rI_uI_at i0]
            have eA0 : rI (uI (uI h4 134 (22 + (sC g)) v2) 134 (30 + (sC g)) (nI (qn (nx (tkn b n 0 11 (nx s)))))) 134 (22 + (sC g)) = v2 := by rw [rI_uI_at (by omega)]; exact rI_uI_eq
            have eA1 : rI (uI (uI h4 134 (22 + (sC g)) v2) 134 (30 + (sC g)) (nI (qn (nx (tkn b n 0 11 (nx s)))))) 134 (30 + (sC g)) = nI (qn (nx (tkn b n 0 11 (nx s)))) := by exact rI_uI_eq
            have fA : ∀ i, rI (uI (uI h4 134 (22 + (sC g)) v2) 134 (30 + (sC g)) (nI (qn (nx (tkn b n 0 11 (nx s)))))) 130 i = rI h4 130 i := fun _ => rfl
            generalize hgA : uI (uI h4 134 (22 + (sC g)) v2) 134 (30 + (sC g)) (nI (qn (nx (tkn b n 0 11 (nx s))))) = hA at qA rdA fA eA0 eA1 ⊢
            refine exf_go 5 (show Go (d + 31) true 208 102 [.ref 130, .int (nI (sC g)), .int v2, .int (nI (qn (nx (tkn b n 0 11 (nx s)))))] [.int (38 + (nI (sC g))), .ref 134] hA Q from ?_)
            rw [show (38 + (nI (sC g)) : Int32) = nI (38 + (sC g)) from nI_add 38 (sC g)]
            refine exf_go 4 (show vp_in 2940 13841 ∧ (Go (d + 31) true 208 110 [.ref 130, .int (nI (sC g)), .int v2, .int (nI (qn (nx (tkn b n 0 11 (nx s)))))] [.int (rI hA 134 2940), .int (nI (38 + (sC g))), .ref 134] hA Q) from ⟨(vp_in_nI (n := 2940) (by decide) (by decide)), ?_⟩)
            rw [show (rI hA 134 2940 : Int32) = nI (qn (trL b n (sW g) 6 (nx (tkn b n 0 11 (nx s))))) from (rdA 2940 (by omega) (by omega)).trans mp4.2.2.2.1]
            refine exf_go 2 (show Go (d + 31) true 208 112 [.ref 130, .int (nI (sC g)), .int v2, .int (nI (qn (nx (tkn b n 0 11 (nx s)))))] [.int ((nI (qn (trL b n (sW g) 6 (nx (tkn b n 0 11 (nx s)))))) - (nI (qn (nx (tkn b n 0 11 (nx s)))))), .int (nI (38 + (sC g))), .ref 134] hA Q from ?_)
            rw [show ((nI (qn (trL b n (sW g) 6 (nx (tkn b n 0 11 (nx s)))))) - (nI (qn (nx (tkn b n 0 11 (nx s))))) : Int32) = nI (qn (trL b n (sW g) 6 (nx (tkn b n 0 11 (nx s)))) - qn (nx (tkn b n 0 11 (nx s)))) from pk_sub (a := qn (trL b n (sW g) 6 (nx (tkn b n 0 11 (nx s))))) (b := qn (nx (tkn b n 0 11 (nx s)))) (ty_trL hg.1 _ (by omega)).1.2.1]
            refine exf_go 1 (show vp_in (nI (38 + (sC g))) 13841 ∧ (Go (d + 31) true 208 113 [.ref 130, .int (nI (sC g)), .int v2, .int (nI (qn (nx (tkn b n 0 11 (nx s)))))] [] (uI hA 134 ((nI (38 + (sC g))).toNatClampNeg) (nI (qn (trL b n (sW g) 6 (nx (tkn b n 0 11 (nx s)))) - qn (nx (tkn b n 0 11 (nx s)))))) Q) from ⟨(vp_in_nI (by omega) (by omega)), ?_⟩)
            rw [nI_clamp (n := 38 + (sC g)) (by omega)]
            have qB : Fq sMl hA (uI hA 134 (38 + (sC g)) (nI (qn (trL b n (sW g) 6 (nx (tkn b n 0 11 (nx s)))) - qn (nx (tkn b n 0 11 (nx s)))))) := (Fq.rfl'.uI' _ _ _ (sMl_t (by omega)))
            have rdB : ∀ i, i ≠ 38 + (sC g) → rI (uI hA 134 (38 + (sC g)) (nI (qn (trL b n (sW g) 6 (nx (tkn b n 0 11 (nx s)))) - qn (nx (tkn b n 0 11 (nx s)))))) 134 i = rI hA 134 i := fun i i0 => by rw [rI_uI_at i0]
            have eB0 : rI (uI hA 134 (38 + (sC g)) (nI (qn (trL b n (sW g) 6 (nx (tkn b n 0 11 (nx s)))) - qn (nx (tkn b n 0 11 (nx s)))))) 134 (38 + (sC g)) = nI (qn (trL b n (sW g) 6 (nx (tkn b n 0 11 (nx s)))) - qn (nx (tkn b n 0 11 (nx s)))) := by exact rI_uI_eq
            have fB : ∀ i, rI (uI hA 134 (38 + (sC g)) (nI (qn (trL b n (sW g) 6 (nx (tkn b n 0 11 (nx s)))) - qn (nx (tkn b n 0 11 (nx s)))))) 130 i = rI hA 130 i := fun _ => rfl
            generalize hgB : uI hA 134 (38 + (sC g)) (nI (qn (trL b n (sW g) 6 (nx (tkn b n 0 11 (nx s)))) - qn (nx (tkn b n 0 11 (nx s))))) = hB at qB rdB fB eB0 ⊢
            refine exf_go 5 (show vp_in 2 13841 ∧ (Go (d + 31) true 208 120 [.ref 130, .int (nI (sC g)), .int v2, .int (nI (qn (nx (tkn b n 0 11 (nx s)))))] [.int (rI hB 134 2), .int 2, .ref 134] hB Q) from ⟨(vp_in_nI (n := 2) (by decide) (by decide)), ?_⟩)
            rw [show (rI hB 134 2 : Int32) = nI (sC g) from (rdB 2 (by omega)).trans ((rdA 2 (by omega) (by omega)).trans (mr_rd hg mr (Fq.tr (Fq.tr (Fq.tr q1 q2) q3) q4)).1.2.2.1)]
            refine exf_go 2 (show Go (d + 31) true 208 122 [.ref 130, .int (nI (sC g)), .int v2, .int (nI (qn (nx (tkn b n 0 11 (nx s)))))] [.int ((nI (sC g)) + 1), .int 2, .ref 134] hB Q from ?_)
            rw [show ((nI (sC g)) + 1 : Int32) = nI ((sC g) + 1) from nI_add (sC g) 1]
            refine exf_go 5 (show vp_in 2 13841 ∧ ((1 : Int32) = 0 ∨ (1 : Int32) = 1) ∧ Q (mk_) (uI (uI hB 134 2 (nI ((sC g) + 1))) 130 15 1) from ⟨(vp_in_nI (n := 2) (by decide) (by decide)), (by first | exact Or.inl rfl | exact Or.inr rfl | assumption), ?_⟩)
            have eB : clB b n g s = (trL b n (sW g) 6 (nx (tkn b n 0 11 (nx s)))) := by unfold clB clA; rw [show eat b n 26 (tkn b n 0 11 (nx s)) = nx (tkn b n 0 11 (nx s)) from if_pos K44]
            have z3 : qe (trL b n (sW g) 6 (nx (tkn b n 0 11 (nx s)))) = 0 := by omega
            have ea : rCl b n (s, g, st, en, a, ah) = ((trL b n (sW g) 6 (nx (tkn b n 0 11 (nx s)))), gCl g (vl b n (qi s + 1)), va_up st (sC g) (qn s), va_up en (sC g) (qn (trL b n (sW g) 6 (nx (tkn b n 0 11 (nx s))))), a, 1) := rC_ok (show ¬ sC g = 8 by omega) eB z3
            have z1 : qe (tkn b n 0 11 (nx s)) = 0 := K44e.1
            have hw1 := hv2 z1; rw [qi_nx] at hw1
            have mX := (mr_rd hg mr (Fq.tr (Fq.tr (Fq.tr q1 q2) q3) q4))
            rw [hw1] at eA0
            have qF : Fq sMl hB (uI (uI hB 134 2 (nI (sC g + 1))) 130 15 1) := (Fq.rfl'.uI' _ _ _ rfl).uI' _ _ _ rfl
            have rd : ∀ i, i ≠ 22 + sC g → i ≠ 30 + sC g → i ≠ 38 + sC g → i ≠ 2 → rI (uI (uI hB 134 2 (nI (sC g + 1))) 130 15 1) 134 i = rI h4 134 i := fun i i1 i2 i3 i4 => (rI_uI_at (a := 134) i4).trans ((rdB i i3).trans (rdA i i1 i2))
            have hqn : qn (nx (tkn b n 0 11 (nx s))) = qn s := (qn_tkn b n 0 11 (nx s)).1
            rw [ea] at k; refine k _ (Fq.tr ((Fq.tr (Fq.tr (Fq.tr q1 q2) q3) q4).mono sRd_M) (((qA.tr qB).tr qF).mono sMl_M)) ⟨mp_o mp4 ((qA.tr qB).tr qF), fun _ => ?_⟩
            obtain ⟨⟨m0, m1, m2, m3, m4, m5, m6, m7, m8, m9, m10, m11⟩, mw, mc, mm, mz⟩ := mX
            refine ⟨⟨(rd 0 (by omega) (by omega) (by omega) (by omega)).trans m0, (rd 1 (by omega) (by omega) (by omega) (by omega)).trans m1, rfl, (rd 3 (by omega) (by omega) (by omega) (by omega)).trans m3, (rd 4 (by omega) (by omega) (by omega) (by omega)).trans m4, (rd 5 (by omega) (by omega) (by omega) (by omega)).trans m5, (rd 6 (by omega) (by omega) (by omega) (by omega)).trans m6, (rd 7 (by omega) (by omega) (by omega) (by omega)).trans m7, (rd 8 (by omega) (by omega) (by omega) (by omega)).trans m8, (rd 9 (by omega) (by omega) (by omega) (by omega)).trans m9, (rd 50 (by omega) (by omega) (by omega) (by omega)).trans m10, rfl⟩, fun w hw => ?_, fun c hc => ?_, fun m hm => ?_, fun i i1 i2 => (rd i (by omega) (by omega) (by omega) (by omega)).trans (mz i i1 i2)⟩
            · have hw : w < sW g := hw
              rw [rd _ (by omega) (by omega) (by omega) (by omega), rd _ (by omega) (by omega) (by omega) (by omega), rd _ (by omega) (by omega) (by omega) (by omega)]; exact mw w hw
            · have hc : c < sC g + 1 := hc
              show _ = nI (va_up (sT g) (sC g) _ c) ∧ _ = nI (va_up st (sC g) (qn s) c) ∧ _ = nI (va_up en (sC g) _ c - va_up st (sC g) (qn s) c)
              by_cases e : c = sC g
              · rw [e, va_up_s, va_up_s, va_up_s]
                refine ⟨(rI_uI_at (a := 134) (by omega)).trans ((rdB _ (by omega)).trans eA0), (rI_uI_at (a := 134) (by omega)).trans ((rdB _ (by omega)).trans (eA1.trans (by rw [hqn]))), (rI_uI_at (a := 134) (by omega)).trans (eB0.trans (by rw [hqn]))⟩
              · rw [va_up_n e, va_up_n e, va_up_n e, rd _ (by omega) (by omega) (by omega) (by omega), rd _ (by omega) (by omega) (by omega) (by omega), rd _ (by omega) (by omega) (by omega) (by omega)]; exact mc c (by omega)
            · have hm : m < sM g := hm
              rw [rd _ (by omega) (by omega) (by omega) (by omega)]; exact mm m hm
          · skip
            have c4 : ¬ (qe (trL b n (sW g) 6 (nx (tkn b n 0 11 (nx s))))) = 0 := fun q => c4 ((nI_eq (a := (qe (trL b n (sW g) 6 (nx (tkn b n 0 11 (nx s)))))) (b := 0) (by omega) (by omega)).mpr q)
            refine exf_go 1 (show Q (mk_) h4 from ?_)
            have eB : clB b n g s = (trL b n (sW g) 6 (nx (tkn b n 0 11 (nx s)))) := by unfold clB clA; rw [show eat b n 26 (tkn b n 0 11 (nx s)) = nx (tkn b n 0 11 (nx s)) from if_pos K44]
            have ea : rCl b n (s, g, st, en, a, ah) = ((trL b n (sW g) 6 (nx (tkn b n 0 11 (nx s)))), g, st, en, a, ah) := rC_no (show ¬ sC g = 8 by omega) eB (by omega)
            rw [ea] at k; exact k _ ((Fq.tr (Fq.tr (Fq.tr q1 q2) q3) q4).mono sRd_M) ⟨mp4, fun z => absurd z (show ¬ qe (trL b n (sW g) 6 (nx (tkn b n 0 11 (nx s)))) = 0 by omega)⟩
        · skip
          exact absurd (by decide) c3
      · skip
        have K44n := isK_x K44
        show Go (d + 31) true 208 44 [.ref 130, .int (nI (sC g)), .int v2, mk_] [.int 0] h2 Q
        refine exf_go 1 (show (¬ (0 : Int32) = 0 → Go (d + 31) true 208 52 [.ref 130, .int (nI (sC g)), .int v2, mk_] [] h2 Q) ∧ (¬ (¬ (0 : Int32) = 0) → Go (d + 31) true 208 47 [.ref 130, .int (nI (sC g)), .int v2, mk_] [] h2 Q) from ⟨fun c5 => ?_, fun c5 => ?_⟩)
        · skip
          exact absurd c5 (by decide)
        · skip
          refine exf_go 3 (show wpC (d + 31) true 192 [.ref 130, .int 2] h2 (fun _ h' => Go (d + 31) true 208 52 [.ref 130, .int (nI (sC g)), .int v2, mk_] [] h' Q) from ?_)
          refine m_fails (w := 2) mp2 (by omega) (fun h5 q5 mp5 => ?_)
          have hb5 := mp_b mp5
          have hz5 : ¬ qe (fl b n 2 (tkn b n 0 11 (nx s))) = 0 := fl_ne (by omega)
          have iv5 : IV b n 0 (fl b n 2 (tkn b n 0 11 (nx s))) := iv_fl2 iv2 (by decide)
          show Go (d + 31) true 208 52 [.ref 130, .int (nI (sC g)), .int v2, mk_] [] h5 Q
          refine exf_go 4 (show vp_in 2940 13841 ∧ (Go (d + 31) true 208 60 [.ref 130, .int (nI (sC g)), .int v2, mk_] [.int (rI h5 134 2940)] h5 Q) from ⟨(vp_in_nI (n := 2940) (by decide) (by decide)), ?_⟩)
          rw [show (rI h5 134 2940 : Int32) = nI (qn (fl b n 2 (tkn b n 0 11 (nx s)))) from mp5.2.2.2.1]
          refine exf_go 4 (show wpC (d + 31) true 207 [.ref 130, .int 0] h5 (fun _ h' => Go (d + 31) true 208 66 [.ref 130, .int (nI (sC g)), .int v2, .int (nI (qn (fl b n 2 (tkn b n 0 11 (nx s)))))] [] h' Q) from ?_)
          refine (m_trL hg.1 _) _ _ _ mp5 (iv5.le (Nat.zero_le _)) ((mr_rd hg mr (Fq.tr (Fq.tr q1 q2) q5)).1.2.1) (fun h6 q6 mp6 => ?_)
          have hb6 := mp_b mp6
          have gg6 := gd_trL b n (sW g) 6 _ _ iv5; have iv6 := gg6.1
          show Go (d + 31) true 208 66 [.ref 130, .int (nI (sC g)), .int v2, .int (nI (qn (fl b n 2 (tkn b n 0 11 (nx s)))))] [] h6 Q
          refine exf_go 2 (show Go (d + 31) true 208 70 [.ref 130, .int (nI (sC g)), .int v2, .int (nI (qn (fl b n 2 (tkn b n 0 11 (nx s)))))] [.int (rI h6 130 11)] h6 Q from ?_)
          rw [show (rI h6 130 11 : Int32) = nI (qe (trL b n (sW g) 6 (fl b n 2 (tkn b n 0 11 (nx s))))) from mp6.2.2.1.1]
          refine exf_go 1 (show ((nI (qe (trL b n (sW g) 6 (fl b n 2 (tkn b n 0 11 (nx s)))))) = 0 → Go (d + 31) true 208 74 [.ref 130, .int (nI (sC g)), .int v2, .int (nI (qn (fl b n 2 (tkn b n 0 11 (nx s)))))] [] h6 Q) ∧ (¬ ((nI (qe (trL b n (sW g) 6 (fl b n 2 (tkn b n 0 11 (nx s)))))) = 0) → Go (d + 31) true 208 73 [.ref 130, .int (nI (sC g)), .int v2, .int (nI (qn (fl b n 2 (tkn b n 0 11 (nx s)))))] [] h6 Q) from ⟨fun c6 => ?_, fun c6 => ?_⟩)
          · skip
            have c6 : (qe (trL b n (sW g) 6 (fl b n 2 (tkn b n 0 11 (nx s))))) = 0 := (nI_eq (a := (qe (trL b n (sW g) 6 (fl b n 2 (tkn b n 0 11 (nx s)))))) (b := 0) (by omega) (by omega)).mp c6
            refine exf_go 5 (show Go (d + 31) true 208 82 [.ref 130, .int (nI (sC g)), .int v2, .int (nI (qn (fl b n 2 (tkn b n 0 11 (nx s)))))] [.int (22 + (nI (sC g))), .ref 134] h6 Q from ?_)
            rw [show (22 + (nI (sC g)) : Int32) = nI (22 + (sC g)) from nI_add 22 (sC g)]
            refine exf_go 7 (show vp_in (nI (22 + (sC g))) 13841 ∧ (Go (d + 31) true 208 92 [.ref 130, .int (nI (sC g)), .int v2, .int (nI (qn (fl b n 2 (tkn b n 0 11 (nx s)))))] [.int (30 + (nI (sC g))), .ref 134] (uI h6 134 ((nI (22 + (sC g))).toNatClampNeg) v2) Q) from ⟨(vp_in_nI (by omega) (by omega)), ?_⟩)
            rw [show (30 + (nI (sC g)) : Int32) = nI (30 + (sC g)) from nI_add 30 (sC g)]
            refine exf_go 2 (show vp_in (nI (30 + (sC g))) 13841 ∧ (Go (d + 31) true 208 94 [.ref 130, .int (nI (sC g)), .int v2, .int (nI (qn (fl b n 2 (tkn b n 0 11 (nx s)))))] [] (uI (uI h6 134 ((nI (22 + (sC g))).toNatClampNeg) v2) 134 ((nI (30 + (sC g))).toNatClampNeg) (nI (qn (fl b n 2 (tkn b n 0 11 (nx s)))))) Q) from ⟨(vp_in_nI (by omega) (by omega)), ?_⟩)
            rw [nI_clamp (n := 22 + (sC g)) (by omega), nI_clamp (n := 30 + (sC g)) (by omega)]
            have qA : Fq sMl h6 (uI (uI h6 134 (22 + (sC g)) v2) 134 (30 + (sC g)) (nI (qn (fl b n 2 (tkn b n 0 11 (nx s)))))) := ((Fq.rfl'.uI' _ _ _ (sMl_t (by omega))).uI' _ _ _ (sMl_t (by omega)))
            have rdA : ∀ i, i ≠ 22 + (sC g) → i ≠ 30 + (sC g) → rI (uI (uI h6 134 (22 + (sC g)) v2) 134 (30 + (sC g)) (nI (qn (fl b n 2 (tkn b n 0 11 (nx s)))))) 134 i = rI h6 134 i := fun i i0 i1 => by rw [rI_uI_at i1, rI_uI_at i0]
            have eA0 : rI (uI (uI h6 134 (22 + (sC g)) v2) 134 (30 + (sC g)) (nI (qn (fl b n 2 (tkn b n 0 11 (nx s)))))) 134 (22 + (sC g)) = v2 := by rw [rI_uI_at (by omega)]; exact rI_uI_eq
            have eA1 : rI (uI (uI h6 134 (22 + (sC g)) v2) 134 (30 + (sC g)) (nI (qn (fl b n 2 (tkn b n 0 11 (nx s)))))) 134 (30 + (sC g)) = nI (qn (fl b n 2 (tkn b n 0 11 (nx s)))) := by exact rI_uI_eq
            have fA : ∀ i, rI (uI (uI h6 134 (22 + (sC g)) v2) 134 (30 + (sC g)) (nI (qn (fl b n 2 (tkn b n 0 11 (nx s)))))) 130 i = rI h6 130 i := fun _ => rfl
            generalize hgA : uI (uI h6 134 (22 + (sC g)) v2) 134 (30 + (sC g)) (nI (qn (fl b n 2 (tkn b n 0 11 (nx s))))) = hA at qA rdA fA eA0 eA1 ⊢
            refine exf_go 5 (show Go (d + 31) true 208 102 [.ref 130, .int (nI (sC g)), .int v2, .int (nI (qn (fl b n 2 (tkn b n 0 11 (nx s)))))] [.int (38 + (nI (sC g))), .ref 134] hA Q from ?_)
            rw [show (38 + (nI (sC g)) : Int32) = nI (38 + (sC g)) from nI_add 38 (sC g)]
            refine exf_go 4 (show vp_in 2940 13841 ∧ (Go (d + 31) true 208 110 [.ref 130, .int (nI (sC g)), .int v2, .int (nI (qn (fl b n 2 (tkn b n 0 11 (nx s)))))] [.int (rI hA 134 2940), .int (nI (38 + (sC g))), .ref 134] hA Q) from ⟨(vp_in_nI (n := 2940) (by decide) (by decide)), ?_⟩)
            rw [show (rI hA 134 2940 : Int32) = nI (qn (trL b n (sW g) 6 (fl b n 2 (tkn b n 0 11 (nx s))))) from (rdA 2940 (by omega) (by omega)).trans mp6.2.2.2.1]
            refine exf_go 2 (show Go (d + 31) true 208 112 [.ref 130, .int (nI (sC g)), .int v2, .int (nI (qn (fl b n 2 (tkn b n 0 11 (nx s)))))] [.int ((nI (qn (trL b n (sW g) 6 (fl b n 2 (tkn b n 0 11 (nx s)))))) - (nI (qn (fl b n 2 (tkn b n 0 11 (nx s)))))), .int (nI (38 + (sC g))), .ref 134] hA Q from ?_)
            rw [show ((nI (qn (trL b n (sW g) 6 (fl b n 2 (tkn b n 0 11 (nx s)))))) - (nI (qn (fl b n 2 (tkn b n 0 11 (nx s))))) : Int32) = nI (qn (trL b n (sW g) 6 (fl b n 2 (tkn b n 0 11 (nx s)))) - qn (fl b n 2 (tkn b n 0 11 (nx s)))) from pk_sub (a := qn (trL b n (sW g) 6 (fl b n 2 (tkn b n 0 11 (nx s))))) (b := qn (fl b n 2 (tkn b n 0 11 (nx s)))) (ty_trL hg.1 _ (by omega)).1.2.1]
            refine exf_go 1 (show vp_in (nI (38 + (sC g))) 13841 ∧ (Go (d + 31) true 208 113 [.ref 130, .int (nI (sC g)), .int v2, .int (nI (qn (fl b n 2 (tkn b n 0 11 (nx s)))))] [] (uI hA 134 ((nI (38 + (sC g))).toNatClampNeg) (nI (qn (trL b n (sW g) 6 (fl b n 2 (tkn b n 0 11 (nx s)))) - qn (fl b n 2 (tkn b n 0 11 (nx s)))))) Q) from ⟨(vp_in_nI (by omega) (by omega)), ?_⟩)
            rw [nI_clamp (n := 38 + (sC g)) (by omega)]
            have qB : Fq sMl hA (uI hA 134 (38 + (sC g)) (nI (qn (trL b n (sW g) 6 (fl b n 2 (tkn b n 0 11 (nx s)))) - qn (fl b n 2 (tkn b n 0 11 (nx s)))))) := (Fq.rfl'.uI' _ _ _ (sMl_t (by omega)))
            have rdB : ∀ i, i ≠ 38 + (sC g) → rI (uI hA 134 (38 + (sC g)) (nI (qn (trL b n (sW g) 6 (fl b n 2 (tkn b n 0 11 (nx s)))) - qn (fl b n 2 (tkn b n 0 11 (nx s)))))) 134 i = rI hA 134 i := fun i i0 => by rw [rI_uI_at i0]
            have eB0 : rI (uI hA 134 (38 + (sC g)) (nI (qn (trL b n (sW g) 6 (fl b n 2 (tkn b n 0 11 (nx s)))) - qn (fl b n 2 (tkn b n 0 11 (nx s)))))) 134 (38 + (sC g)) = nI (qn (trL b n (sW g) 6 (fl b n 2 (tkn b n 0 11 (nx s)))) - qn (fl b n 2 (tkn b n 0 11 (nx s)))) := by exact rI_uI_eq
            have fB : ∀ i, rI (uI hA 134 (38 + (sC g)) (nI (qn (trL b n (sW g) 6 (fl b n 2 (tkn b n 0 11 (nx s)))) - qn (fl b n 2 (tkn b n 0 11 (nx s)))))) 130 i = rI hA 130 i := fun _ => rfl
            generalize hgB : uI hA 134 (38 + (sC g)) (nI (qn (trL b n (sW g) 6 (fl b n 2 (tkn b n 0 11 (nx s)))) - qn (fl b n 2 (tkn b n 0 11 (nx s))))) = hB at qB rdB fB eB0 ⊢
            refine exf_go 5 (show vp_in 2 13841 ∧ (Go (d + 31) true 208 120 [.ref 130, .int (nI (sC g)), .int v2, .int (nI (qn (fl b n 2 (tkn b n 0 11 (nx s)))))] [.int (rI hB 134 2), .int 2, .ref 134] hB Q) from ⟨(vp_in_nI (n := 2) (by decide) (by decide)), ?_⟩)
            rw [show (rI hB 134 2 : Int32) = nI (sC g) from (rdB 2 (by omega)).trans ((rdA 2 (by omega) (by omega)).trans (mr_rd hg mr (Fq.tr (Fq.tr (Fq.tr q1 q2) q5) q6)).1.2.2.1)]
            refine exf_go 2 (show Go (d + 31) true 208 122 [.ref 130, .int (nI (sC g)), .int v2, .int (nI (qn (fl b n 2 (tkn b n 0 11 (nx s)))))] [.int ((nI (sC g)) + 1), .int 2, .ref 134] hB Q from ?_)
            rw [show ((nI (sC g)) + 1 : Int32) = nI ((sC g) + 1) from nI_add (sC g) 1]
            refine exf_go 5 (show vp_in 2 13841 ∧ ((1 : Int32) = 0 ∨ (1 : Int32) = 1) ∧ Q (mk_) (uI (uI hB 134 2 (nI ((sC g) + 1))) 130 15 1) from ⟨(vp_in_nI (n := 2) (by decide) (by decide)), (by first | exact Or.inl rfl | exact Or.inr rfl | assumption), ?_⟩)
            have eB : clB b n g s = (trL b n (sW g) 6 (fl b n 2 (tkn b n 0 11 (nx s)))) := by unfold clB clA; rw [show eat b n 26 (tkn b n 0 11 (nx s)) = fl b n 2 (tkn b n 0 11 (nx s)) from if_neg (by rw [K44]; decide)]
            exact absurd (show qe (trL b n (sW g) 6 (fl b n 2 (tkn b n 0 11 (nx s)))) = 0 by omega) (by rw [(gd_trL b n (sW g) 6 0 _ (iv_fl (af_tkn (af_nx iv (by omega)).1).1)).2.2 (fl_ne (by decide))]; exact fl_ne (by decide))
          · skip
            have c6 : ¬ (qe (trL b n (sW g) 6 (fl b n 2 (tkn b n 0 11 (nx s))))) = 0 := fun q => c6 ((nI_eq (a := (qe (trL b n (sW g) 6 (fl b n 2 (tkn b n 0 11 (nx s)))))) (b := 0) (by omega) (by omega)).mpr q)
            refine exf_go 1 (show Q (mk_) h6 from ?_)
            have eB : clB b n g s = (trL b n (sW g) 6 (fl b n 2 (tkn b n 0 11 (nx s)))) := by unfold clB clA; rw [show eat b n 26 (tkn b n 0 11 (nx s)) = fl b n 2 (tkn b n 0 11 (nx s)) from if_neg (by rw [K44]; decide)]
            have ea : rCl b n (s, g, st, en, a, ah) = ((trL b n (sW g) 6 (fl b n 2 (tkn b n 0 11 (nx s)))), g, st, en, a, ah) := rC_no (show ¬ sC g = 8 by omega) eB (by omega)
            rw [ea] at k; exact k _ ((Fq.tr (Fq.tr (Fq.tr q1 q2) q5) q6).mono sRd_M) ⟨mp6, fun z => absurd z (show ¬ qe (trL b n (sW g) 6 (fl b n 2 (tkn b n 0 11 (nx s)))) = 0 by omega)⟩
    · skip
      have c2 : ¬ (qe s) = 0 := fun q => c2 ((nI_eq (a := (qe s)) (b := 0) (by omega) (by omega)).mpr q)
      exfalso; omega
  · skip
    have c1 : (sC g) = 8 := (nI_eq (a := (sC g)) (b := 8) (by omega) (by omega)).mp (Classical.not_not.mp c1)
    refine exf_go 3 (show wpC (d + 31) true 192 [.ref 130, .int 4] h (fun _ h' => Go (d + 31) true 208 18 [.ref 130, .int (nI (sC g)), mk_, mk_] [] h' Q) from ?_)
    refine m_fails (w := 4) mp (by omega) (fun h7 q7 mp7 => ?_)
    have hb7 := mp_b mp7
    have hz7 : ¬ qe (fl b n 4 s) = 0 := fl_ne (by omega)
    have iv7 : IV b n 0 (fl b n 4 s) := iv_fl2 iv (by decide)
    show Go (d + 31) true 208 18 [.ref 130, .int (nI (sC g)), mk_, mk_] [] h7 Q
    refine exf_go 2 (show Go (d + 31) true 208 22 [.ref 130, .int (nI (sC g)), mk_, mk_] [.int (rI h7 130 11)] h7 Q from ?_)
    rw [show (rI h7 130 11 : Int32) = nI (qe (fl b n 4 s)) from mp7.2.2.1.1]
    refine exf_go 1 (show ((nI (qe (fl b n 4 s))) = 0 → Go (d + 31) true 208 26 [.ref 130, .int (nI (sC g)), mk_, mk_] [] h7 Q) ∧ (¬ ((nI (qe (fl b n 4 s))) = 0) → Go (d + 31) true 208 25 [.ref 130, .int (nI (sC g)), mk_, mk_] [] h7 Q) from ⟨fun c7 => ?_, fun c7 => ?_⟩)
    · skip
      have c7 : (qe (fl b n 4 s)) = 0 := (nI_eq (a := (qe (fl b n 4 s))) (b := 0) (by omega) (by omega)).mp c7
      exfalso; omega
    · skip
      have c7 : ¬ (qe (fl b n 4 s)) = 0 := fun q => c7 ((nI_eq (a := (qe (fl b n 4 s))) (b := 0) (by omega) (by omega)).mpr q)
      refine exf_go 1 (show Q (mk_) h7 from ?_)
      have ea : rCl b n (s, g, st, en, a, ah) = ((fl b n 4 s), g, st, en, a, ah) := if_pos (show sC g = 8 by omega)
      rw [ea] at k; exact k _ (q7.mono sRd_M) ⟨mp7, fun z => absurd z (show ¬ qe (fl b n 4 s) = 0 by omega)⟩
