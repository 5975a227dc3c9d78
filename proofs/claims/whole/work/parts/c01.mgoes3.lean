/-! The model: all rows are gone through: one number more. -/
theorem m_more1 {d r : Nat} {g : ShG} {l : LkG} {tt so n : Nat} {vs : Nat → Int64} (etr : tt < 4) (hn1 : 1 ≤ n) (hn8 : n ≤ 8) (haw : awB vs (tot g) n = true) (ih : GRC true 1 g l tt so n vs (d + 1) r) : GRC true 1 g l tt so n vs (d + 2) (r + 1) := by
  intro k dn a s S tk st h Q ms mw mt hkr hrm hdn hs hS ha htk hrs kk
  have htb := tot_b ms.1.1; have hp8 := pow_n8 hn8; have hp1 := pow_n1 n
  have hpp := ms.1.1.2.2.2.2.2.2.2.1
  refine go_in rfl ?_
  refine exf_go 5 (show vp_in (nI tt) 4 ∧ (Go (d + 1) true 271 7 [.ref 130, .int (nI tt), .int (nI k), .int (nI dn), .int (nI a), .int (nI s), .long (lN S), mk_, .int 1, mk_, mk_, mk_] [.int (rI h 150 ((nI tt).toNatClampNeg)), .int (nI k)] h Q) from ⟨(vp_in_nI (by omega) (by omega)), ?_⟩)
  rw [show (rI h 150 ((nI tt).toNatClampNeg) : Int32) = nI n from by rw [nI_clamp (by omega)]; exact mt.2.2.2.1]
  refine exf_go 1 (show (¬ (nI k) = (nI n) → Go (d + 1) true 271 84 [.ref 130, .int (nI tt), .int (nI k), .int (nI dn), .int (nI a), .int (nI s), .long (lN S), mk_, .int 1, mk_, mk_, mk_] [] h Q) ∧ (¬ (¬ (nI k) = (nI n)) → Go (d + 1) true 271 10 [.ref 130, .int (nI tt), .int (nI k), .int (nI dn), .int (nI a), .int (nI s), .long (lN S), mk_, .int 1, mk_, mk_, mk_] [] h Q) from ⟨fun c1 => ?_, fun c1 => ?_⟩)
  · skip
    have c1 : ¬ k = n := fun q => c1 ((nI_eq (a := k) (b := n) (by omega) (by omega)).mpr q)
    refine exf_go 2 (show Go (d + 1) true 271 87 [.ref 130, .int (nI tt), .int (nI k), .int (nI dn), .int (nI a), .int (nI s), .long (lN S), mk_, .int 1, .int 0, mk_, mk_] [] h Q from ?_)
    have L87 : ∀ (k87 : Nat) (z10 z11 : Value) (i : Nat) (h1 : Hp), (n - i) < k87 → (i ≤ n) → (Fq sGw h h1) → (RS n (sgN st (bsV true (fWs g (vN g vs) n) S s dn) (nrF (ntn dn) (lgF g (sP g) (vN g vs) (fWs g (vN g vs) n) n dn a) i) (fun c => pth g (sP g) (vN g vs) (fWs g (vN g vs) n) n (va_up tk k (vN g vs c)) (k + 1) r (dn ||| 2 ^ c) (vN g vs c))) h1) → (∀ j, j < k → rI h1 142 j = nI (tk j)) → Go (d + 1) true 271 87 [.ref 130, .int (nI tt), .int (nI k), .int (nI dn), .int (nI a), .int (nI s), .long (lN S), mk_, .int 1, .int (nI i), z10, z11] [] h1 Q := by
      intro k87
      induction k87 with
      | zero => intro z10 z11 i h1 hk; exact absurd hk (Nat.not_lt_zero _)
      | succ k87 ih87 =>
        intro z10 z11 i h1 hk hi q1 hrs1 ht1
        have ms1 := ms_fq ms (q1.mono sGw_M)
        have mw1 := mw_fq mw (q1.J (a := 137) (fun _ => rfl))
        have mt1 : MT tt (some (so, n, vs)) h1 := mt_same mt (q1.1 149 tt rfl).1 (q1.1 150 tt rfl).1 (fun i _ => (q1.1 151 _ rfl).2)
        refine exf_go 5 (show vp_in (nI tt) 4 ∧ (Go (d + 1) true 271 95 [.ref 130, .int (nI tt), .int (nI k), .int (nI dn), .int (nI a), .int (nI s), .long (lN S), mk_, .int 1, .int (nI i), z10, z11] [.int (rI h1 150 ((nI tt).toNatClampNeg)), .int (nI i)] h1 Q) from ⟨(vp_in_nI (by omega) (by omega)), ?_⟩)
        rw [show (rI h1 150 ((nI tt).toNatClampNeg) : Int32) = nI n from by rw [nI_clamp (by omega)]; exact mt1.2.2.2.1]
        refine exf_go 1 (show ((nI n) ≤ (nI i) → Go (d + 1) true 271 221 [.ref 130, .int (nI tt), .int (nI k), .int (nI dn), .int (nI a), .int (nI s), .long (lN S), mk_, .int 1, .int (nI i), z10, z11] [] h1 Q) ∧ (¬ ((nI n) ≤ (nI i)) → Go (d + 1) true 271 98 [.ref 130, .int (nI tt), .int (nI k), .int (nI dn), .int (nI a), .int (nI s), .long (lN S), mk_, .int 1, .int (nI i), z10, z11] [] h1 Q) from ⟨fun c2 => ?_, fun c2 => ?_⟩)
        · skip
          have c2 : n ≤ i := (nI_leI (a := n) (b := i) (by omega) (by omega)).mp c2
          refine exf_go 1 (show Q (mk_) h1 from ?_)
          rw [show i = n from by omega, ← lgV_nr] at hrs1
          rcases hq : (lgV g (sP g) (vN g vs) (fWs g (vN g vs) n) n dn a).1 with _ | c
          · exact absurd (rmn_full (nrF_none (p := ntn dn) (f := (lgF g (sP g) (vN g vs) (fWs g (vN g vs) n) n dn a)) n (by rw [← lgV_nr]; exact hq)).2) (by omega)
          · have e := pth_s (tk := tk) (k := k) (r := r) hq
            unfold sgN at hrs1; rw [hq] at hrs1
            exact kk h1 q1 (by show RS n (upS st (bsV true (fWs g (vN g vs) n) S s dn + (lgV g (sP g) (vN g vs) (fWs g (vN g vs) n) n dn a).2) (pth g (sP g) (vN g vs) (fWs g (vN g vs) n) n tk k (r + 1) dn a)) h1; rw [e]; exact hrs1) ht1
        · skip
          have c2 : ¬ n ≤ i := fun q => c2 ((nI_leI (a := n) (b := i) (by omega) (by omega)).mpr q)
          have hvi := vN_at ms.1.1 haw (show i < n from by omega)
          have htr := trn_b ms.1.1 a (vN g vs i)
          refine exf_go 2 (show Go (d + 1) true 271 100 [.ref 130, .int (nI tt), .int (nI k), .int (nI dn), .int (nI a), .int (nI s), .long (lN S), mk_, .int 1, .int (nI i), z10, z11] [.long ((nI dn).toInt64)] h1 Q from ?_)
          rw [show ((nI dn).toInt64 : Int64) = lN dn from nI_l (n := dn) (by omega)]
          refine exf_go 2 (show wpC (d + 1) true 196 [.long (lN dn), .int (nI i)] h1 (fun r h' => Go (d + 1) true 271 105 [.ref 130, .int (nI tt), .int (nI k), .int (nI dn), .int (nI a), .int (nI s), .long (lN S), mk_, .int 1, .int (nI i), z10, z11] [r] h' Q) from ?_)
          refine m_isIn (s := dn) (j := i) (by omega) (by omega) (fun hbz => ?_) (fun hbz => ?_)
          · skip
            show Go (d + 1) true 271 105 [.ref 130, .int (nI tt), .int (nI k), .int (nI dn), .int (nI a), .int (nI s), .long (lN S), mk_, .int 1, .int (nI i), z10, z11] [.int 1] h1 Q
            refine exf_go 1 (show ((1 : Int32) = 0 → Go (d + 1) true 271 111 [.ref 130, .int (nI tt), .int (nI k), .int (nI dn), .int (nI a), .int (nI s), .long (lN S), mk_, .int 1, .int (nI i), z10, z11] [] h1 Q) ∧ (¬ ((1 : Int32) = 0) → Go (d + 1) true 271 108 [.ref 130, .int (nI tt), .int (nI k), .int (nI dn), .int (nI a), .int (nI s), .long (lN S), mk_, .int 1, .int (nI i), z10, z11] [] h1 Q) from ⟨fun c4 => ?_, fun c4 => ?_⟩)
            · skip
              exact absurd c4 (by decide)
            · skip
              refine exf_go 2 (show Go (d + 1) true 271 218 [.ref 130, .int (nI tt), .int (nI k), .int (nI dn), .int (nI a), .int (nI s), .long (lN S), mk_, .int 1, .int ((nI i) + 1), z10, z11] [] h1 Q from ?_)
              rw [show ((nI i) + 1 : Int32) = nI (i + 1) from nI_add i 1]
              refine exf_go 1 (show Go (d + 1) true 271 87 [.ref 130, .int (nI tt), .int (nI k), .int (nI dn), .int (nI a), .int (nI s), .long (lN S), mk_, .int 1, .int (nI (i + 1)), z10, z11] [] h1 Q from ?_)
              exact ih87 z10 z11 (i + 1) _ (by omega) (by omega) q1 (by rw [← sg_skip (show ntn dn i = false from by unfold ntn; exact decide_eq_false (by omega))]; exact hrs1) ht1
          · skip
            show Go (d + 1) true 271 105 [.ref 130, .int (nI tt), .int (nI k), .int (nI dn), .int (nI a), .int (nI s), .long (lN S), mk_, .int 1, .int (nI i), z10, z11] [.int 0] h1 Q
            refine exf_go 1 (show ((0 : Int32) = 0 → Go (d + 1) true 271 111 [.ref 130, .int (nI tt), .int (nI k), .int (nI dn), .int (nI a), .int (nI s), .long (lN S), mk_, .int 1, .int (nI i), z10, z11] [] h1 Q) ∧ (¬ ((0 : Int32) = 0) → Go (d + 1) true 271 108 [.ref 130, .int (nI tt), .int (nI k), .int (nI dn), .int (nI a), .int (nI s), .long (lN S), mk_, .int 1, .int (nI i), z10, z11] [] h1 Q) from ⟨fun c5 => ?_, fun c5 => ?_⟩)
            · skip
              refine exf_go 5 (show Go (d + 1) true 271 119 [.ref 130, .int (nI tt), .int (nI k), .int (nI dn), .int (nI a), .int (nI s), .long (lN S), mk_, .int 1, .int (nI i), z10, z11] [.int (40 * (nI tt)), .ref 151] h1 Q from ?_)
              rw [show (40 * (nI tt) : Int32) = nI (40 * tt) from pk_mul 40 tt]
              refine exf_go 2 (show Go (d + 1) true 271 122 [.ref 130, .int (nI tt), .int (nI k), .int (nI dn), .int (nI a), .int (nI s), .long (lN S), mk_, .int 1, .int (nI i), z10, z11] [.int ((nI (40 * tt)) + (nI i)), .ref 151] h1 Q from ?_)
              rw [show ((nI (40 * tt)) + (nI i) : Int32) = nI ((40 * tt) + i) from nI_add (40 * tt) i]
              refine exf_go 1 (show vp_in (nI ((40 * tt) + i)) 160 ∧ (Go (d + 1) true 271 123 [.ref 130, .int (nI tt), .int (nI k), .int (nI dn), .int (nI a), .int (nI s), .long (lN S), mk_, .int 1, .int (nI i), z10, z11] [.long (rJ h1 151 ((nI ((40 * tt) + i)).toNatClampNeg))] h1 Q) from ⟨(vp_in_nI (by omega) (by omega)), ?_⟩)
              rw [show (rJ h1 151 ((nI ((40 * tt) + i)).toNatClampNeg) : Int64) = lN (vN g vs i) from by rw [nI_clamp (by omega)]; exact (mt1.2.2.2.2 _ (by omega)).trans hvi.1]
              refine exf_go 1 (show Go (d + 1) true 271 124 [.ref 130, .int (nI tt), .int (nI k), .int (nI dn), .int (nI a), .int (nI s), .long (lN S), mk_, .int 1, .int (nI i), z10, z11] [.int ((lN (vN g vs i)).toInt32)] h1 Q from ?_)
              rw [show ((lN (vN g vs i)).toInt32 : Int32) = nI (vN g vs i) from lN_i _]
              refine exf_go 11 (show vp_in (nI k) 8 ∧ (wpC (d + 1) true 251 [.ref 130, .int (nI a), .int (nI (vN g vs i))] (uI h1 142 ((nI k).toNatClampNeg) (nI (vN g vs i))) (fun r h' => Go (d + 1) true 271 144 [.ref 130, .int (nI tt), .int (nI k), .int (nI dn), .int (nI a), .int (nI s), .long (lN S), mk_, .int 1, .int (nI i), .int (nI (vN g vs i)), z11] [r, .int (nI s)] h' Q)) from ⟨(vp_in_nI (by omega) (by omega)), ?_⟩)
              refine m_turns (ms_fq ms1 (Fq.uI' Fq.rfl' _ _ _ rfl)) (by omega) (by omega) ?_
              have := trn_b ms.1.1 a (vN g vs i)
              show Go (d + 1) true 271 144 [.ref 130, .int (nI tt), .int (nI k), .int (nI dn), .int (nI a), .int (nI s), .long (lN S), mk_, .int 1, .int (nI i), .int (nI (vN g vs i)), z11] [.int (nI (trn g a (vN g vs i))), .int (nI s)] (uI h1 142 ((nI k).toNatClampNeg) (nI (vN g vs i))) Q
              refine exf_go 1 (show Go (d + 1) true 271 145 [.ref 130, .int (nI tt), .int (nI k), .int (nI dn), .int (nI a), .int (nI s), .long (lN S), mk_, .int 1, .int (nI i), .int (nI (vN g vs i)), z11] [.int ((nI s) + (nI (trn g a (vN g vs i))))] (uI h1 142 ((nI k).toNatClampNeg) (nI (vN g vs i))) Q from ?_)
              rw [show ((nI s) + (nI (trn g a (vN g vs i))) : Int32) = nI (s + (trn g a (vN g vs i))) from nI_add s (trn g a (vN g vs i))]
              refine exf_go 2 (show ((1 : Int32) = 0 → Go (d + 1) true 271 159 [.ref 130, .int (nI tt), .int (nI k), .int (nI dn), .int (nI a), .int (nI s), .long (lN S), mk_, .int 1, .int (nI i), .int (nI (vN g vs i)), z11] [.int (nI (s + (trn g a (vN g vs i))))] (uI h1 142 ((nI k).toNatClampNeg) (nI (vN g vs i))) Q) ∧ (¬ ((1 : Int32) = 0) → Go (d + 1) true 271 150 [.ref 130, .int (nI tt), .int (nI k), .int (nI dn), .int (nI a), .int (nI s), .long (lN S), mk_, .int 1, .int (nI i), .int (nI (vN g vs i)), z11] [.int (nI (s + (trn g a (vN g vs i))))] (uI h1 142 ((nI k).toNatClampNeg) (nI (vN g vs i))) Q) from ⟨fun c6 => ?_, fun c6 => ?_⟩)
              · skip
                exact absurd c6 (by decide)
              · skip
                refine exf_go 4 (show vp_in 5 41523 ∧ (Go (d + 1) true 271 156 [.ref 130, .int (nI tt), .int (nI k), .int (nI dn), .int (nI a), .int (nI s), .long (lN S), mk_, .int 1, .int (nI i), .int (nI (vN g vs i)), z11] [.int (rI h1 131 5), .int (nI (s + (trn g a (vN g vs i))))] (uI h1 142 ((nI k).toNatClampNeg) (nI (vN g vs i))) Q) from ⟨(vp_in_nI (n := 5) (by decide) (by decide)), ?_⟩)
                rw [show (rI h1 131 5 : Int32) = nI (sP g) from ms_P ms1]
                refine exf_go 2 (show Go (d + 1) true 271 161 [.ref 130, .int (nI tt), .int (nI k), .int (nI dn), .int (nI a), .int (nI s), .long (lN S), mk_, .int 1, .int (nI i), .int (nI (vN g vs i)), z11] [.int ((nI (s + (trn g a (vN g vs i)))) + (nI (sP g)))] (uI h1 142 ((nI k).toNatClampNeg) (nI (vN g vs i))) Q from ?_)
                rw [show ((nI (s + (trn g a (vN g vs i)))) + (nI (sP g)) : Int32) = nI ((s + (trn g a (vN g vs i))) + (sP g)) from nI_add (s + (trn g a (vN g vs i))) (sP g)]
                refine exf_go 6 (show Go (d + 1) true 271 168 [.ref 130, .int (nI tt), .int (nI k), .int (nI dn), .int (nI a), .int (nI s), .long (lN S), mk_, .int 1, .int (nI i), .int (nI (vN g vs i)), .int (nI ((s + (trn g a (vN g vs i))) + (sP g)))] [.int ((nI k) + 1), .int (nI tt), .ref 130] (uI h1 142 ((nI k).toNatClampNeg) (nI (vN g vs i))) Q from ?_)
                rw [show ((nI k) + 1 : Int32) = nI (k + 1) from nI_add k 1]
                refine exf_go 4 (show Go (d + 1) true 271 173 [.ref 130, .int (nI tt), .int (nI k), .int (nI dn), .int (nI a), .int (nI s), .long (lN S), mk_, .int 1, .int (nI i), .int (nI (vN g vs i)), .int (nI ((s + (trn g a (vN g vs i))) + (sP g)))] [.int (1 <<< ((nI i) &&& 31)), .int (nI dn), .int (nI (k + 1)), .int (nI tt), .ref 130] (uI h1 142 ((nI k).toNatClampNeg) (nI (vN g vs i))) Q from ?_)
                rw [show (1 <<< ((nI i) &&& 31) : Int32) = nI (2 ^ i) from nI_1shl (k := i) (by omega)]
                refine exf_go 1 (show Go (d + 1) true 271 174 [.ref 130, .int (nI tt), .int (nI k), .int (nI dn), .int (nI a), .int (nI s), .long (lN S), mk_, .int 1, .int (nI i), .int (nI (vN g vs i)), .int (nI ((s + (trn g a (vN g vs i))) + (sP g)))] [.int ((nI dn) ||| (nI (2 ^ i))), .int (nI (k + 1)), .int (nI tt), .ref 130] (uI h1 142 ((nI k).toNatClampNeg) (nI (vN g vs i))) Q from ?_)
                rw [show ((nI dn) ||| (nI (2 ^ i)) : Int32) = nI (dn ||| (2 ^ i)) from nI_or dn (2 ^ i)]
                refine exf_go 5 (show ((1 : Int32) = 0 → Go (d + 1) true 271 208 [.ref 130, .int (nI tt), .int (nI k), .int (nI dn), .int (nI a), .int (nI s), .long (lN S), mk_, .int 1, .int (nI i), .int (nI (vN g vs i)), .int (nI ((s + (trn g a (vN g vs i))) + (sP g)))] [.long (lN S), .int (nI ((s + (trn g a (vN g vs i))) + (sP g))), .int (nI (vN g vs i)), .int (nI (dn ||| (2 ^ i))), .int (nI (k + 1)), .int (nI tt), .ref 130] (uI h1 142 ((nI k).toNatClampNeg) (nI (vN g vs i))) Q) ∧ (¬ ((1 : Int32) = 0) → Go (d + 1) true 271 185 [.ref 130, .int (nI tt), .int (nI k), .int (nI dn), .int (nI a), .int (nI s), .long (lN S), mk_, .int 1, .int (nI i), .int (nI (vN g vs i)), .int (nI ((s + (trn g a (vN g vs i))) + (sP g)))] [.long (lN S), .int (nI ((s + (trn g a (vN g vs i))) + (sP g))), .int (nI (vN g vs i)), .int (nI (dn ||| (2 ^ i))), .int (nI (k + 1)), .int (nI tt), .ref 130] (uI h1 142 ((nI k).toNatClampNeg) (nI (vN g vs i))) Q) from ⟨fun c7 => ?_, fun c7 => ?_⟩)
                · skip
                  exact absurd c7 (by decide)
                · skip
                  refine exf_go 7 (show Go (d + 1) true 271 199 [.ref 130, .int (nI tt), .int (nI k), .int (nI dn), .int (nI a), .int (nI s), .long (lN S), mk_, .int 1, .int (nI i), .int (nI (vN g vs i)), .int (nI ((s + (trn g a (vN g vs i))) + (sP g)))] [.int (3841 + (nI (vN g vs i))), .ref 131, .ref 137, .long (lN S), .int (nI ((s + (trn g a (vN g vs i))) + (sP g))), .int (nI (vN g vs i)), .int (nI (dn ||| (2 ^ i))), .int (nI (k + 1)), .int (nI tt), .ref 130] (uI h1 142 ((nI k).toNatClampNeg) (nI (vN g vs i))) Q from ?_)
                  rw [show (3841 + (nI (vN g vs i)) : Int32) = nI (3841 + (vN g vs i)) from nI_add 3841 (vN g vs i)]
                  refine exf_go 1 (show vp_in (nI (3841 + (vN g vs i))) 41523 ∧ (Go (d + 1) true 271 200 [.ref 130, .int (nI tt), .int (nI k), .int (nI dn), .int (nI a), .int (nI s), .long (lN S), mk_, .int 1, .int (nI i), .int (nI (vN g vs i)), .int (nI ((s + (trn g a (vN g vs i))) + (sP g)))] [.int (rI h1 131 ((nI (3841 + (vN g vs i))).toNatClampNeg)), .ref 137, .long (lN S), .int (nI ((s + (trn g a (vN g vs i))) + (sP g))), .int (nI (vN g vs i)), .int (nI (dn ||| (2 ^ i))), .int (nI (k + 1)), .int (nI tt), .ref 130] (uI h1 142 ((nI k).toNatClampNeg) (nI (vN g vs i))) Q) from ⟨(vp_in_nI (by omega) (by omega)), ?_⟩)
                  rw [show (rI h1 131 ((nI (3841 + (vN g vs i))).toNatClampNeg) : Int32) = nI (sH g (vN g vs i)) from ms_H ms1 (n := (vN g vs i)) (by omega)]
                  have := sH_b ms1.1.1 (vN g vs i)
                  refine exf_go 1 (show vp_in (nI (sH g (vN g vs i))) 256 ∧ (Go (d + 1) true 271 201 [.ref 130, .int (nI tt), .int (nI k), .int (nI dn), .int (nI a), .int (nI s), .long (lN S), mk_, .int 1, .int (nI i), .int (nI (vN g vs i)), .int (nI ((s + (trn g a (vN g vs i))) + (sP g)))] [.long (rJ h1 137 ((nI (sH g (vN g vs i))).toNatClampNeg)), .long (lN S), .int (nI ((s + (trn g a (vN g vs i))) + (sP g))), .int (nI (vN g vs i)), .int (nI (dn ||| (2 ^ i))), .int (nI (k + 1)), .int (nI tt), .ref 130] (uI h1 142 ((nI k).toNatClampNeg) (nI (vN g vs i))) Q) from ⟨(vp_in_nI (by omega) (by omega)), ?_⟩)
                  rw [show (rJ h1 137 ((nI (sH g (vN g vs i))).toNatClampNeg) : Int64) = lN (wtA g (sH g (vN g vs i))) from mw_at ms1 mw1 (m := sH g (vN g vs i)) (hH ms.1.1 _)]
                  have hwb := wtA_b ms.1.1 (sH g (vN g vs i))
                  refine exf_go 2 (show Go (d + 1) true 271 204 [.ref 130, .int (nI tt), .int (nI k), .int (nI dn), .int (nI a), .int (nI s), .long (lN S), mk_, .int 1, .int (nI i), .int (nI (vN g vs i)), .int (nI ((s + (trn g a (vN g vs i))) + (sP g)))] [.long ((nI ((s + (trn g a (vN g vs i))) + (sP g))).toInt64), .long (lN (wtA g (sH g (vN g vs i)))), .long (lN S), .int (nI ((s + (trn g a (vN g vs i))) + (sP g))), .int (nI (vN g vs i)), .int (nI (dn ||| (2 ^ i))), .int (nI (k + 1)), .int (nI tt), .ref 130] (uI h1 142 ((nI k).toNatClampNeg) (nI (vN g vs i))) Q from ?_)
                  rw [show ((nI ((s + (trn g a (vN g vs i))) + (sP g))).toInt64 : Int64) = lN ((s + (trn g a (vN g vs i))) + (sP g)) from nI_l (n := ((s + (trn g a (vN g vs i))) + (sP g))) (by omega)]
                  refine exf_go 1 (show Go (d + 1) true 271 205 [.ref 130, .int (nI tt), .int (nI k), .int (nI dn), .int (nI a), .int (nI s), .long (lN S), mk_, .int 1, .int (nI i), .int (nI (vN g vs i)), .int (nI ((s + (trn g a (vN g vs i))) + (sP g)))] [.long ((lN (wtA g (sH g (vN g vs i)))) * (lN ((s + (trn g a (vN g vs i))) + (sP g)))), .long (lN S), .int (nI ((s + (trn g a (vN g vs i))) + (sP g))), .int (nI (vN g vs i)), .int (nI (dn ||| (2 ^ i))), .int (nI (k + 1)), .int (nI tt), .ref 130] (uI h1 142 ((nI k).toNatClampNeg) (nI (vN g vs i))) Q from ?_)
                  rw [show ((lN (wtA g (sH g (vN g vs i)))) * (lN ((s + (trn g a (vN g vs i))) + (sP g))) : Int64) = lN ((wtA g (sH g (vN g vs i))) * ((s + (trn g a (vN g vs i))) + (sP g))) from lN_mul (wtA g (sH g (vN g vs i))) ((s + (trn g a (vN g vs i))) + (sP g))]
                  refine exf_go 2 (show Go (d + 1) true 271 210 [.ref 130, .int (nI tt), .int (nI k), .int (nI dn), .int (nI a), .int (nI s), .long (lN S), mk_, .int 1, .int (nI i), .int (nI (vN g vs i)), .int (nI ((s + (trn g a (vN g vs i))) + (sP g)))] [.long ((lN S) + (lN ((wtA g (sH g (vN g vs i))) * ((s + (trn g a (vN g vs i))) + (sP g))))), .int (nI ((s + (trn g a (vN g vs i))) + (sP g))), .int (nI (vN g vs i)), .int (nI (dn ||| (2 ^ i))), .int (nI (k + 1)), .int (nI tt), .ref 130] (uI h1 142 ((nI k).toNatClampNeg) (nI (vN g vs i))) Q from ?_)
                  rw [show ((lN S) + (lN ((wtA g (sH g (vN g vs i))) * ((s + (trn g a (vN g vs i))) + (sP g)))) : Int64) = lN (S + ((wtA g (sH g (vN g vs i))) * ((s + (trn g a (vN g vs i))) + (sP g)))) from lN_add S ((wtA g (sH g (vN g vs i))) * ((s + (trn g a (vN g vs i))) + (sP g)))]
                  refine exf_go 2 (show wpC (d + 1) true 271 [.ref 130, .int (nI tt), .int (nI (k + 1)), .int (nI (dn ||| (2 ^ i))), .int (nI (vN g vs i)), .int (nI ((s + (trn g a (vN g vs i))) + (sP g))), .long (lN (S + ((wtA g (sH g (vN g vs i))) * ((s + (trn g a (vN g vs i))) + (sP g))))), .int 1] (uI h1 142 ((nI k).toNatClampNeg) (nI (vN g vs i))) (fun _ h' => Go (d + 1) true 271 215 [.ref 130, .int (nI tt), .int (nI k), .int (nI dn), .int (nI a), .int (nI s), .long (lN S), mk_, .int 1, .int (nI i), .int (nI (vN g vs i)), .int (nI ((s + (trn g a (vN g vs i))) + (sP g)))] [] h' Q) from ?_)
                  have hml : wtA g (sH g (vN g vs i)) * ((s + (trn g a (vN g vs i))) + (sP g)) ≤ 100000000 * 3072 := Nat.mul_le_mul hwb (by omega)
                  refine ih (k + 1) (dn ||| 2 ^ i) (vN g vs i) ((s + (trn g a (vN g vs i))) + (sP g)) (S + ((wtA g (sH g (vN g vs i))) * ((s + (trn g a (vN g vs i))) + (sP g)))) (va_up tk k (vN g vs i)) (sgN st (bsV true (fWs g (vN g vs) n) S s dn) (nrF (ntn dn) (lgF g (sP g) (vN g vs) (fWs g (vN g vs) n) n dn a) i) (fun c => pth g (sP g) (vN g vs) (fWs g (vN g vs) n) n (va_up tk k (vN g vs c)) (k + 1) r (dn ||| 2 ^ c) (vN g vs c))) _ _ (ms_fq ms1 (Fq.uI' Fq.rfl' _ _ _ rfl)) (mw_fq mw1 rfl) (mt_same mt1 rfl rfl (fun _ _ => rfl)) (by omega) (by have := rmn_s (show i < n from by omega) hbz; omega) (or_b hdn (by omega)) (by omega) (by omega) hvi.2 (fun j hj => (Decidable.em (j = k)).elim (fun e => by rw [nI_clamp (by omega), e, rI_uI_eq, up_eq]) (fun e => by rw [nI_clamp (by omega), rI_uI_at e, up_ne e]; exact ht1 j (by omega))) hrs1 (fun h2 q2 hrs2 ht2 => ?_)
                  show Go (d + 1) true 271 215 [.ref 130, .int (nI tt), .int (nI k), .int (nI dn), .int (nI a), .int (nI s), .long (lN S), mk_, .int 1, .int (nI i), .int (nI (vN g vs i)), .int (nI ((s + (trn g a (vN g vs i))) + (sP g)))] [] h2 Q
                  refine exf_go 1 (show Go (d + 1) true 271 218 [.ref 130, .int (nI tt), .int (nI k), .int (nI dn), .int (nI a), .int (nI s), .long (lN S), mk_, .int 1, .int ((nI i) + 1), .int (nI (vN g vs i)), .int (nI ((s + (trn g a (vN g vs i))) + (sP g)))] [] h2 Q from ?_)
                  rw [show ((nI i) + 1 : Int32) = nI (i + 1) from nI_add i 1]
                  refine exf_go 1 (show Go (d + 1) true 271 87 [.ref 130, .int (nI tt), .int (nI k), .int (nI dn), .int (nI a), .int (nI s), .long (lN S), mk_, .int 1, .int (nI (i + 1)), .int (nI (vN g vs i)), .int (nI ((s + (trn g a (vN g vs i))) + (sP g)))] [] h2 Q from ?_)
                  exact ih87 (.int (nI (vN g vs i))) (.int (nI ((s + (trn g a (vN g vs i))) + (sP g)))) (i + 1) _ (by omega) (by omega) ((q1.uI' _ _ _ rfl).tr q2) (by have e := bs_step (g := g) (v := vN g vs) (a := a) (S := S) (s := s) (show i < n from by omega) hbz; rw [← sg_step (f := (lgF g (sP g) (vN g vs) (fWs g (vN g vs) n) n dn a)) (P := (fun c => pth g (sP g) (vN g vs) (fWs g (vN g vs) n) n (va_up tk k (vN g vs c)) (k + 1) r (dn ||| 2 ^ c) (vN g vs c))) (show ntn dn i = true from by unfold ntn; exact decide_eq_true hbz), ← e]; exact hrs2) (fun j hj => by rw [ht2 j (by omega), up_ne (by omega)])
            · skip
              exact absurd (by decide) c5
    exact L87 (n + 1) mk_ mk_ 0 h (by omega) (by omega) Fq.rfl' hrs htk
  · skip
    have c1 : k = n := (nI_eq (a := k) (b := n) (by omega) (by omega)).mp (Classical.not_not.mp c1)
    exact absurd c1 (by omega)
theorem m_goes1 {d : Nat} {g : ShG} {l : LkG} {tt so n : Nat} {vs : Nat → Int64} (etr : tt < 4) (hn1 : 1 ≤ n) (hn8 : n ≤ 8) (haw : awB vs (tot g) n = true) : ∀ r, GRC true 1 g l tt so n vs (d + r + 1) r
  | 0 => m_leaf1 etr hn1 hn8 haw
  | r + 1 => m_more1 (d := d + r) etr hn1 hn8 haw (m_goes1 etr hn1 hn8 haw r)
theorem m_more0 {d r : Nat} {g : ShG} {l : LkG} {tt so n : Nat} {vs : Nat → Int64} (etr : tt < 4) (hn1 : 1 ≤ n) (hn8 : n ≤ 8) (haw : awB vs (tot g) n = true) (ih : GRC false 0 g l tt so n vs (d + 1) r) : GRC false 0 g l tt so n vs (d + 2) (r + 1) := by
  intro k dn a s S tk st h Q ms mw mt hkr hrm hdn hs hS ha htk hrs kk
  have htb := tot_b ms.1.1; have hp8 := pow_n8 hn8; have hp1 := pow_n1 n
  have hpp := ms.1.1.2.2.2.2.2.2.2.1
  refine go_in rfl ?_
  refine exf_go 5 (show vp_in (nI tt) 4 ∧ (Go (d + 1) true 271 7 [.ref 130, .int (nI tt), .int (nI k), .int (nI dn), .int (nI a), .int (nI s), .long (lN S), mk_, .int 0, mk_, mk_, mk_] [.int (rI h 150 ((nI tt).toNatClampNeg)), .int (nI k)] h Q) from ⟨(vp_in_nI (by omega) (by omega)), ?_⟩)
  rw [show (rI h 150 ((nI tt).toNatClampNeg) : Int32) = nI n from by rw [nI_clamp (by omega)]; exact mt.2.2.2.1]
  refine exf_go 1 (show (¬ (nI k) = (nI n) → Go (d + 1) true 271 84 [.ref 130, .int (nI tt), .int (nI k), .int (nI dn), .int (nI a), .int (nI s), .long (lN S), mk_, .int 0, mk_, mk_, mk_] [] h Q) ∧ (¬ (¬ (nI k) = (nI n)) → Go (d + 1) true 271 10 [.ref 130, .int (nI tt), .int (nI k), .int (nI dn), .int (nI a), .int (nI s), .long (lN S), mk_, .int 0, mk_, mk_, mk_] [] h Q) from ⟨fun c1 => ?_, fun c1 => ?_⟩)
  · skip
    have c1 : ¬ k = n := fun q => c1 ((nI_eq (a := k) (b := n) (by omega) (by omega)).mpr q)
    refine exf_go 2 (show Go (d + 1) true 271 87 [.ref 130, .int (nI tt), .int (nI k), .int (nI dn), .int (nI a), .int (nI s), .long (lN S), mk_, .int 0, .int 0, mk_, mk_] [] h Q from ?_)
    have L87 : ∀ (k87 : Nat) (z10 z11 : Value) (i : Nat) (h1 : Hp), (n - i) < k87 → (i ≤ n) → (Fq sGw h h1) → (RS n (sgN st (bsV false (fun _ => 1) S s dn) (nrF (ntn dn) (lgF g 0 (vN g vs) (fun _ => 1) n dn a) i) (fun c => pth g 0 (vN g vs) (fun _ => 1) n (va_up tk k (vN g vs c)) (k + 1) r (dn ||| 2 ^ c) (vN g vs c))) h1) → (∀ j, j < k → rI h1 142 j = nI (tk j)) → Go (d + 1) true 271 87 [.ref 130, .int (nI tt), .int (nI k), .int (nI dn), .int (nI a), .int (nI s), .long (lN S), mk_, .int 0, .int (nI i), z10, z11] [] h1 Q := by
      intro k87
      induction k87 with
      | zero => intro z10 z11 i h1 hk; exact absurd hk (Nat.not_lt_zero _)
      | succ k87 ih87 =>
        intro z10 z11 i h1 hk hi q1 hrs1 ht1
        have ms1 := ms_fq ms (q1.mono sGw_M)
        have mw1 := mw_fq mw (q1.J (a := 137) (fun _ => rfl))
        have mt1 : MT tt (some (so, n, vs)) h1 := mt_same mt (q1.1 149 tt rfl).1 (q1.1 150 tt rfl).1 (fun i _ => (q1.1 151 _ rfl).2)
        refine exf_go 5 (show vp_in (nI tt) 4 ∧ (Go (d + 1) true 271 95 [.ref 130, .int (nI tt), .int (nI k), .int (nI dn), .int (nI a), .int (nI s), .long (lN S), mk_, .int 0, .int (nI i), z10, z11] [.int (rI h1 150 ((nI tt).toNatClampNeg)), .int (nI i)] h1 Q) from ⟨(vp_in_nI (by omega) (by omega)), ?_⟩)
        rw [show (rI h1 150 ((nI tt).toNatClampNeg) : Int32) = nI n from by rw [nI_clamp (by omega)]; exact mt1.2.2.2.1]
        refine exf_go 1 (show ((nI n) ≤ (nI i) → Go (d + 1) true 271 221 [.ref 130, .int (nI tt), .int (nI k), .int (nI dn), .int (nI a), .int (nI s), .long (lN S), mk_, .int 0, .int (nI i), z10, z11] [] h1 Q) ∧ (¬ ((nI n) ≤ (nI i)) → Go (d + 1) true 271 98 [.ref 130, .int (nI tt), .int (nI k), .int (nI dn), .int (nI a), .int (nI s), .long (lN S), mk_, .int 0, .int (nI i), z10, z11] [] h1 Q) from ⟨fun c2 => ?_, fun c2 => ?_⟩)
        · skip
          have c2 : n ≤ i := (nI_leI (a := n) (b := i) (by omega) (by omega)).mp c2
          refine exf_go 1 (show Q (mk_) h1 from ?_)
          rw [show i = n from by omega, ← lgV_nr] at hrs1
          rcases hq : (lgV g 0 (vN g vs) (fun _ => 1) n dn a).1 with _ | c
          · exact absurd (rmn_full (nrF_none (p := ntn dn) (f := (lgF g 0 (vN g vs) (fun _ => 1) n dn a)) n (by rw [← lgV_nr]; exact hq)).2) (by omega)
          · have e := pth_s (tk := tk) (k := k) (r := r) hq
            unfold sgN at hrs1; rw [hq] at hrs1
            exact kk h1 q1 (by show RS n (upS st (bsV false (fun _ => 1) S s dn + (lgV g 0 (vN g vs) (fun _ => 1) n dn a).2) (pth g 0 (vN g vs) (fun _ => 1) n tk k (r + 1) dn a)) h1; rw [e]; exact hrs1) ht1
        · skip
          have c2 : ¬ n ≤ i := fun q => c2 ((nI_leI (a := n) (b := i) (by omega) (by omega)).mpr q)
          have hvi := vN_at ms.1.1 haw (show i < n from by omega)
          have htr := trn_b ms.1.1 a (vN g vs i)
          refine exf_go 2 (show Go (d + 1) true 271 100 [.ref 130, .int (nI tt), .int (nI k), .int (nI dn), .int (nI a), .int (nI s), .long (lN S), mk_, .int 0, .int (nI i), z10, z11] [.long ((nI dn).toInt64)] h1 Q from ?_)
          rw [show ((nI dn).toInt64 : Int64) = lN dn from nI_l (n := dn) (by omega)]
          refine exf_go 2 (show wpC (d + 1) true 196 [.long (lN dn), .int (nI i)] h1 (fun r h' => Go (d + 1) true 271 105 [.ref 130, .int (nI tt), .int (nI k), .int (nI dn), .int (nI a), .int (nI s), .long (lN S), mk_, .int 0, .int (nI i), z10, z11] [r] h' Q) from ?_)
          refine m_isIn (s := dn) (j := i) (by omega) (by omega) (fun hbz => ?_) (fun hbz => ?_)
          · skip
            show Go (d + 1) true 271 105 [.ref 130, .int (nI tt), .int (nI k), .int (nI dn), .int (nI a), .int (nI s), .long (lN S), mk_, .int 0, .int (nI i), z10, z11] [.int 1] h1 Q
            refine exf_go 1 (show ((1 : Int32) = 0 → Go (d + 1) true 271 111 [.ref 130, .int (nI tt), .int (nI k), .int (nI dn), .int (nI a), .int (nI s), .long (lN S), mk_, .int 0, .int (nI i), z10, z11] [] h1 Q) ∧ (¬ ((1 : Int32) = 0) → Go (d + 1) true 271 108 [.ref 130, .int (nI tt), .int (nI k), .int (nI dn), .int (nI a), .int (nI s), .long (lN S), mk_, .int 0, .int (nI i), z10, z11] [] h1 Q) from ⟨fun c4 => ?_, fun c4 => ?_⟩)
            · skip
              exact absurd c4 (by decide)
            · skip
              refine exf_go 2 (show Go (d + 1) true 271 218 [.ref 130, .int (nI tt), .int (nI k), .int (nI dn), .int (nI a), .int (nI s), .long (lN S), mk_, .int 0, .int ((nI i) + 1), z10, z11] [] h1 Q from ?_)
              rw [show ((nI i) + 1 : Int32) = nI (i + 1) from nI_add i 1]
              refine exf_go 1 (show Go (d + 1) true 271 87 [.ref 130, .int (nI tt), .int (nI k), .int (nI dn), .int (nI a), .int (nI s), .long (lN S), mk_, .int 0, .int (nI (i + 1)), z10, z11] [] h1 Q from ?_)
              exact ih87 z10 z11 (i + 1) _ (by omega) (by omega) q1 (by rw [← sg_skip (show ntn dn i = false from by unfold ntn; exact decide_eq_false (by omega))]; exact hrs1) ht1
          · skip
            show Go (d + 1) true 271 105 [.ref 130, .int (nI tt), .int (nI k), .int (nI dn), .int (nI a), .int (nI s), .long (lN S), mk_, .int 0, .int (nI i), z10, z11] [.int 0] h1 Q
            refine exf_go 1 (show ((0 : Int32) = 0 → Go (d + 1) true 271 111 [.ref 130, .int (nI tt), .int (nI k), .int (nI dn), .int (nI a), .int (nI s), .long (lN S), mk_, .int 0, .int (nI i), z10, z11] [] h1 Q) ∧ (¬ ((0 : Int32) = 0) → Go (d + 1) true 271 108 [.ref 130, .int (nI tt), .int (nI k), .int (nI dn), .int (nI a), .int (nI s), .long (lN S), mk_, .int 0, .int (nI i), z10, z11] [] h1 Q) from ⟨fun c5 => ?_, fun c5 => ?_⟩)
            · skip
              refine exf_go 5 (show Go (d + 1) true 271 119 [.ref 130, .int (nI tt), .int (nI k), .int (nI dn), .int (nI a), .int (nI s), .long (lN S), mk_, .int 0, .int (nI i), z10, z11] [.int (40 * (nI tt)), .ref 151] h1 Q from ?_)
              rw [show (40 * (nI tt) : Int32) = nI (40 * tt) from pk_mul 40 tt]
              refine exf_go 2 (show Go (d + 1) true 271 122 [.ref 130, .int (nI tt), .int (nI k), .int (nI dn), .int (nI a), .int (nI s), .long (lN S), mk_, .int 0, .int (nI i), z10, z11] [.int ((nI (40 * tt)) + (nI i)), .ref 151] h1 Q from ?_)
              rw [show ((nI (40 * tt)) + (nI i) : Int32) = nI ((40 * tt) + i) from nI_add (40 * tt) i]
              refine exf_go 1 (show vp_in (nI ((40 * tt) + i)) 160 ∧ (Go (d + 1) true 271 123 [.ref 130, .int (nI tt), .int (nI k), .int (nI dn), .int (nI a), .int (nI s), .long (lN S), mk_, .int 0, .int (nI i), z10, z11] [.long (rJ h1 151 ((nI ((40 * tt) + i)).toNatClampNeg))] h1 Q) from ⟨(vp_in_nI (by omega) (by omega)), ?_⟩)
              rw [show (rJ h1 151 ((nI ((40 * tt) + i)).toNatClampNeg) : Int64) = lN (vN g vs i) from by rw [nI_clamp (by omega)]; exact (mt1.2.2.2.2 _ (by omega)).trans hvi.1]
              refine exf_go 1 (show Go (d + 1) true 271 124 [.ref 130, .int (nI tt), .int (nI k), .int (nI dn), .int (nI a), .int (nI s), .long (lN S), mk_, .int 0, .int (nI i), z10, z11] [.int ((lN (vN g vs i)).toInt32)] h1 Q from ?_)
              rw [show ((lN (vN g vs i)).toInt32 : Int32) = nI (vN g vs i) from lN_i _]
              refine exf_go 11 (show vp_in (nI k) 8 ∧ (wpC (d + 1) true 251 [.ref 130, .int (nI a), .int (nI (vN g vs i))] (uI h1 142 ((nI k).toNatClampNeg) (nI (vN g vs i))) (fun r h' => Go (d + 1) true 271 144 [.ref 130, .int (nI tt), .int (nI k), .int (nI dn), .int (nI a), .int (nI s), .long (lN S), mk_, .int 0, .int (nI i), .int (nI (vN g vs i)), z11] [r, .int (nI s)] h' Q)) from ⟨(vp_in_nI (by omega) (by omega)), ?_⟩)
              refine m_turns (ms_fq ms1 (Fq.uI' Fq.rfl' _ _ _ rfl)) (by omega) (by omega) ?_
              have := trn_b ms.1.1 a (vN g vs i)
              show Go (d + 1) true 271 144 [.ref 130, .int (nI tt), .int (nI k), .int (nI dn), .int (nI a), .int (nI s), .long (lN S), mk_, .int 0, .int (nI i), .int (nI (vN g vs i)), z11] [.int (nI (trn g a (vN g vs i))), .int (nI s)] (uI h1 142 ((nI k).toNatClampNeg) (nI (vN g vs i))) Q
              refine exf_go 1 (show Go (d + 1) true 271 145 [.ref 130, .int (nI tt), .int (nI k), .int (nI dn), .int (nI a), .int (nI s), .long (lN S), mk_, .int 0, .int (nI i), .int (nI (vN g vs i)), z11] [.int ((nI s) + (nI (trn g a (vN g vs i))))] (uI h1 142 ((nI k).toNatClampNeg) (nI (vN g vs i))) Q from ?_)
              rw [show ((nI s) + (nI (trn g a (vN g vs i))) : Int32) = nI (s + (trn g a (vN g vs i))) from nI_add s (trn g a (vN g vs i))]
              refine exf_go 2 (show ((0 : Int32) = 0 → Go (d + 1) true 271 159 [.ref 130, .int (nI tt), .int (nI k), .int (nI dn), .int (nI a), .int (nI s), .long (lN S), mk_, .int 0, .int (nI i), .int (nI (vN g vs i)), z11] [.int (nI (s + (trn g a (vN g vs i))))] (uI h1 142 ((nI k).toNatClampNeg) (nI (vN g vs i))) Q) ∧ (¬ ((0 : Int32) = 0) → Go (d + 1) true 271 150 [.ref 130, .int (nI tt), .int (nI k), .int (nI dn), .int (nI a), .int (nI s), .long (lN S), mk_, .int 0, .int (nI i), .int (nI (vN g vs i)), z11] [.int (nI (s + (trn g a (vN g vs i))))] (uI h1 142 ((nI k).toNatClampNeg) (nI (vN g vs i))) Q) from ⟨fun c6 => ?_, fun c6 => ?_⟩)
              · skip
                refine exf_go 2 (show Go (d + 1) true 271 161 [.ref 130, .int (nI tt), .int (nI k), .int (nI dn), .int (nI a), .int (nI s), .long (lN S), mk_, .int 0, .int (nI i), .int (nI (vN g vs i)), z11] [.int ((nI (s + (trn g a (vN g vs i)))) + 0)] (uI h1 142 ((nI k).toNatClampNeg) (nI (vN g vs i))) Q from ?_)
                rw [show ((nI (s + (trn g a (vN g vs i)))) + 0 : Int32) = nI ((s + (trn g a (vN g vs i))) + 0) from nI_add (s + (trn g a (vN g vs i))) 0]
                refine exf_go 6 (show Go (d + 1) true 271 168 [.ref 130, .int (nI tt), .int (nI k), .int (nI dn), .int (nI a), .int (nI s), .long (lN S), mk_, .int 0, .int (nI i), .int (nI (vN g vs i)), .int (nI ((s + (trn g a (vN g vs i))) + 0))] [.int ((nI k) + 1), .int (nI tt), .ref 130] (uI h1 142 ((nI k).toNatClampNeg) (nI (vN g vs i))) Q from ?_)
                rw [show ((nI k) + 1 : Int32) = nI (k + 1) from nI_add k 1]
                refine exf_go 4 (show Go (d + 1) true 271 173 [.ref 130, .int (nI tt), .int (nI k), .int (nI dn), .int (nI a), .int (nI s), .long (lN S), mk_, .int 0, .int (nI i), .int (nI (vN g vs i)), .int (nI ((s + (trn g a (vN g vs i))) + 0))] [.int (1 <<< ((nI i) &&& 31)), .int (nI dn), .int (nI (k + 1)), .int (nI tt), .ref 130] (uI h1 142 ((nI k).toNatClampNeg) (nI (vN g vs i))) Q from ?_)
                rw [show (1 <<< ((nI i) &&& 31) : Int32) = nI (2 ^ i) from nI_1shl (k := i) (by omega)]
                refine exf_go 1 (show Go (d + 1) true 271 174 [.ref 130, .int (nI tt), .int (nI k), .int (nI dn), .int (nI a), .int (nI s), .long (lN S), mk_, .int 0, .int (nI i), .int (nI (vN g vs i)), .int (nI ((s + (trn g a (vN g vs i))) + 0))] [.int ((nI dn) ||| (nI (2 ^ i))), .int (nI (k + 1)), .int (nI tt), .ref 130] (uI h1 142 ((nI k).toNatClampNeg) (nI (vN g vs i))) Q from ?_)
                rw [show ((nI dn) ||| (nI (2 ^ i)) : Int32) = nI (dn ||| (2 ^ i)) from nI_or dn (2 ^ i)]
                refine exf_go 5 (show ((0 : Int32) = 0 → Go (d + 1) true 271 208 [.ref 130, .int (nI tt), .int (nI k), .int (nI dn), .int (nI a), .int (nI s), .long (lN S), mk_, .int 0, .int (nI i), .int (nI (vN g vs i)), .int (nI ((s + (trn g a (vN g vs i))) + 0))] [.long (lN S), .int (nI ((s + (trn g a (vN g vs i))) + 0)), .int (nI (vN g vs i)), .int (nI (dn ||| (2 ^ i))), .int (nI (k + 1)), .int (nI tt), .ref 130] (uI h1 142 ((nI k).toNatClampNeg) (nI (vN g vs i))) Q) ∧ (¬ ((0 : Int32) = 0) → Go (d + 1) true 271 185 [.ref 130, .int (nI tt), .int (nI k), .int (nI dn), .int (nI a), .int (nI s), .long (lN S), mk_, .int 0, .int (nI i), .int (nI (vN g vs i)), .int (nI ((s + (trn g a (vN g vs i))) + 0))] [.long (lN S), .int (nI ((s + (trn g a (vN g vs i))) + 0)), .int (nI (vN g vs i)), .int (nI (dn ||| (2 ^ i))), .int (nI (k + 1)), .int (nI tt), .ref 130] (uI h1 142 ((nI k).toNatClampNeg) (nI (vN g vs i))) Q) from ⟨fun c7 => ?_, fun c7 => ?_⟩)
                · skip
                  refine exf_go 2 (show Go (d + 1) true 271 210 [.ref 130, .int (nI tt), .int (nI k), .int (nI dn), .int (nI a), .int (nI s), .long (lN S), mk_, .int 0, .int (nI i), .int (nI (vN g vs i)), .int (nI ((s + (trn g a (vN g vs i))) + 0))] [.long ((lN S) + 0), .int (nI ((s + (trn g a (vN g vs i))) + 0)), .int (nI (vN g vs i)), .int (nI (dn ||| (2 ^ i))), .int (nI (k + 1)), .int (nI tt), .ref 130] (uI h1 142 ((nI k).toNatClampNeg) (nI (vN g vs i))) Q from ?_)
                  rw [show ((lN S) + 0 : Int64) = lN (S + 0) from lN_add S 0]
                  refine exf_go 2 (show wpC (d + 1) true 271 [.ref 130, .int (nI tt), .int (nI (k + 1)), .int (nI (dn ||| (2 ^ i))), .int (nI (vN g vs i)), .int (nI ((s + (trn g a (vN g vs i))) + 0)), .long (lN (S + 0)), .int 0] (uI h1 142 ((nI k).toNatClampNeg) (nI (vN g vs i))) (fun _ h' => Go (d + 1) true 271 215 [.ref 130, .int (nI tt), .int (nI k), .int (nI dn), .int (nI a), .int (nI s), .long (lN S), mk_, .int 0, .int (nI i), .int (nI (vN g vs i)), .int (nI ((s + (trn g a (vN g vs i))) + 0))] [] h' Q) from ?_)
                  refine ih (k + 1) (dn ||| 2 ^ i) (vN g vs i) ((s + (trn g a (vN g vs i))) + 0) (S + 0) (va_up tk k (vN g vs i)) (sgN st (bsV false (fun _ => 1) S s dn) (nrF (ntn dn) (lgF g 0 (vN g vs) (fun _ => 1) n dn a) i) (fun c => pth g 0 (vN g vs) (fun _ => 1) n (va_up tk k (vN g vs c)) (k + 1) r (dn ||| 2 ^ c) (vN g vs c))) _ _ (ms_fq ms1 (Fq.uI' Fq.rfl' _ _ _ rfl)) (mw_fq mw1 rfl) (mt_same mt1 rfl rfl (fun _ _ => rfl)) (by omega) (by have := rmn_s (show i < n from by omega) hbz; omega) (or_b hdn (by omega)) (by omega) (by rw [Nat.add_zero]; exact Nat.le_trans hS (Nat.mul_le_mul_right _ (by omega))) hvi.2 (fun j hj => (Decidable.em (j = k)).elim (fun e => by rw [nI_clamp (by omega), e, rI_uI_eq, up_eq]) (fun e => by rw [nI_clamp (by omega), rI_uI_at e, up_ne e]; exact ht1 j (by omega))) hrs1 (fun h2 q2 hrs2 ht2 => ?_)
                  show Go (d + 1) true 271 215 [.ref 130, .int (nI tt), .int (nI k), .int (nI dn), .int (nI a), .int (nI s), .long (lN S), mk_, .int 0, .int (nI i), .int (nI (vN g vs i)), .int (nI ((s + (trn g a (vN g vs i))) + 0))] [] h2 Q
                  refine exf_go 1 (show Go (d + 1) true 271 218 [.ref 130, .int (nI tt), .int (nI k), .int (nI dn), .int (nI a), .int (nI s), .long (lN S), mk_, .int 0, .int ((nI i) + 1), .int (nI (vN g vs i)), .int (nI ((s + (trn g a (vN g vs i))) + 0))] [] h2 Q from ?_)
                  rw [show ((nI i) + 1 : Int32) = nI (i + 1) from nI_add i 1]
                  refine exf_go 1 (show Go (d + 1) true 271 87 [.ref 130, .int (nI tt), .int (nI k), .int (nI dn), .int (nI a), .int (nI s), .long (lN S), mk_, .int 0, .int (nI (i + 1)), .int (nI (vN g vs i)), .int (nI ((s + (trn g a (vN g vs i))) + 0))] [] h2 Q from ?_)
                  exact ih87 (.int (nI (vN g vs i))) (.int (nI ((s + (trn g a (vN g vs i))) + 0))) (i + 1) _ (by omega) (by omega) ((q1.uI' _ _ _ rfl).tr q2) (by have e := bs_step0 (g := g) (v := vN g vs) (n := n) (dn := dn) (i := i) (a := a) (s := s) (S := S) (S2 := S + 0); rw [← sg_step (f := (lgF g 0 (vN g vs) (fun _ => 1) n dn a)) (P := (fun c => pth g 0 (vN g vs) (fun _ => 1) n (va_up tk k (vN g vs c)) (k + 1) r (dn ||| 2 ^ c) (vN g vs c))) (show ntn dn i = true from by unfold ntn; exact decide_eq_true hbz), ← e]; exact hrs2) (fun j hj => by rw [ht2 j (by omega), up_ne (by omega)])
                · skip
                  exact absurd (by decide) c7
              · skip
                exact absurd (by decide) c6
            · skip
              exact absurd (by decide) c5
    exact L87 (n + 1) mk_ mk_ 0 h (by omega) (by omega) Fq.rfl' hrs htk
  · skip
    have c1 : k = n := (nI_eq (a := k) (b := n) (by omega) (by omega)).mp (Classical.not_not.mp c1)
    exact absurd c1 (by omega)
theorem m_goes0 {d : Nat} {g : ShG} {l : LkG} {tt so n : Nat} {vs : Nat → Int64} (etr : tt < 4) (hn1 : 1 ≤ n) (hn8 : n ≤ 8) (haw : awB vs (tot g) n = true) : ∀ r, GRC false 0 g l tt so n vs (d + r + 1) r
  | 0 => m_leaf0 etr hn1 hn8 haw
  | r + 1 => m_more0 (d := d + r) etr hn1 hn8 haw (m_goes0 etr hn1 hn8 haw r)
