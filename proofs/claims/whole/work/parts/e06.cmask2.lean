/-! The class: the clues that hold, as bits. -/
def pvE (o : CdG) : Nat → Nat
  | 0 => 0
  | c + 1 => o.2.2.1 c
def CdS (g : ShG) (o : CdG) : Prop := ∀ c, c < sC g → o.2.1 c = pvE o c
def CF (g : ShG) (o : CdG) (h : Hp) : Prop := (CdW g o ∧ CdS g o) ∧ rI h 17 4 = nI (sC g) ∧ (∀ c, c < sC g → rI h 20 c = nI (o.2.2.1 c)) ∧ ∀ j, j < o.2.2.2 → rI h 18 j = nI (dop (o.1 j)) ∧ rI h 19 j = nI (dod (o.1 j))
def sCe (a i : Nat) : Bool := sLk a i || sSt a i
theorem sLk_C (a i : Nat) (e : sCe a i = false) : sLk a i = false := (Bool.or_eq_false_iff.mp e).1
theorem sSt_C (a i : Nat) (e : sCe a i = false) : sSt a i = false := (Bool.or_eq_false_iff.mp e).2
theorem cf_fq {g : ShG} {o : CdG} {h h1 : Hp} (cf : CF g o h) (r : Fq sCe h h1) : CF g o h1 := ⟨cf.1, (r.1 17 4 rfl).1.trans cf.2.1, fun c hc => (r.1 20 c rfl).1.trans (cf.2.2.1 c hc), fun j hj => ⟨(r.1 18 j rfl).1.trans (cf.2.2.2 j hj).1, (r.1 19 j rfl).1.trans (cf.2.2.2 j hj).2⟩⟩
theorem dop_b (c : Nat) (h : c ≤ 3008) : dop c < 20 := by unfold dop; repeat' split
                                                          all_goals omega
theorem dod_b (c : Nat) (h : c ≤ 3008) : dod c < 1000 := by unfold dod; repeat' split
                                                            all_goals omega
theorem msk_n {f : Nat → Bool} {c : Nat} (h : f c = false) : msk f (c + 1) = msk f c := by rw [msk, h, if_neg (by decide), Nat.or_zero]
theorem msk_y {f : Nat → Bool} {c : Nat} (h : f c = true) : msk f (c + 1) = msk f c ||| 2 ^ c := by rw [msk, if_pos h]
theorem c_maskFor {d : Nat} {h : Hp} {g : ShG} {o : CdG} {nn : Nat} {Q : Po} (cs : CS 31 g h) (cf : CF g o h) (hnn : nn < 2 ^ 31) (k : ∀ h1, Fq sCe h h1 → Q (.int (nI (hlds g o nn))) h1) : wpC (d + 5) true 5 [.ref 17, .ref 31, .int (nI nn)] h Q := by
  have h4 := cs.1.1; have hC8 := cs.1.2.2.2.1
  refine go_in rfl ?_
  refine exf_go 4 (show wpC (d + 4) true 6 [.ref 17, .ref 31, .int (nI nn)] h (fun _ h' => Go (d + 4) true 5 6 [.ref 17, .ref 31, .int (nI nn), mk_, mk_, mk_, mk_] [] h' Q) from ?_)
  refine c_look cs hnn (fun h1 q1 ce1 => ?_)
  show Go (d + 4) true 5 6 [.ref 17, .ref 31, .int (nI nn), mk_, mk_, mk_, mk_] [] h1 Q
  refine exf_go 6 (show Go (d + 4) true 5 14 [.ref 17, .ref 31, .int (nI nn), .int 0, .int 0, .int 0, mk_] [] h1 Q from ?_)
  have L14 : ∀ (k14 : Nat) (z6 : Value) (c : Nat) (hL : Hp), (sC g - c) < k14 → (c ≤ sC g) → (Fq sCe h hL) → (CE (fgo g nn) (sW g) nn hL) → Go (d + 4) true 5 14 [.ref 17, .ref 31, .int (nI nn), .int (nI (msk (tvd g o nn) c)), .int (nI (pvE o c)), .int (nI c), z6] [] hL Q := by
    intro k14
    induction k14 with
    | zero => intro z6 c hL hk; exact absurd hk (Nat.not_lt_zero _)
    | succ k14 ih14 =>
      intro z6 c hL hk hc qL ceL
      have cfL := cf_fq cf qL
      have hmb := msk_8 (tvd g o nn) (c := c) (by omega)
      refine exf_go 3 (show Go (d + 4) true 5 20 [.ref 17, .ref 31, .int (nI nn), .int (nI (msk (tvd g o nn) c)), .int (nI (pvE o c)), .int (nI c), z6] [.int (rI hL 17 4), .int (nI c)] hL Q from ?_)
      rw [show (rI hL 17 4 : Int32) = nI (sC g) from cfL.2.1]
      refine exf_go 1 (show ((nI (sC g)) ≤ (nI c) → Go (d + 4) true 5 97 [.ref 17, .ref 31, .int (nI nn), .int (nI (msk (tvd g o nn) c)), .int (nI (pvE o c)), .int (nI c), z6] [] hL Q) ∧ (¬ ((nI (sC g)) ≤ (nI c)) → Go (d + 4) true 5 23 [.ref 17, .ref 31, .int (nI nn), .int (nI (msk (tvd g o nn) c)), .int (nI (pvE o c)), .int (nI c), z6] [] hL Q) from ⟨fun c1 => ?_, fun c1 => ?_⟩)
      · skip
        have c1 : (sC g) ≤ c := (nI_leI (a := (sC g)) (b := c) (by omega) (by omega)).mp c1
        refine exf_go 2 (show Q (.int (nI (msk (tvd g o nn) c))) hL from ?_)
        rw [show msk (tvd g o nn) c = hlds g o nn from by rw [show c = sC g from by omega]; rfl]; exact k _ qL
      · skip
        have c1 : ¬ (sC g) ≤ c := fun q => c1 ((nI_leI (a := (sC g)) (b := c) (by omega) (by omega)).mpr q)
        refine exf_go 5 (show Go (d + 4) true 5 32 [.ref 17, .ref 31, .int (nI nn), .int (nI (msk (tvd g o nn) c)), .int (nI (pvE o c)), .int (nI c), .int (nI (pvE o c))] [] (uI hL 17 6 0) Q from ?_)
        have L32 : ∀ (k32 : Nat) (k m : Nat) (l : List Int32) (hI : Hp), ((o.2.2.1 c - o.2.1 c) - k) < k32 → (k ≤ o.2.2.1 c - o.2.1 c) → (m ≤ 18) → (Fq sCe h hI) → (CE (fgo g nn) (sW g) nn hI) → (CK l m hI) → (rok (sW g) (wvI (sW g) (fgo g nn) nn) o.1 18 (fun l => (∃ v, l = [v] ∧ b01 v) ∧ l = evl (wvI (sW g) (fgo g nn) nn) o.1 (o.2.2.1 c - o.2.1 c) (o.2.1 c) []) (o.2.2.1 c - o.2.1 c - k) (o.2.1 c + k) l) → Go (d + 4) true 5 32 [.ref 17, .ref 31, .int (nI nn), .int (nI (msk (tvd g o nn) c)), .int (nI (pvE o c)), .int (nI c), .int (nI (o.2.1 c + k))] [] hI Q := by
          intro k32
          induction k32 with
          | zero => intro k m l hI hk; exact absurd hk (Nat.not_lt_zero _)
          | succ k32 ih32 =>
            intro k m l hI hk hk hm18 qI ceI ck hr
            have cfI := cf_fq cf qI
            have hcw := cf.1.1.2 c (by omega); have hle := hcw.2.1; have h900 := cf.1.1.1
            refine exf_go 5 (show vp_in (nI c) 8 ∧ (Go (d + 4) true 5 41 [.ref 17, .ref 31, .int (nI nn), .int (nI (msk (tvd g o nn) c)), .int (nI (pvE o c)), .int (nI c), .int (nI (o.2.1 c + k))] [.int (rI hI 20 ((nI c).toNatClampNeg)), .int (nI (o.2.1 c + k))] hI Q) from ⟨(vp_in_nI (by omega) (by omega)), ?_⟩)
            rw [show (rI hI 20 ((nI c).toNatClampNeg) : Int32) = nI (o.2.2.1 c) from by rw [nI_clamp (by omega)]; exact cfI.2.2.1 c (by omega)]
            refine exf_go 1 (show ((nI (o.2.2.1 c)) ≤ (nI (o.2.1 c + k)) → Go (d + 4) true 5 68 [.ref 17, .ref 31, .int (nI nn), .int (nI (msk (tvd g o nn) c)), .int (nI (pvE o c)), .int (nI c), .int (nI (o.2.1 c + k))] [] hI Q) ∧ (¬ ((nI (o.2.2.1 c)) ≤ (nI (o.2.1 c + k))) → Go (d + 4) true 5 44 [.ref 17, .ref 31, .int (nI nn), .int (nI (msk (tvd g o nn) c)), .int (nI (pvE o c)), .int (nI c), .int (nI (o.2.1 c + k))] [] hI Q) from ⟨fun c2 => ?_, fun c2 => ?_⟩)
            · skip
              have c2 : (o.2.2.1 c) ≤ (o.2.1 c + k) := (nI_leI (a := (o.2.2.1 c)) (b := (o.2.1 c + k)) (by omega) (by omega)).mp c2
              rw [show o.2.2.1 c - o.2.1 c - k = 0 from by omega] at hr
              obtain ⟨⟨v, hlv, hbv⟩, hev⟩ := hr
              subst hlv
              refine exf_go 2 (show wpC (d + 4) true 11 [.ref 17] hI (fun r h' => Go (d + 4) true 5 72 [.ref 17, .ref 31, .int (nI nn), .int (nI (msk (tvd g o nn) c)), .int (nI (pvE o c)), .int (nI c), .int (nI (o.2.1 c + k))] [r] h' Q) from ?_)
              refine c_popV ck (by omega) (fun hP qp ckP => ?_)
              have qP : Fq sCe h hP := qI.tr (qp.mono sSt_C); have ceP := ce_fq ceI qp; have cfP := cf_fq cf qP
              show Go (d + 4) true 5 72 [.ref 17, .ref 31, .int (nI nn), .int (nI (msk (tvd g o nn) c)), .int (nI (pvE o c)), .int (nI c), .int (nI (o.2.1 c + k))] [.int v] hP Q
              refine exf_go 1 (show (v = 0 → Go (d + 4) true 5 82 [.ref 17, .ref 31, .int (nI nn), .int (nI (msk (tvd g o nn) c)), .int (nI (pvE o c)), .int (nI c), .int (nI (o.2.1 c + k))] [] hP Q) ∧ (¬ (v = 0) → Go (d + 4) true 5 75 [.ref 17, .ref 31, .int (nI nn), .int (nI (msk (tvd g o nn) c)), .int (nI (pvE o c)), .int (nI c), .int (nI (o.2.1 c + k))] [] hP Q) from ⟨fun c3 => ?_, fun c3 => ?_⟩)
              · skip
                have htv : tvd g o nn c = false := decide_eq_false (fun z => by rw [c3] at hev; exact absurd (hev.trans z) (by decide))
                refine exf_go 4 (show vp_in (nI c) 8 ∧ (Go (d + 4) true 5 89 [.ref 17, .ref 31, .int (nI nn), .int (nI (msk (tvd g o nn) c)), .int (nI (pvE o c)), .int (nI c), .int (nI (o.2.1 c + k))] [.int (rI hP 20 ((nI c).toNatClampNeg))] hP Q) from ⟨(vp_in_nI (by omega) (by omega)), ?_⟩)
                rw [show (rI hP 20 ((nI c).toNatClampNeg) : Int32) = nI (o.2.2.1 c) from by rw [nI_clamp (by omega)]; exact cfP.2.2.1 c (by omega)]
                refine exf_go 2 (show Go (d + 4) true 5 94 [.ref 17, .ref 31, .int (nI nn), .int (nI (msk (tvd g o nn) c)), .int (nI (o.2.2.1 c)), .int ((nI c) + 1), .int (nI (o.2.1 c + k))] [] hP Q from ?_)
                rw [show ((nI c) + 1 : Int32) = nI (c + 1) from nI_add c 1]
                refine exf_go 1 (show Go (d + 4) true 5 14 [.ref 17, .ref 31, .int (nI nn), .int (nI (msk (tvd g o nn) c)), .int (nI (o.2.2.1 c)), .int (nI (c + 1)), .int (nI (o.2.1 c + k))] [] hP Q from ?_)
                rw [← msk_n htv]
                exact ih14 (.int (nI (o.2.1 c + k))) (c + 1) hP (by omega) (by omega) qP ceP
              · skip
                have hv1 : v = 1 := hbv.resolve_left c3
                have htv : tvd g o nn c = true := decide_eq_true (by rw [hv1] at hev; exact hev.symm)
                refine exf_go 4 (show Go (d + 4) true 5 80 [.ref 17, .ref 31, .int (nI nn), .int (nI (msk (tvd g o nn) c)), .int (nI (pvE o c)), .int (nI c), .int (nI (o.2.1 c + k))] [.int (1 <<< ((nI c) &&& 31)), .int (nI (msk (tvd g o nn) c))] hP Q from ?_)
                rw [show (1 <<< ((nI c) &&& 31) : Int32) = nI (2 ^ c) from nI_1shl (k := c) (by omega)]
                refine exf_go 1 (show Go (d + 4) true 5 81 [.ref 17, .ref 31, .int (nI nn), .int (nI (msk (tvd g o nn) c)), .int (nI (pvE o c)), .int (nI c), .int (nI (o.2.1 c + k))] [.int ((nI (msk (tvd g o nn) c)) ||| (nI (2 ^ c)))] hP Q from ?_)
                rw [show ((nI (msk (tvd g o nn) c)) ||| (nI (2 ^ c)) : Int32) = nI (msk (tvd g o nn) (c + 1)) from by rw [msk_y htv]; exact nI_or _ _]
                refine exf_go 5 (show vp_in (nI c) 8 ∧ (Go (d + 4) true 5 89 [.ref 17, .ref 31, .int (nI nn), .int (nI (msk (tvd g o nn) (c + 1))), .int (nI (pvE o c)), .int (nI c), .int (nI (o.2.1 c + k))] [.int (rI hP 20 ((nI c).toNatClampNeg))] hP Q) from ⟨(vp_in_nI (by omega) (by omega)), ?_⟩)
                rw [show (rI hP 20 ((nI c).toNatClampNeg) : Int32) = nI (o.2.2.1 c) from by rw [nI_clamp (by omega)]; exact cfP.2.2.1 c (by omega)]
                refine exf_go 2 (show Go (d + 4) true 5 94 [.ref 17, .ref 31, .int (nI nn), .int (nI (msk (tvd g o nn) (c + 1))), .int (nI (o.2.2.1 c)), .int ((nI c) + 1), .int (nI (o.2.1 c + k))] [] hP Q from ?_)
                rw [show ((nI c) + 1 : Int32) = nI (c + 1) from nI_add c 1]
                refine exf_go 1 (show Go (d + 4) true 5 14 [.ref 17, .ref 31, .int (nI nn), .int (nI (msk (tvd g o nn) (c + 1))), .int (nI (o.2.2.1 c)), .int (nI (c + 1)), .int (nI (o.2.1 c + k))] [] hP Q from ?_)
                exact ih14 (.int (nI (o.2.1 c + k))) (c + 1) hP (by omega) (by omega) qP ceP
            · skip
              have c2 : ¬ (o.2.2.1 c) ≤ (o.2.1 c + k) := fun q => c2 ((nI_leI (a := (o.2.2.1 c)) (b := (o.2.1 c + k)) (by omega) (by omega)).mpr q)
              rw [show o.2.2.1 c - o.2.1 c - k = (o.2.2.1 c - o.2.1 c - (k + 1)) + 1 from by omega, rok] at hr
              rcases hr with ⟨g1, g2, g3, g4⟩ | ⟨g1, x, r, g2, g3, g4⟩ | ⟨g1, y, x, r, g2, g3, g4⟩
              · skip
                have hq1 : l.length = m := ck.1.1
                have hcb : o.1 (o.2.1 c + k) ≤ 3008 := by omega
                refine exf_go 5 (show vp_in (nI (o.2.1 c + k)) 900 ∧ (Go (d + 4) true 5 52 [.ref 17, .ref 31, .int (nI nn), .int (nI (msk (tvd g o nn) c)), .int (nI (pvE o c)), .int (nI c), .int (nI (o.2.1 c + k))] [.int (rI hI 18 ((nI (o.2.1 c + k)).toNatClampNeg)), .ref 17] hI Q) from ⟨(vp_in_nI (by omega) (by omega)), ?_⟩)
                rw [show (rI hI 18 ((nI (o.2.1 c + k)).toNatClampNeg) : Int32) = nI (dop (o.1 (o.2.1 c + k))) from by rw [nI_clamp (by omega)]; exact (cfI.2.2.2 _ (by omega)).1]
                have hd18 := dop_b _ hcb
                refine exf_go 4 (show vp_in (nI (o.2.1 c + k)) 900 ∧ (Go (d + 4) true 5 59 [.ref 17, .ref 31, .int (nI nn), .int (nI (msk (tvd g o nn) c)), .int (nI (pvE o c)), .int (nI c), .int (nI (o.2.1 c + k))] [.int (rI hI 19 ((nI (o.2.1 c + k)).toNatClampNeg)), .int (nI (dop (o.1 (o.2.1 c + k)))), .ref 17] hI Q) from ⟨(vp_in_nI (by omega) (by omega)), ?_⟩)
                rw [show (rI hI 19 ((nI (o.2.1 c + k)).toNatClampNeg) : Int32) = nI (dod (o.1 (o.2.1 c + k))) from by rw [nI_clamp (by omega)]; exact (cfI.2.2.2 _ (by omega)).2]
                have hd19 := dod_b _ hcb
                refine exf_go 1 (show wpC (d + 4) true 7 [.ref 17, .int (nI (dop (o.1 (o.2.1 c + k)))), .int (nI (dod (o.1 (o.2.1 c + k))))] hI (fun _ h' => Go (d + 4) true 5 62 [.ref 17, .ref 31, .int (nI nn), .int (nI (msk (tvd g o nn) c)), .int (nI (pvE o c)), .int (nI c), .int (nI (o.2.1 c + k))] [] h' Q) from ?_)
                refine c_applyA ceI (by omega) g2 ck (fun h2 q2 ck2 => ?_)
                show Go (d + 4) true 5 62 [.ref 17, .ref 31, .int (nI nn), .int (nI (msk (tvd g o nn) c)), .int (nI (pvE o c)), .int (nI c), .int (nI (o.2.1 c + k))] [] h2 Q
                refine exf_go 1 (show Go (d + 4) true 5 65 [.ref 17, .ref 31, .int (nI nn), .int (nI (msk (tvd g o nn) c)), .int (nI (pvE o c)), .int (nI c), .int ((nI (o.2.1 c + k)) + 1)] [] h2 Q from ?_)
                rw [show ((nI (o.2.1 c + k)) + 1 : Int32) = nI ((o.2.1 c + k) + 1) from nI_add (o.2.1 c + k) 1]
                refine exf_go 1 (show Go (d + 4) true 5 32 [.ref 17, .ref 31, .int (nI nn), .int (nI (msk (tvd g o nn) c)), .int (nI (pvE o c)), .int (nI c), .int (nI ((o.2.1 c + k) + 1))] [] h2 Q from ?_)
                exact ih32 (k + 1) (m + 1) _ h2 (by omega) (by omega) (by omega) (qI.tr (q2.mono sSt_C)) (ce_fq ceI q2) ck2 g4
              · skip
                subst g2
                have hcb : o.1 (o.2.1 c + k) ≤ 3008 := by omega
                refine exf_go 5 (show vp_in (nI (o.2.1 c + k)) 900 ∧ (Go (d + 4) true 5 52 [.ref 17, .ref 31, .int (nI nn), .int (nI (msk (tvd g o nn) c)), .int (nI (pvE o c)), .int (nI c), .int (nI (o.2.1 c + k))] [.int (rI hI 18 ((nI (o.2.1 c + k)).toNatClampNeg)), .ref 17] hI Q) from ⟨(vp_in_nI (by omega) (by omega)), ?_⟩)
                rw [show (rI hI 18 ((nI (o.2.1 c + k)).toNatClampNeg) : Int32) = nI (dop (o.1 (o.2.1 c + k))) from by rw [nI_clamp (by omega)]; exact (cfI.2.2.2 _ (by omega)).1]
                have hd18 := dop_b _ hcb
                refine exf_go 4 (show vp_in (nI (o.2.1 c + k)) 900 ∧ (Go (d + 4) true 5 59 [.ref 17, .ref 31, .int (nI nn), .int (nI (msk (tvd g o nn) c)), .int (nI (pvE o c)), .int (nI c), .int (nI (o.2.1 c + k))] [.int (rI hI 19 ((nI (o.2.1 c + k)).toNatClampNeg)), .int (nI (dop (o.1 (o.2.1 c + k)))), .ref 17] hI Q) from ⟨(vp_in_nI (by omega) (by omega)), ?_⟩)
                rw [show (rI hI 19 ((nI (o.2.1 c + k)).toNatClampNeg) : Int32) = nI (dod (o.1 (o.2.1 c + k))) from by rw [nI_clamp (by omega)]; exact (cfI.2.2.2 _ (by omega)).2]
                have hd19 := dod_b _ hcb
                refine exf_go 1 (show wpC (d + 4) true 7 [.ref 17, .int (nI (dop (o.1 (o.2.1 c + k)))), .int (nI (dod (o.1 (o.2.1 c + k))))] hI (fun _ h' => Go (d + 4) true 5 62 [.ref 17, .ref 31, .int (nI nn), .int (nI (msk (tvd g o nn) c)), .int (nI (pvE o c)), .int (nI c), .int (nI (o.2.1 c + k))] [] h' Q) from ?_)
                rw [g1]
                refine c_apply6 g3 (by omega) ck (fun h2 q2 ck2 => ?_)
                show Go (d + 4) true 5 62 [.ref 17, .ref 31, .int (nI nn), .int (nI (msk (tvd g o nn) c)), .int (nI (pvE o c)), .int (nI c), .int (nI (o.2.1 c + k))] [] h2 Q
                refine exf_go 1 (show Go (d + 4) true 5 65 [.ref 17, .ref 31, .int (nI nn), .int (nI (msk (tvd g o nn) c)), .int (nI (pvE o c)), .int (nI c), .int ((nI (o.2.1 c + k)) + 1)] [] h2 Q from ?_)
                rw [show ((nI (o.2.1 c + k)) + 1 : Int32) = nI ((o.2.1 c + k) + 1) from nI_add (o.2.1 c + k) 1]
                refine exf_go 1 (show Go (d + 4) true 5 32 [.ref 17, .ref 31, .int (nI nn), .int (nI (msk (tvd g o nn) c)), .int (nI (pvE o c)), .int (nI c), .int (nI ((o.2.1 c + k) + 1))] [] h2 Q from ?_)
                exact ih32 (k + 1) m _ h2 (by omega) (by omega) (by omega) (qI.tr (q2.mono sSt_C)) (ce_fq ceI q2) ck2 g4
              · skip
                subst g2
                have hq1 : r.length + 1 + 1 = m := ck.1.1
                have hcb : o.1 (o.2.1 c + k) ≤ 3008 := by omega
                refine exf_go 5 (show vp_in (nI (o.2.1 c + k)) 900 ∧ (Go (d + 4) true 5 52 [.ref 17, .ref 31, .int (nI nn), .int (nI (msk (tvd g o nn) c)), .int (nI (pvE o c)), .int (nI c), .int (nI (o.2.1 c + k))] [.int (rI hI 18 ((nI (o.2.1 c + k)).toNatClampNeg)), .ref 17] hI Q) from ⟨(vp_in_nI (by omega) (by omega)), ?_⟩)
                rw [show (rI hI 18 ((nI (o.2.1 c + k)).toNatClampNeg) : Int32) = nI (dop (o.1 (o.2.1 c + k))) from by rw [nI_clamp (by omega)]; exact (cfI.2.2.2 _ (by omega)).1]
                have hd18 := dop_b _ hcb
                refine exf_go 4 (show vp_in (nI (o.2.1 c + k)) 900 ∧ (Go (d + 4) true 5 59 [.ref 17, .ref 31, .int (nI nn), .int (nI (msk (tvd g o nn) c)), .int (nI (pvE o c)), .int (nI c), .int (nI (o.2.1 c + k))] [.int (rI hI 19 ((nI (o.2.1 c + k)).toNatClampNeg)), .int (nI (dop (o.1 (o.2.1 c + k)))), .ref 17] hI Q) from ⟨(vp_in_nI (by omega) (by omega)), ?_⟩)
                rw [show (rI hI 19 ((nI (o.2.1 c + k)).toNatClampNeg) : Int32) = nI (dod (o.1 (o.2.1 c + k))) from by rw [nI_clamp (by omega)]; exact (cfI.2.2.2 _ (by omega)).2]
                have hd19 := dod_b _ hcb
                refine exf_go 1 (show wpC (d + 4) true 7 [.ref 17, .int (nI (dop (o.1 (o.2.1 c + k)))), .int (nI (dod (o.1 (o.2.1 c + k))))] hI (fun _ h' => Go (d + 4) true 5 62 [.ref 17, .ref 31, .int (nI nn), .int (nI (msk (tvd g o nn) c)), .int (nI (pvE o c)), .int (nI c), .int (nI (o.2.1 c + k))] [] h' Q) from ?_)
                refine c_applyC g1.1 g1.2 (by omega) ck (fun h2 q2 ck2 => ?_)
                show Go (d + 4) true 5 62 [.ref 17, .ref 31, .int (nI nn), .int (nI (msk (tvd g o nn) c)), .int (nI (pvE o c)), .int (nI c), .int (nI (o.2.1 c + k))] [] h2 Q
                refine exf_go 1 (show Go (d + 4) true 5 65 [.ref 17, .ref 31, .int (nI nn), .int (nI (msk (tvd g o nn) c)), .int (nI (pvE o c)), .int (nI c), .int ((nI (o.2.1 c + k)) + 1)] [] h2 Q from ?_)
                rw [show ((nI (o.2.1 c + k)) + 1 : Int32) = nI ((o.2.1 c + k) + 1) from nI_add (o.2.1 c + k) 1]
                refine exf_go 1 (show Go (d + 4) true 5 32 [.ref 17, .ref 31, .int (nI nn), .int (nI (msk (tvd g o nn) c)), .int (nI (pvE o c)), .int (nI c), .int (nI ((o.2.1 c + k) + 1))] [] h2 Q from ?_)
                exact ih32 (k + 1) (m - 1) _ h2 (by omega) (by omega) (by omega) (qI.tr (q2.mono sSt_C)) (ce_fq ceI q2) ck2 g4
        have hcw := cf.1.1.2 c (by omega); have hle := hcw.2.1; have hps := cf.1.2 c (by omega); have h900 := cf.1.1.1
        rw [show [Value.ref 17, .ref 31, .int (nI nn), .int (nI (msk (tvd g o nn) c)), .int (nI (pvE o c)), .int (nI c), .int (nI (pvE o c))] = [.ref 17, .ref 31, .int (nI nn), .int (nI (msk (tvd g o nn) c)), .int (nI (pvE o c)), .int (nI c), .int (nI (o.2.1 c + 0))] from by rw [Nat.add_zero, hps]]
        exact L32 ((o.2.2.1 c - o.2.1 c) + 1) 0 0 [] _ (by omega) (by omega) (by omega) (qL.uI' _ _ _ rfl) (ce_fq ceL (Fq.rfl'.uI' _ _ _ rfl)) ⟨⟨rfl, rfl⟩, trivial⟩ (clue_rok (by omega) cf.1.1)
  exact L14 ((sC g) + 1) mk_ 0 h1 (by omega) (by omega) (q1.mono sLk_C) ce1
