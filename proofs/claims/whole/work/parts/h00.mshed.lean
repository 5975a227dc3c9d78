/-! The model: a plain row, the shed call. -/
def plv (i : Nat) : Int32 := if i = 4 then 1 else if i = 5 then 3 else if i = 9 then -1 else if 54 ≤ i ∧ i < 58 then 1023 else 0
def plu (u i : Nat) : Int32 := if i = 4 then 1 else if i = 5 then 3 else if i = 9 then -1 else if 54 ≤ i ∧ i < 54 + u then 1023 else 0
def PL (z : Nat) (h : Hp) : Prop := ∀ i, i < 13841 → rI h z i = plv i
theorem plu_0 {z : Nat} {h : Hp} (hz : ∀ i, i < 13841 → rI h z i = 0) : ∀ i, i < 13841 → rI (uI (uI (uI h z 4 1) z 5 3) z 9 (-1)) z i = plu 0 i := by
  intro i hi
  unfold plu
  by_cases e9 : i = 9
  · rw [e9, rI_uI_eq]; rfl
  · rw [rI_uI_at e9]
    by_cases e5 : i = 5
    · rw [e5, rI_uI_eq]; rfl
    · rw [rI_uI_at e5]
      by_cases e4 : i = 4
      · rw [e4, rI_uI_eq]; rfl
      · rw [rI_uI_at e4, if_neg e4, if_neg e5, if_neg e9, if_neg (by omega)]; exact hz i hi
theorem plu_s {z u : Nat} {h : Hp} (hz : ∀ i, i < 13841 → rI h z i = plu u i) : ∀ i, i < 13841 → rI (uI h z (54 + u) 1023) z i = plu (u + 1) i := by
  intro i hi
  by_cases e : i = 54 + u
  · rw [e, rI_uI_eq]
    unfold plu
    rw [if_neg (by omega), if_neg (by omega), if_neg (by omega), if_pos (by omega)]
  · rw [rI_uI_at e, hz i hi]
    unfold plu
    by_cases e4 : i = 4
    · rw [if_pos e4, if_pos e4]
    · rw [if_neg e4, if_neg e4]
      by_cases e5 : i = 5
      · rw [if_pos e5, if_pos e5]
      · rw [if_neg e5, if_neg e5]
        by_cases e9 : i = 9
        · rw [if_pos e9, if_pos e9]
        · rw [if_neg e9, if_neg e9]
          by_cases q : 54 ≤ i ∧ i < 54 + u
          · rw [if_pos q, if_pos (by omega)]
          · rw [if_neg q, if_neg (by omega)]
theorem m_plain134 {d : Nat} {h : Hp} {Q : Po} (k : ∀ h1, Fq (sAt 134) h h1 → PL 134 h1 → Q mk_ h1) : wpC (d + 1) true 185 [.ref 134] h Q := by
  refine go_in rfl ?_
  refine exf_go 2 (show Go d true 185 2 [.ref 134, .int 0] [] h Q from ?_)
  have L2 : ∀ (k2 : Nat) (j : Nat) (hL : Hp), (13841 - j) < k2 → (j ≤ 13841) → (Fq (sAt 134) h hL) → (∀ i, i < j → rI hL 134 i = 0) → Go d true 185 2 [.ref 134, .int (nI j)] [] hL Q := by
    intro k2
    induction k2 with
    | zero => intro j hL hk; exact absurd hk (Nat.not_lt_zero _)
    | succ k2 ih2 =>
      intro j hL hk hj qL hv
      refine exf_go 3 (show (13841 ≤ (nI j) → Go d true 185 19 [.ref 134, .int (nI j)] [] hL Q) ∧ (¬ (13841 ≤ (nI j)) → Go d true 185 9 [.ref 134, .int (nI j)] [] hL Q) from ⟨fun c1 => ?_, fun c1 => ?_⟩)
      · skip
        have c1 : 13841 ≤ j := (nI_leI (a := 13841) (b := j) (by omega) (by omega)).mp c1
        refine exf_go 14 (show vp_in 4 13841 ∧ vp_in 5 13841 ∧ vp_in 9 13841 ∧ (Go d true 185 34 [.ref 134, .int 0] [] (uI (uI (uI hL 134 4 1) 134 5 3) 134 9 (-1)) Q) from ⟨(vp_in_nI (n := 4) (by decide) (by decide)), (vp_in_nI (n := 5) (by decide) (by decide)), (vp_in_nI (n := 9) (by decide) (by decide)), ?_⟩)
        have L34 : ∀ (k34 : Nat) (u : Nat) (hM : Hp), (4 - u) < k34 → (u ≤ 4) → (Fq (sAt 134) h hM) → (∀ i, i < 13841 → rI hM 134 i = plu u i) → Go d true 185 34 [.ref 134, .int (nI u)] [] hM Q := by
          intro k34
          induction k34 with
          | zero => intro u hM hk; exact absurd hk (Nat.not_lt_zero _)
          | succ k34 ih34 =>
            intro u hM hk hu qM hm
            refine exf_go 3 (show (4 ≤ (nI u) → Go d true 185 54 [.ref 134, .int (nI u)] [] hM Q) ∧ (¬ (4 ≤ (nI u)) → Go d true 185 39 [.ref 134, .int (nI u)] [] hM Q) from ⟨fun c2 => ?_, fun c2 => ?_⟩)
            · skip
              have c2 : 4 ≤ u := (nI_leI (a := 4) (b := u) (by omega) (by omega)).mp c2
              refine exf_go 1 (show Q (mk_) hM from ?_)
              exact k _ qM (fun i hi => by rw [hm i hi, show u = 4 from by omega]; rfl)
            · skip
              have c2 : ¬ 4 ≤ u := fun q => c2 ((nI_leI (a := 4) (b := u) (by omega) (by omega)).mpr q)
              refine exf_go 4 (show Go d true 185 44 [.ref 134, .int (nI u)] [.int (54 + (nI u)), .ref 134] hM Q from ?_)
              rw [show (54 + (nI u) : Int32) = nI (54 + u) from nI_add 54 u]
              refine exf_go 3 (show vp_in (nI (54 + u)) 13841 ∧ (Go d true 185 51 [.ref 134, .int ((nI u) + 1)] [] (uI hM 134 ((nI (54 + u)).toNatClampNeg) 1023) Q) from ⟨(vp_in_nI (by omega) (by omega)), ?_⟩)
              rw [show ((nI u) + 1 : Int32) = nI (u + 1) from nI_add u 1]
              refine exf_go 1 (show Go d true 185 34 [.ref 134, .int (nI (u + 1))] [] (uI hM 134 ((nI (54 + u)).toNatClampNeg) 1023) Q from ?_)
              exact ih34 (u + 1) _ (by omega) (by omega) (qM.uI' _ _ _ rfl) (by rw [nI_clamp (by omega)]; exact plu_s hm)
        exact L34 (4 + 1) 0 _ (by omega) (by omega) (((qL.uI' _ _ _ rfl).uI' _ _ _ rfl).uI' _ _ _ rfl) (plu_0 (fun i hi => hv i (by omega)))
      · skip
        have c1 : ¬ 13841 ≤ j := fun q => c1 ((nI_leI (a := 13841) (b := j) (by omega) (by omega)).mpr q)
        refine exf_go 5 (show vp_in (nI j) 13841 ∧ (Go d true 185 16 [.ref 134, .int ((nI j) + 1)] [] (uI hL 134 ((nI j).toNatClampNeg) 0) Q) from ⟨(vp_in_nI (by omega) (by omega)), ?_⟩)
        rw [show ((nI j) + 1 : Int32) = nI (j + 1) from nI_add j 1]
        refine exf_go 1 (show Go d true 185 2 [.ref 134, .int (nI (j + 1))] [] (uI hL 134 ((nI j).toNatClampNeg) 0) Q from ?_)
        exact ih2 (j + 1) _ (by omega) (by omega) (qL.uI' _ _ _ rfl) (fun i hi => by rw [nI_clamp (by omega)]; exact (Decidable.em (i = j)).elim (fun e => by rw [e, rI_uI_eq]) (fun e => by rw [rI_uI_at e]; exact hv i (by omega)))
  exact L2 (13841 + 1) 0 h (by omega) (by omega) Fq.rfl' (fun i hi => absurd hi (Nat.not_lt_zero _))
theorem m_plain131 {d : Nat} {h : Hp} {Q : Po} (k : ∀ h1, Fq (sAt 131) h h1 → PL 131 h1 → Q mk_ h1) : wpC (d + 1) false 185 [.ref 131] h Q := by
  refine go_in rfl ?_
  refine exf_go 2 (show Go d false 185 2 [.ref 131, .int 0] [] h Q from ?_)
  have L2 : ∀ (k2 : Nat) (j : Nat) (hL : Hp), (13841 - j) < k2 → (j ≤ 13841) → (Fq (sAt 131) h hL) → (∀ i, i < j → rI hL 131 i = 0) → Go d false 185 2 [.ref 131, .int (nI j)] [] hL Q := by
    intro k2
    induction k2 with
    | zero => intro j hL hk; exact absurd hk (Nat.not_lt_zero _)
    | succ k2 ih2 =>
      intro j hL hk hj qL hv
      refine exf_go 3 (show (13841 ≤ (nI j) → Go d false 185 19 [.ref 131, .int (nI j)] [] hL Q) ∧ (¬ (13841 ≤ (nI j)) → Go d false 185 9 [.ref 131, .int (nI j)] [] hL Q) from ⟨fun c1 => ?_, fun c1 => ?_⟩)
      · skip
        have c1 : 13841 ≤ j := (nI_leI (a := 13841) (b := j) (by omega) (by omega)).mp c1
        refine exf_go 14 (show vp_in 4 41523 ∧ vp_in 5 41523 ∧ vp_in 9 41523 ∧ (Go d false 185 34 [.ref 131, .int 0] [] (uI (uI (uI hL 131 4 1) 131 5 3) 131 9 (-1)) Q) from ⟨(vp_in_nI (n := 4) (by decide) (by decide)), (vp_in_nI (n := 5) (by decide) (by decide)), (vp_in_nI (n := 9) (by decide) (by decide)), ?_⟩)
        have L34 : ∀ (k34 : Nat) (u : Nat) (hM : Hp), (4 - u) < k34 → (u ≤ 4) → (Fq (sAt 131) h hM) → (∀ i, i < 13841 → rI hM 131 i = plu u i) → Go d false 185 34 [.ref 131, .int (nI u)] [] hM Q := by
          intro k34
          induction k34 with
          | zero => intro u hM hk; exact absurd hk (Nat.not_lt_zero _)
          | succ k34 ih34 =>
            intro u hM hk hu qM hm
            refine exf_go 3 (show (4 ≤ (nI u) → Go d false 185 54 [.ref 131, .int (nI u)] [] hM Q) ∧ (¬ (4 ≤ (nI u)) → Go d false 185 39 [.ref 131, .int (nI u)] [] hM Q) from ⟨fun c2 => ?_, fun c2 => ?_⟩)
            · skip
              have c2 : 4 ≤ u := (nI_leI (a := 4) (b := u) (by omega) (by omega)).mp c2
              refine exf_go 1 (show Q (mk_) hM from ?_)
              exact k _ qM (fun i hi => by rw [hm i hi, show u = 4 from by omega]; rfl)
            · skip
              have c2 : ¬ 4 ≤ u := fun q => c2 ((nI_leI (a := 4) (b := u) (by omega) (by omega)).mpr q)
              refine exf_go 4 (show Go d false 185 44 [.ref 131, .int (nI u)] [.int (54 + (nI u)), .ref 131] hM Q from ?_)
              rw [show (54 + (nI u) : Int32) = nI (54 + u) from nI_add 54 u]
              refine exf_go 3 (show vp_in (nI (54 + u)) 41523 ∧ (Go d false 185 51 [.ref 131, .int ((nI u) + 1)] [] (uI hM 131 ((nI (54 + u)).toNatClampNeg) 1023) Q) from ⟨(vp_in_nI (by omega) (by omega)), ?_⟩)
              rw [show ((nI u) + 1 : Int32) = nI (u + 1) from nI_add u 1]
              refine exf_go 1 (show Go d false 185 34 [.ref 131, .int (nI (u + 1))] [] (uI hM 131 ((nI (54 + u)).toNatClampNeg) 1023) Q from ?_)
              exact ih34 (u + 1) _ (by omega) (by omega) (qM.uI' _ _ _ rfl) (by rw [nI_clamp (by omega)]; exact plu_s hm)
        exact L34 (4 + 1) 0 _ (by omega) (by omega) (((qL.uI' _ _ _ rfl).uI' _ _ _ rfl).uI' _ _ _ rfl) (plu_0 (fun i hi => hv i (by omega)))
      · skip
        have c1 : ¬ 13841 ≤ j := fun q => c1 ((nI_leI (a := 13841) (b := j) (by omega) (by omega)).mpr q)
        refine exf_go 5 (show vp_in (nI j) 41523 ∧ (Go d false 185 16 [.ref 131, .int ((nI j) + 1)] [] (uI hL 131 ((nI j).toNatClampNeg) 0) Q) from ⟨(vp_in_nI (by omega) (by omega)), ?_⟩)
        rw [show ((nI j) + 1 : Int32) = nI (j + 1) from nI_add j 1]
        refine exf_go 1 (show Go d false 185 2 [.ref 131, .int (nI (j + 1))] [] (uI hL 131 ((nI j).toNatClampNeg) 0) Q from ?_)
        exact ih2 (j + 1) _ (by omega) (by omega) (qL.uI' _ _ _ rfl) (fun i hi => by rw [nI_clamp (by omega)]; exact (Decidable.em (i = j)).elim (fun e => by rw [e, rI_uI_eq]) (fun e => by rw [rI_uI_at e]; exact hv i (by omega)))
  exact L2 (13841 + 1) 0 h (by omega) (by omega) Fq.rfl' (fun i hi => absurd hi (Nat.not_lt_zero _))
def sSm1 (a _i : Nat) : Bool := Nat.beq a 130 || (Nat.ble 134 a && Nat.ble a 148)
def sSm (a i : Nat) : Bool := sSm1 a i || (Nat.beq a 131 && Nat.ble i 13840)
theorem sSm_t {i : Nat} (h : i < 13841) : sSm 131 i = true := by
  unfold sSm
  rw [Nat.ble_eq.mpr (show i ≤ 13840 by omega)]
  rfl
theorem sS1_S (a i : Nat) (e : sSm a i = false) : sSm1 a i = false := (Bool.or_eq_false_iff.mp e).1
theorem sMn_1 (a i : Nat) (e : sSm1 a i = false) : sMn a i = false := by
  unfold sSm1 at e
  simp only [Bool.or_eq_false_iff] at e
  have h2 := rng_f e.2
  unfold sMn sRd sMl
  rw [e.1, beq_no (y := 134) (by omega)]
  rfl
theorem sRd_1 (a i : Nat) (e : sSm1 a i = false) : sRd a i = false := sRd_M a i (sMn_1 a i e)
theorem sNx_1 (a i : Nat) (e : sSm1 a i = false) : sNx a i = false := sNx_R a i (sRd_1 a i e)
theorem at4_1 (a i : Nat) (e : sSm1 a i = false) : sAt 134 a i = false := by
  unfold sSm1 at e
  simp only [Bool.or_eq_false_iff] at e
  have h2 := rng_f e.2
  unfold sAt
  exact beq_no (by omega)
theorem sLh_1 (a i : Nat) (e : sSm1 a i = false) : sLh a i = false := by
  unfold sSm1 at e
  simp only [Bool.or_eq_false_iff] at e
  have h2 := rng_f e.2
  unfold sLh
  rw [beq_no (y := 135) (by omega), beq_no (y := 136) (by omega), beq_no (y := 134) (by omega)]
  rfl
theorem tbt0 (j : Nat) : tbt 0 j = 0 := by
  unfold tbt
  show 0 / 2 ^ j % 2 = 0
  rw [Nat.zero_div]
theorem lX_0 {x : Int32} {n : Nat} (h : ixN x (n + 1) = none) (hn : n < 2 ^ 30) : x.toInt64 < 0 ∨ lN n < x.toInt64 := by
  rcases ix_no h with z | z
  · left
    rw [Int64.lt_iff_toInt_lt, ix64]
    exact Int32.lt_iff_toInt_lt.mp z
  · right
    rw [Int64.lt_iff_toInt_lt, ix64, lN_toInt (by omega)]
    have := Int32.le_iff_toInt_le.mp z
    rw [nI_toInt (by omega)] at this
    omega
theorem m_shedX {d : Nat} {h : Hp} {t : TpG} {x : Int32} {Q : Po} (mt : MTP t h) (hx : ixN x (t.1 + 1) = none) (k : ∀ h1, Fq scM h h1 → Q (.int (-3)) h1) : wpC (d + 34) true 216 [.ref 130, .int x] h Q := by
  have ht := mt.1.1
  refine go_in rfl ?_
  refine exf_go 8 (show Go (d + 33) true 216 12 [.ref 130, .int x, mk_] [.int (rI h 130 5), .long 0, .long x.toInt64] (uI h 130 0 0) Q from ?_)
  rw [show (rI h 130 5 : Int32) = nI t.1 from mt.2.1]
  refine exf_go 1 (show Go (d + 33) true 216 13 [.ref 130, .int x, mk_] [.long ((nI t.1).toInt64), .long 0, .long x.toInt64] (uI h 130 0 0) Q from ?_)
  rw [show ((nI t.1).toInt64 : Int64) = lN t.1 from nI_l (n := t.1) (by omega)]
  refine exf_go 1 (show wpC (d + 33) true 183 [.long x.toInt64, .long 0, .long (lN t.1)] (uI h 130 0 0) (fun r h' => Go (d + 33) true 216 16 [.ref 130, .int x, mk_] [r] h' Q) from ?_)
  refine m_within (fun u1 v1 => absurd (lX_0 hx (by omega)) (fun z => z.elim u1 v1)) (fun u1 => ?_)
  show Go (d + 33) true 216 16 [.ref 130, .int x, mk_] [.int 0] (uI h 130 0 0) Q
  refine exf_go 1 (show (¬ (0 : Int32) = 0 → Go (d + 33) true 216 22 [.ref 130, .int x, mk_] [] (uI h 130 0 0) Q) ∧ (¬ (¬ (0 : Int32) = 0) → Go (d + 33) true 216 19 [.ref 130, .int x, mk_] [] (uI h 130 0 0) Q) from ⟨fun c1 => ?_, fun c1 => ?_⟩)
  · skip
    exact absurd c1 (by decide)
  · skip
    refine exf_go 2 (show Q (.int (-3)) (uI h 130 0 0) from ?_)
    exact k _ (Fq.rfl'.uI' _ _ _ rfl)
theorem m_shedN {d : Nat} {h : Hp} {t : TpG} {j : Nat} {hl : Nat → LkG} {Q : Po} (mt : MTP t h) (hj : j ≤ t.1) (k0 : ¬ qe (ys (rTx t.2 j 900 y00)) = 0 → ∀ h1, Fq sSm1 h h1 → rI h1 130 5 = nI 0 → rI h1 130 13 = nI (qe (ys (rTx t.2 j 900 y00))) → rI h1 130 14 = nI (qx (ys (rTx t.2 j 900 y00))) → Q (.int ((-30) - nI (qe (ys (rTx t.2 j 900 y00))))) h1) (k1 : qe (ys (rTx t.2 j 900 y00)) = 0 → ∀ h1, Fq sSm h h1 → rI h1 130 5 = nI 0 → rI h1 130 13 = nI 0 → rI h1 130 14 = -1 → MD (gH (yg (rTx t.2 j 900 y00)) (oY (rTx t.2 j 900 y00))) (l0 (ya (rTx t.2 j 900 y00)), 0, hl) h1 → Q (.int (nI (sL (yg (rTx t.2 j 900 y00))))) h1) : wpC (d + 34) true 216 [.ref 130, .int (nI j)] h Q := by
  have ht := mt.1.1
  refine go_in rfl ?_
  refine exf_go 5 (show Go (d + 33) true 216 7 [.ref 130, .int (nI j), mk_] [.long ((nI j).toInt64)] (uI h 130 0 0) Q from ?_)
  rw [show ((nI j).toInt64 : Int64) = lN j from nI_l (n := j) (by omega)]
  refine exf_go 3 (show Go (d + 33) true 216 12 [.ref 130, .int (nI j), mk_] [.int (rI h 130 5), .long 0, .long (lN j)] (uI h 130 0 0) Q from ?_)
  rw [show (rI h 130 5 : Int32) = nI t.1 from mt.2.1]
  refine exf_go 1 (show Go (d + 33) true 216 13 [.ref 130, .int (nI j), mk_] [.long ((nI t.1).toInt64), .long 0, .long (lN j)] (uI h 130 0 0) Q from ?_)
  rw [show ((nI t.1).toInt64 : Int64) = lN t.1 from nI_l (n := t.1) (by omega)]
  refine exf_go 1 (show wpC (d + 33) true 183 [.long (lN j), .long 0, .long (lN t.1)] (uI h 130 0 0) (fun r h' => Go (d + 33) true 216 16 [.ref 130, .int (nI j), mk_] [r] h' Q) from ?_)
  refine m_within (fun u1 v1 => ?_) (fun u1 => absurd u1 (fun z => z.elim (fun z => by have z : lN j < lN 0 := z; rw [pk_lLT (by omega) (by omega)] at z; omega) (fun z => by have z : lN t.1 < lN j := z; rw [pk_lLT (by omega) (by omega)] at z; omega)))
  show Go (d + 33) true 216 16 [.ref 130, .int (nI j), mk_] [.int 1] (uI h 130 0 0) Q
  refine exf_go 1 (show (¬ (1 : Int32) = 0 → Go (d + 33) true 216 22 [.ref 130, .int (nI j), mk_] [] (uI h 130 0 0) Q) ∧ (¬ (¬ (1 : Int32) = 0) → Go (d + 33) true 216 19 [.ref 130, .int (nI j), mk_] [] (uI h 130 0 0) Q) from ⟨fun c1 => ?_, fun c1 => ?_⟩)
  · skip
    refine exf_go 18 (show ((0 : Int32) = 0 ∨ (0 : Int32) = 1) ∧ (wpC (d + 33) true 185 [.ref 134] (uI (uI (uI (uI (uI (uI h 130 0 0) 130 8 (nI j)) 130 5 0) 130 7 0) 130 11 0) 130 15 0) (fun _ h' => Go (d + 33) true 216 54 [.ref 130, .int (nI j), mk_] [] h' Q)) from ⟨(by first | exact Or.inl rfl | exact Or.inr rfl | assumption), ?_⟩)
    have qA : Fq sSm1 h (uI (uI (uI (uI (uI (uI h 130 0 0) 130 8 (nI j)) 130 5 0) 130 7 0) 130 11 0) 130 15 0) := ((((((Fq.rfl'.uI' _ _ _ rfl).uI' _ _ _ rfl).uI' _ _ _ rfl).uI' _ _ _ rfl).uI' _ _ _ rfl).uI' _ _ _ rfl)
    have rA : rI (uI (uI (uI (uI (uI (uI h 130 0 0) 130 8 (nI j)) 130 5 0) 130 7 0) 130 11 0) 130 15 0) 130 8 = nI j ∧ rI (uI (uI (uI (uI (uI (uI h 130 0 0) 130 8 (nI j)) 130 5 0) 130 7 0) 130 11 0) 130 15 0) 130 5 = nI 0 ∧ rI (uI (uI (uI (uI (uI (uI h 130 0 0) 130 8 (nI j)) 130 5 0) 130 7 0) 130 11 0) 130 15 0) 130 7 = nI 0 ∧ rI (uI (uI (uI (uI (uI (uI h 130 0 0) 130 8 (nI j)) 130 5 0) 130 7 0) 130 11 0) 130 15 0) 130 11 = nI 0 ∧ rI (uI (uI (uI (uI (uI (uI h 130 0 0) 130 8 (nI j)) 130 5 0) 130 7 0) 130 11 0) 130 15 0) 130 15 = nI 0 := ⟨rfl, rfl, rfl, rfl, rfl⟩
    have tA : ∀ i, rI (uI (uI (uI (uI (uI (uI h 130 0 0) 130 8 (nI j)) 130 5 0) 130 7 0) 130 11 0) 130 15 0) 133 i = rI h 133 i := fun _ => rfl
    generalize hgA : uI (uI (uI (uI (uI (uI h 130 0 0) 130 8 (nI j)) 130 5 0) 130 7 0) 130 11 0) 130 15 0 = hA at qA rA tA ⊢
    refine m_plain134 (fun hB qB pl => ?_)
    have mxB : MX t.2 j hB := ⟨⟨by omega, mt.1.2⟩, (qB.1 130 8 rfl).1.trans rA.1, fun i hi => ((qB.1 133 i rfl).1.trans (tA i)).trans (mt.2.2 i (by omega))⟩
    show Go (d + 33) true 216 54 [.ref 130, .int (nI j), mk_] [] hB Q
    refine exf_go 2 (show wpC (d + 33) true 191 [.ref 130] hB (fun _ h' => Go (d + 33) true 216 58 [.ref 130, .int (nI j), mk_] [] h' Q) from ?_)
    refine m_next mxB ((qB.1 130 7 rfl).1.trans rA.2.2.1) (Nat.zero_le _) (fun hC qC a1 a2 a3 a4 => ?_)
    show Go (d + 33) true 216 58 [.ref 130, .int (nI j), mk_] [] hC Q
    have L58 : ∀ (k58 : Nat) (fu : Nat) (y : LnG) (hL : Hp), fu < k58 → (Fq sSm1 h hL) → (rI hL 130 5 = nI 0) → (MY t.2 j y hL) → (YW t.2 j y) → (qe (ys y) = 0 → 900 ≤ qi (ys y) + fu) → ((rTx t.2 j 900 y00) = rTx t.2 j fu y) → Go (d + 33) true 216 58 [.ref 130, .int (nI j), mk_] [] hL Q := by
      intro k58
      induction k58 with
      | zero => intro fu y hL hk; exact absurd hk (Nat.not_lt_zero _)
      | succ k58 ih58 =>
        intro fu y hL hk qL h5L myL ywL hfu hwh
        have hbL := mp_b myL.1
        refine exf_go 2 (show Go (d + 33) true 216 62 [.ref 130, .int (nI j), mk_] [.int (rI hL 130 11)] hL Q from ?_)
        rw [show (rI hL 130 11 : Int32) = nI (qe (ys y)) from myL.1.2.2.1.1]
        refine exf_go 1 (show (¬ (nI (qe (ys y))) = 0 → Go (d + 33) true 216 105 [.ref 130, .int (nI j), mk_] [] hL Q) ∧ (¬ (¬ (nI (qe (ys y))) = 0) → Go (d + 33) true 216 65 [.ref 130, .int (nI j), mk_] [] hL Q) from ⟨fun c2 => ?_, fun c2 => ?_⟩)
        · skip
          have c2 : ¬ (qe (ys y)) = 0 := fun q => c2 ((nI_eq (a := (qe (ys y))) (b := 0) (by omega) (by omega)).mpr q)
          refine exf_go 3 (show Go (d + 33) true 216 110 [.ref 130, .int (nI j), mk_] [.int (rI hL 130 11), .ref 130] hL Q from ?_)
          rw [show (rI hL 130 11 : Int32) = nI (qe (ys y)) from myL.1.2.2.1.1]
          refine exf_go 4 (show Go (d + 33) true 216 118 [.ref 130, .int (nI j), mk_] [.int (rI hL 130 11), .ref 130] (uI hL 130 13 (nI (qe (ys y)))) Q from ?_)
          rw [show (rI hL 130 11 : Int32) = nI (qe (ys y)) from myL.1.2.2.1.1]
          refine exf_go 1 (show (¬ (nI (qe (ys y))) = 0 → Go (d + 33) true 216 125 [.ref 130, .int (nI j), mk_] [.ref 130] (uI hL 130 13 (nI (qe (ys y)))) Q) ∧ (¬ (¬ (nI (qe (ys y))) = 0) → Go (d + 33) true 216 121 [.ref 130, .int (nI j), mk_] [.ref 130] (uI hL 130 13 (nI (qe (ys y)))) Q) from ⟨fun c3 => ?_, fun c3 => ?_⟩)
          · skip
            have c3 : ¬ (qe (ys y)) = 0 := fun q => c3 ((nI_eq (a := (qe (ys y))) (b := 0) (by omega) (by omega)).mpr q)
            refine exf_go 5 (show Go (d + 33) true 216 136 [.ref 130, .int (nI j), mk_] [.int (rI hL 130 11)] (uI (uI hL 130 13 (nI (qe (ys y)))) 130 14 (rI hL 130 12)) Q from ?_)
            rw [show (rI hL 130 11 : Int32) = nI (qe (ys y)) from myL.1.2.2.1.1]
            refine exf_go 1 (show ((nI (qe (ys y))) = 0 → Go (d + 33) true 216 147 [.ref 130, .int (nI j), mk_] [] (uI (uI hL 130 13 (nI (qe (ys y)))) 130 14 (rI hL 130 12)) Q) ∧ (¬ ((nI (qe (ys y))) = 0) → Go (d + 33) true 216 139 [.ref 130, .int (nI j), mk_] [] (uI (uI hL 130 13 (nI (qe (ys y)))) 130 14 (rI hL 130 12)) Q) from ⟨fun c4 => ?_, fun c4 => ?_⟩)
            · skip
              have c4 : (qe (ys y)) = 0 := (nI_eq (a := (qe (ys y))) (b := 0) (by omega) (by omega)).mp c4
              exfalso; omega
            · skip
              have c4 : ¬ (qe (ys y)) = 0 := fun q => c4 ((nI_eq (a := (qe (ys y))) (b := 0) (by omega) (by omega)).mpr q)
              refine exf_go 3 (show Go (d + 33) true 216 145 [.ref 130, .int (nI j), mk_] [.int (rI hL 130 11), .int (-30)] (uI (uI hL 130 13 (nI (qe (ys y)))) 130 14 (rI hL 130 12)) Q from ?_)
              rw [show (rI hL 130 11 : Int32) = nI (qe (ys y)) from myL.1.2.2.1.1]
              refine exf_go 2 (show Q (.int ((-30) - (nI (qe (ys y))))) (uI (uI hL 130 13 (nI (qe (ys y)))) 130 14 (rI hL 130 12)) from ?_)
              have hz : ¬ qe (ys y) = 0 := by omega
              have hY : (rTx t.2 j 900 y00) = y := hwh.trans (rTx_n (by omega))
              rw [hY] at k0
              exact k0 hz _ (qL.tr ((Fq.rfl'.uI' _ _ _ rfl).uI' _ _ _ rfl)) h5L rfl (myL.1.2.2.1.2 hz)
          · skip
            have c3 : (qe (ys y)) = 0 := (nI_eq (a := (qe (ys y))) (b := 0) (by omega) (by omega)).mp (Classical.not_not.mp c3)
            refine exf_go 5 (show Go (d + 33) true 216 136 [.ref 130, .int (nI j), mk_] [.int (rI hL 130 11)] (uI (uI hL 130 13 (nI (qe (ys y)))) 130 14 (-1)) Q from ?_)
            rw [show (rI hL 130 11 : Int32) = nI (qe (ys y)) from myL.1.2.2.1.1]
            refine exf_go 1 (show ((nI (qe (ys y))) = 0 → Go (d + 33) true 216 147 [.ref 130, .int (nI j), mk_] [] (uI (uI hL 130 13 (nI (qe (ys y)))) 130 14 (-1)) Q) ∧ (¬ ((nI (qe (ys y))) = 0) → Go (d + 33) true 216 139 [.ref 130, .int (nI j), mk_] [] (uI (uI hL 130 13 (nI (qe (ys y)))) 130 14 (-1)) Q) from ⟨fun c5 => ?_, fun c5 => ?_⟩)
            · skip
              have c5 : (qe (ys y)) = 0 := (nI_eq (a := (qe (ys y))) (b := 0) (by omega) (by omega)).mp c5
              refine exf_go 2 (show wpC (d + 33) true 214 [.ref 130] (uI (uI hL 130 13 (nI (qe (ys y)))) 130 14 (-1)) (fun _ h' => Go (d + 33) true 216 151 [.ref 130, .int (nI j), mk_] [] h' Q) from ?_)
              have he : qe (ys y) = 0 := by omega
              have hY : (rTx t.2 j 900 y00) = y := hwh.trans (rTx_n (by omega))
              rw [hY] at k1
              have qD : Fq sSm1 hL (uI (uI hL 130 13 (nI (qe (ys y)))) 130 14 (-1)) := (Fq.rfl'.uI' _ _ _ rfl).uI' _ _ _ rfl
              have rD_ : rI (uI (uI hL 130 13 (nI (qe (ys y)))) 130 14 (-1)) 130 13 = nI (qe (ys y)) ∧ rI (uI (uI hL 130 13 (nI (qe (ys y)))) 130 14 (-1)) 130 14 = -1 := ⟨rfl, rfl⟩
              have iD : ∀ a i, a ≠ 130 → rI (uI (uI hL 130 13 (nI (qe (ys y)))) 130 14 (-1)) a i = rI hL a i := fun a i z => by rw [rI_uI_ne z, rI_uI_ne z]
              have d5 : rI (uI (uI hL 130 13 (nI (qe (ys y)))) 130 14 (-1)) 130 5 = nI 0 := h5L
              generalize hgD : uI (uI hL 130 13 (nI (qe (ys y)))) 130 14 (-1) = hD at qD rD_ iD d5 ⊢
              have mr0 := myL.2 he
              have mrX : MRw (yg y) (yb y) (ye y) (ya y) (yh y) hD := ⟨⟨(iD 134 0 (by decide)).trans mr0.1.1, (iD 134 1 (by decide)).trans mr0.1.2.1, (iD 134 2 (by decide)).trans mr0.1.2.2.1, (iD 134 3 (by decide)).trans mr0.1.2.2.2.1, (iD 134 4 (by decide)).trans mr0.1.2.2.2.2.1, (iD 134 5 (by decide)).trans mr0.1.2.2.2.2.2.1, (iD 134 6 (by decide)).trans mr0.1.2.2.2.2.2.2.1, (iD 134 7 (by decide)).trans mr0.1.2.2.2.2.2.2.2.1, (iD 134 8 (by decide)).trans mr0.1.2.2.2.2.2.2.2.2.1, (iD 134 9 (by decide)).trans mr0.1.2.2.2.2.2.2.2.2.2.1, (iD 134 50 (by decide)).trans mr0.1.2.2.2.2.2.2.2.2.2.2.1, by rw [← hgD]; exact mr0.1.2.2.2.2.2.2.2.2.2.2.2⟩, mr_arr (h1 := hD) ywL.1 mr0 (fun i _ _ _ => iD 134 i (by decide))⟩
              have cd := cdw_Y (show j ≤ 900 by omega) ywL he
              have mf : MF (yg y) (oY y) hD := ⟨⟨ywL.1, cd.1⟩, ⟨mrX.1.2.1, mrX.1.2.2.1, mrX.1.2.2.2.2.1⟩, fun w hw => (mrX.2.1 w hw).1, fun c hc => ⟨(mrX.2.2.1 c hc).2.1, (mrX.2.2.1 c hc).2.2⟩, fun i hi => (iD 134 (2941 + i) (by decide)).trans (myL.1.2.2.2.2 i hi)⟩
              refine m_laysHolds mf (fun hH qH hh => ?_)
              show Go (d + 33) true 216 151 [.ref 130, .int (nI j), mk_] [] hH Q
              refine exf_go 2 (show Go (d + 33) true 216 153 [.ref 130, .int (nI j), .int 0] [] hH Q from ?_)
              have L153 : ∀ (k153 : Nat) (u : Nat) (hK : Hp), (13841 - u) < k153 → (u ≤ 13841) → (Fq (sAt 131) hH hK) → (Fq sSm hH hK) → (∀ i, i < u → rI hK 131 i = rI hH 134 i) → Go (d + 33) true 216 153 [.ref 130, .int (nI j), .int (nI u)] [] hK Q := by
                intro k153
                induction k153 with
                | zero => intro u hK hk; exact absurd hk (Nat.not_lt_zero _)
                | succ k153 ih153 =>
                  intro u hK hk hu qK qK2 hv
                  refine exf_go 3 (show (13841 ≤ (nI u) → Go (d + 33) true 216 178 [.ref 130, .int (nI j), .int (nI u)] [] hK Q) ∧ (¬ (13841 ≤ (nI u)) → Go (d + 33) true 216 160 [.ref 130, .int (nI j), .int (nI u)] [] hK Q) from ⟨fun c6 => ?_, fun c6 => ?_⟩)
                  · skip
                    have c6 : 13841 ≤ u := (nI_leI (a := 13841) (b := u) (by omega) (by omega)).mp c6
                    refine exf_go 4 (show vp_in 0 41523 ∧ (Go (d + 33) true 216 184 [.ref 130, .int (nI j), .int (nI u)] [.int (rI hK 131 0)] hK Q) from ⟨(vp_in_nI (n := 0) (by decide) (by decide)), ?_⟩)
                    rw [show (rI hK 131 0 : Int32) = nI (sL (yg y)) from (hv 0 (by omega)).trans ((qH.1 134 0 (sLh_n (by omega))).1.trans mrX.1.1)]
                    refine exf_go 1 (show Q (.int (nI (sL (yg y)))) hK from ?_)
                    have hN := tot_b ywL.1
                    have eF : ∀ i, i < 13841 → rI hK 131 i = rI hH 134 i := fun i hi => hv i (by omega)
                    have eG : ∀ i, i < 3841 → rI hK 131 i = rI hD 134 i := fun i hi => (eF i (by omega)).trans (qH.1 134 i (sLh_n hi)).1
                    have hC8 := ywL.1.2.2.2.1; have hM4 := ywL.1.2.2.2.2.2.1; have hW4 := ywL.1.1
                    have mX := mrX
                    obtain ⟨⟨m0, m1, m2, m3, m4, m5, m6, m7, m8, m9, m10, m11⟩, mw, mc, mm, mz⟩ := mX
                    refine k1 he _ (((qL.mono sS1_S).tr (qD.mono sS1_S)).tr ((qH.mono (fun a i e => sLh_1 a i (sS1_S a i e))).tr qK2)) (((qK.1 130 5 rfl).1.trans (qH.1 130 5 rfl).1).trans d5) (((qK.1 130 13 rfl).1.trans (qH.1 130 13 rfl).1).trans (rD_.1.trans (by rw [he]))) (((qK.1 130 14 rfl).1.trans (qH.1 130 14 rfl).1).trans rD_.2) ⟨⟨⟨wf_gH ywL.1 (oY y), lk_0 ywL.2.2.1.1⟩, ⟨(eG 0 (by omega)).trans m0, (eG 1 (by omega)).trans m1, (eG 2 (by omega)).trans m2, (eG 3 (by omega)).trans m3, (eG 4 (by omega)).trans m4, (eG 5 (by omega)).trans m5, (eG 6 (by omega)).trans m6, (eG 7 (by omega)).trans m7, (eG 8 (by omega)).trans m8, (eG 9 (by omega)).trans m9, (eG 50 (by omega)).trans m10, (eG 51 (by omega)).trans (mz 51 (by omega) (by omega)), (eG 52 (by omega)).trans (mz 52 (by omega) (by omega)), (eG 53 (by omega)).trans (mz 53 (by omega) (by omega))⟩, ⟨fun w hw => (eG _ (show 10 + w < 3841 by have hw : w < sW (yg y) := hw; omega)).trans (mw w hw).1, fun w hw => (eG _ (show 14 + w < 3841 by have hw : w < sW (yg y) := hw; omega)).trans (mw w hw).2.1, fun w hw => (eG _ (show 18 + w < 3841 by have hw : w < sW (yg y) := hw; omega)).trans (mw w hw).2.2, fun c hc => (eG _ (show 22 + c < 3841 by have hc : c < sC (yg y) := hc; omega)).trans (mc c hc).1, fun m hm => (eG _ (show 46 + m < 3841 by have hm : m < sM (yg y) := hm; omega)).trans (mm m hm), fun w hw => ?_, fun i hi => ?_⟩, fun i hi => ?_⟩, ⟨?_, Nat.zero_le _, fun k hk => absurd hk (Nat.not_lt_zero _)⟩⟩
                    · rw [eG _ (by omega), mz _ (by omega) (by omega), if_pos (by omega)]; rfl
                    · have hi : i < tot (yg y) := hi
                      rw [eF _ (by omega)]; exact hh i hi
                    · have hi : i < tot (yg y) := hi
                      have : i / 32 ≤ 312 := by omega
                      rw [eG _ (by omega), mz _ (by omega) (by omega), if_neg (by omega), tbt0]; rfl
                    · exact (eG 371 (by omega)).trans (mz 371 (by omega) (by omega))
                  · skip
                    have c6 : ¬ 13841 ≤ u := fun q => c6 ((nI_leI (a := 13841) (b := u) (by omega) (by omega)).mpr q)
                    refine exf_go 7 (show vp_in (nI u) 13841 ∧ (Go (d + 33) true 216 171 [.ref 130, .int (nI j), .int (nI u)] [.int (rI hK 134 ((nI u).toNatClampNeg)), .int (nI u), .ref 131] hK Q) from ⟨(vp_in_nI (by omega) (by omega)), ?_⟩)
                    rw [show (rI hK 134 ((nI u).toNatClampNeg) : Int32) = rI hH 134 u from by rw [nI_clamp (by omega)]; exact (qK.1 134 u rfl).1]
                    refine exf_go 2 (show vp_in (nI u) 41523 ∧ (Go (d + 33) true 216 175 [.ref 130, .int (nI j), .int ((nI u) + 1)] [] (uI hK 131 ((nI u).toNatClampNeg) (rI hH 134 u)) Q) from ⟨(vp_in_nI (by omega) (by omega)), ?_⟩)
                    rw [show ((nI u) + 1 : Int32) = nI (u + 1) from nI_add u 1]
                    refine exf_go 1 (show Go (d + 33) true 216 153 [.ref 130, .int (nI j), .int (nI (u + 1))] [] (uI hK 131 ((nI u).toNatClampNeg) (rI hH 134 u)) Q from ?_)
                    exact ih153 (u + 1) _ (by omega) (by omega) (qK.uI' _ _ _ rfl) (qK2.uI' _ _ _ (sSm_t (by rw [nI_clamp (by omega)]; omega))) (fun i hi => by rw [nI_clamp (by omega)]; exact (Decidable.em (i = u)).elim (fun e => by rw [e, rI_uI_eq]) (fun e => by rw [rI_uI_at e]; exact hv i (by omega)))
              exact L153 (13841 + 1) 0 hH (by omega) (by omega) Fq.rfl' Fq.rfl' (fun i hi => absurd hi (Nat.not_lt_zero _))
            · skip
              have c5 : ¬ (qe (ys y)) = 0 := fun q => c5 ((nI_eq (a := (qe (ys y))) (b := 0) (by omega) (by omega)).mpr q)
              exfalso; omega
        · skip
          have c2 : (qe (ys y)) = 0 := (nI_eq (a := (qe (ys y))) (b := 0) (by omega) (by omega)).mp (Classical.not_not.mp c2)
          refine exf_go 2 (show Go (d + 33) true 216 69 [.ref 130, .int (nI j), mk_] [.int (rI hL 130 9)] hL Q from ?_)
          rw [show (rI hL 130 9 : Int32) = nI (kd t.2 j (qi (ys y))) from myL.1.2.1.2.2.1]
          refine exf_go 2 (show ((nI (kd t.2 j (qi (ys y)))) = 22 → Go (d + 33) true 216 105 [.ref 130, .int (nI j), mk_] [] hL Q) ∧ (¬ ((nI (kd t.2 j (qi (ys y)))) = 22) → Go (d + 33) true 216 74 [.ref 130, .int (nI j), mk_] [] hL Q) from ⟨fun c7 => ?_, fun c7 => ?_⟩)
          · skip
            have c7 : (kd t.2 j (qi (ys y))) = 22 := (nI_eq (a := (kd t.2 j (qi (ys y)))) (b := 22) (by omega) (by omega)).mp c7
            refine exf_go 3 (show Go (d + 33) true 216 110 [.ref 130, .int (nI j), mk_] [.int (rI hL 130 11), .ref 130] hL Q from ?_)
            rw [show (rI hL 130 11 : Int32) = nI (qe (ys y)) from myL.1.2.2.1.1]
            refine exf_go 4 (show Go (d + 33) true 216 118 [.ref 130, .int (nI j), mk_] [.int (rI hL 130 11), .ref 130] (uI hL 130 13 (nI (qe (ys y)))) Q from ?_)
            rw [show (rI hL 130 11 : Int32) = nI (qe (ys y)) from myL.1.2.2.1.1]
            refine exf_go 1 (show (¬ (nI (qe (ys y))) = 0 → Go (d + 33) true 216 125 [.ref 130, .int (nI j), mk_] [.ref 130] (uI hL 130 13 (nI (qe (ys y)))) Q) ∧ (¬ (¬ (nI (qe (ys y))) = 0) → Go (d + 33) true 216 121 [.ref 130, .int (nI j), mk_] [.ref 130] (uI hL 130 13 (nI (qe (ys y)))) Q) from ⟨fun c8 => ?_, fun c8 => ?_⟩)
            · skip
              have c8 : ¬ (qe (ys y)) = 0 := fun q => c8 ((nI_eq (a := (qe (ys y))) (b := 0) (by omega) (by omega)).mpr q)
              refine exf_go 5 (show Go (d + 33) true 216 136 [.ref 130, .int (nI j), mk_] [.int (rI hL 130 11)] (uI (uI hL 130 13 (nI (qe (ys y)))) 130 14 (rI hL 130 12)) Q from ?_)
              rw [show (rI hL 130 11 : Int32) = nI (qe (ys y)) from myL.1.2.2.1.1]
              refine exf_go 1 (show ((nI (qe (ys y))) = 0 → Go (d + 33) true 216 147 [.ref 130, .int (nI j), mk_] [] (uI (uI hL 130 13 (nI (qe (ys y)))) 130 14 (rI hL 130 12)) Q) ∧ (¬ ((nI (qe (ys y))) = 0) → Go (d + 33) true 216 139 [.ref 130, .int (nI j), mk_] [] (uI (uI hL 130 13 (nI (qe (ys y)))) 130 14 (rI hL 130 12)) Q) from ⟨fun c9 => ?_, fun c9 => ?_⟩)
              · skip
                have c9 : (qe (ys y)) = 0 := (nI_eq (a := (qe (ys y))) (b := 0) (by omega) (by omega)).mp c9
                exfalso; omega
              · skip
                have c9 : ¬ (qe (ys y)) = 0 := fun q => c9 ((nI_eq (a := (qe (ys y))) (b := 0) (by omega) (by omega)).mpr q)
                refine exf_go 3 (show Go (d + 33) true 216 145 [.ref 130, .int (nI j), mk_] [.int (rI hL 130 11), .int (-30)] (uI (uI hL 130 13 (nI (qe (ys y)))) 130 14 (rI hL 130 12)) Q from ?_)
                rw [show (rI hL 130 11 : Int32) = nI (qe (ys y)) from myL.1.2.2.1.1]
                refine exf_go 2 (show Q (.int ((-30) - (nI (qe (ys y))))) (uI (uI hL 130 13 (nI (qe (ys y)))) 130 14 (rI hL 130 12)) from ?_)
                have hz : ¬ qe (ys y) = 0 := by omega
                have hY : (rTx t.2 j 900 y00) = y := hwh.trans (rTx_n (by omega))
                rw [hY] at k0
                exact k0 hz _ (qL.tr ((Fq.rfl'.uI' _ _ _ rfl).uI' _ _ _ rfl)) h5L rfl (myL.1.2.2.1.2 hz)
            · skip
              have c8 : (qe (ys y)) = 0 := (nI_eq (a := (qe (ys y))) (b := 0) (by omega) (by omega)).mp (Classical.not_not.mp c8)
              refine exf_go 5 (show Go (d + 33) true 216 136 [.ref 130, .int (nI j), mk_] [.int (rI hL 130 11)] (uI (uI hL 130 13 (nI (qe (ys y)))) 130 14 (-1)) Q from ?_)
              rw [show (rI hL 130 11 : Int32) = nI (qe (ys y)) from myL.1.2.2.1.1]
              refine exf_go 1 (show ((nI (qe (ys y))) = 0 → Go (d + 33) true 216 147 [.ref 130, .int (nI j), mk_] [] (uI (uI hL 130 13 (nI (qe (ys y)))) 130 14 (-1)) Q) ∧ (¬ ((nI (qe (ys y))) = 0) → Go (d + 33) true 216 139 [.ref 130, .int (nI j), mk_] [] (uI (uI hL 130 13 (nI (qe (ys y)))) 130 14 (-1)) Q) from ⟨fun c10 => ?_, fun c10 => ?_⟩)
              · skip
                have c10 : (qe (ys y)) = 0 := (nI_eq (a := (qe (ys y))) (b := 0) (by omega) (by omega)).mp c10
                refine exf_go 2 (show wpC (d + 33) true 214 [.ref 130] (uI (uI hL 130 13 (nI (qe (ys y)))) 130 14 (-1)) (fun _ h' => Go (d + 33) true 216 151 [.ref 130, .int (nI j), mk_] [] h' Q) from ?_)
                have he : qe (ys y) = 0 := by omega
                have hY : (rTx t.2 j 900 y00) = y := hwh.trans (rTx_n (by omega))
                rw [hY] at k1
                have qD : Fq sSm1 hL (uI (uI hL 130 13 (nI (qe (ys y)))) 130 14 (-1)) := (Fq.rfl'.uI' _ _ _ rfl).uI' _ _ _ rfl
                have rD_ : rI (uI (uI hL 130 13 (nI (qe (ys y)))) 130 14 (-1)) 130 13 = nI (qe (ys y)) ∧ rI (uI (uI hL 130 13 (nI (qe (ys y)))) 130 14 (-1)) 130 14 = -1 := ⟨rfl, rfl⟩
                have iD : ∀ a i, a ≠ 130 → rI (uI (uI hL 130 13 (nI (qe (ys y)))) 130 14 (-1)) a i = rI hL a i := fun a i z => by rw [rI_uI_ne z, rI_uI_ne z]
                have d5 : rI (uI (uI hL 130 13 (nI (qe (ys y)))) 130 14 (-1)) 130 5 = nI 0 := h5L
                generalize hgD : uI (uI hL 130 13 (nI (qe (ys y)))) 130 14 (-1) = hD at qD rD_ iD d5 ⊢
                have mr0 := myL.2 he
                have mrX : MRw (yg y) (yb y) (ye y) (ya y) (yh y) hD := ⟨⟨(iD 134 0 (by decide)).trans mr0.1.1, (iD 134 1 (by decide)).trans mr0.1.2.1, (iD 134 2 (by decide)).trans mr0.1.2.2.1, (iD 134 3 (by decide)).trans mr0.1.2.2.2.1, (iD 134 4 (by decide)).trans mr0.1.2.2.2.2.1, (iD 134 5 (by decide)).trans mr0.1.2.2.2.2.2.1, (iD 134 6 (by decide)).trans mr0.1.2.2.2.2.2.2.1, (iD 134 7 (by decide)).trans mr0.1.2.2.2.2.2.2.2.1, (iD 134 8 (by decide)).trans mr0.1.2.2.2.2.2.2.2.2.1, (iD 134 9 (by decide)).trans mr0.1.2.2.2.2.2.2.2.2.2.1, (iD 134 50 (by decide)).trans mr0.1.2.2.2.2.2.2.2.2.2.2.1, by rw [← hgD]; exact mr0.1.2.2.2.2.2.2.2.2.2.2.2⟩, mr_arr (h1 := hD) ywL.1 mr0 (fun i _ _ _ => iD 134 i (by decide))⟩
                have cd := cdw_Y (show j ≤ 900 by omega) ywL he
                have mf : MF (yg y) (oY y) hD := ⟨⟨ywL.1, cd.1⟩, ⟨mrX.1.2.1, mrX.1.2.2.1, mrX.1.2.2.2.2.1⟩, fun w hw => (mrX.2.1 w hw).1, fun c hc => ⟨(mrX.2.2.1 c hc).2.1, (mrX.2.2.1 c hc).2.2⟩, fun i hi => (iD 134 (2941 + i) (by decide)).trans (myL.1.2.2.2.2 i hi)⟩
                refine m_laysHolds mf (fun hH qH hh => ?_)
                show Go (d + 33) true 216 151 [.ref 130, .int (nI j), mk_] [] hH Q
                refine exf_go 2 (show Go (d + 33) true 216 153 [.ref 130, .int (nI j), .int 0] [] hH Q from ?_)
                have L153 : ∀ (k153 : Nat) (u : Nat) (hK : Hp), (13841 - u) < k153 → (u ≤ 13841) → (Fq (sAt 131) hH hK) → (Fq sSm hH hK) → (∀ i, i < u → rI hK 131 i = rI hH 134 i) → Go (d + 33) true 216 153 [.ref 130, .int (nI j), .int (nI u)] [] hK Q := by
                  intro k153
                  induction k153 with
                  | zero => intro u hK hk; exact absurd hk (Nat.not_lt_zero _)
                  | succ k153 ih153 =>
                    intro u hK hk hu qK qK2 hv
                    refine exf_go 3 (show (13841 ≤ (nI u) → Go (d + 33) true 216 178 [.ref 130, .int (nI j), .int (nI u)] [] hK Q) ∧ (¬ (13841 ≤ (nI u)) → Go (d + 33) true 216 160 [.ref 130, .int (nI j), .int (nI u)] [] hK Q) from ⟨fun c11 => ?_, fun c11 => ?_⟩)
                    · skip
                      have c11 : 13841 ≤ u := (nI_leI (a := 13841) (b := u) (by omega) (by omega)).mp c11
                      refine exf_go 4 (show vp_in 0 41523 ∧ (Go (d + 33) true 216 184 [.ref 130, .int (nI j), .int (nI u)] [.int (rI hK 131 0)] hK Q) from ⟨(vp_in_nI (n := 0) (by decide) (by decide)), ?_⟩)
                      rw [show (rI hK 131 0 : Int32) = nI (sL (yg y)) from (hv 0 (by omega)).trans ((qH.1 134 0 (sLh_n (by omega))).1.trans mrX.1.1)]
                      refine exf_go 1 (show Q (.int (nI (sL (yg y)))) hK from ?_)
                      have hN := tot_b ywL.1
                      have eF : ∀ i, i < 13841 → rI hK 131 i = rI hH 134 i := fun i hi => hv i (by omega)
                      have eG : ∀ i, i < 3841 → rI hK 131 i = rI hD 134 i := fun i hi => (eF i (by omega)).trans (qH.1 134 i (sLh_n hi)).1
                      have hC8 := ywL.1.2.2.2.1; have hM4 := ywL.1.2.2.2.2.2.1; have hW4 := ywL.1.1
                      have mX := mrX
                      obtain ⟨⟨m0, m1, m2, m3, m4, m5, m6, m7, m8, m9, m10, m11⟩, mw, mc, mm, mz⟩ := mX
                      refine k1 he _ (((qL.mono sS1_S).tr (qD.mono sS1_S)).tr ((qH.mono (fun a i e => sLh_1 a i (sS1_S a i e))).tr qK2)) (((qK.1 130 5 rfl).1.trans (qH.1 130 5 rfl).1).trans d5) (((qK.1 130 13 rfl).1.trans (qH.1 130 13 rfl).1).trans (rD_.1.trans (by rw [he]))) (((qK.1 130 14 rfl).1.trans (qH.1 130 14 rfl).1).trans rD_.2) ⟨⟨⟨wf_gH ywL.1 (oY y), lk_0 ywL.2.2.1.1⟩, ⟨(eG 0 (by omega)).trans m0, (eG 1 (by omega)).trans m1, (eG 2 (by omega)).trans m2, (eG 3 (by omega)).trans m3, (eG 4 (by omega)).trans m4, (eG 5 (by omega)).trans m5, (eG 6 (by omega)).trans m6, (eG 7 (by omega)).trans m7, (eG 8 (by omega)).trans m8, (eG 9 (by omega)).trans m9, (eG 50 (by omega)).trans m10, (eG 51 (by omega)).trans (mz 51 (by omega) (by omega)), (eG 52 (by omega)).trans (mz 52 (by omega) (by omega)), (eG 53 (by omega)).trans (mz 53 (by omega) (by omega))⟩, ⟨fun w hw => (eG _ (show 10 + w < 3841 by have hw : w < sW (yg y) := hw; omega)).trans (mw w hw).1, fun w hw => (eG _ (show 14 + w < 3841 by have hw : w < sW (yg y) := hw; omega)).trans (mw w hw).2.1, fun w hw => (eG _ (show 18 + w < 3841 by have hw : w < sW (yg y) := hw; omega)).trans (mw w hw).2.2, fun c hc => (eG _ (show 22 + c < 3841 by have hc : c < sC (yg y) := hc; omega)).trans (mc c hc).1, fun m hm => (eG _ (show 46 + m < 3841 by have hm : m < sM (yg y) := hm; omega)).trans (mm m hm), fun w hw => ?_, fun i hi => ?_⟩, fun i hi => ?_⟩, ⟨?_, Nat.zero_le _, fun k hk => absurd hk (Nat.not_lt_zero _)⟩⟩
                      · rw [eG _ (by omega), mz _ (by omega) (by omega), if_pos (by omega)]; rfl
                      · have hi : i < tot (yg y) := hi
                        rw [eF _ (by omega)]; exact hh i hi
                      · have hi : i < tot (yg y) := hi
                        have : i / 32 ≤ 312 := by omega
                        rw [eG _ (by omega), mz _ (by omega) (by omega), if_neg (by omega), tbt0]; rfl
                      · exact (eG 371 (by omega)).trans (mz 371 (by omega) (by omega))
                    · skip
                      have c11 : ¬ 13841 ≤ u := fun q => c11 ((nI_leI (a := 13841) (b := u) (by omega) (by omega)).mpr q)
                      refine exf_go 7 (show vp_in (nI u) 13841 ∧ (Go (d + 33) true 216 171 [.ref 130, .int (nI j), .int (nI u)] [.int (rI hK 134 ((nI u).toNatClampNeg)), .int (nI u), .ref 131] hK Q) from ⟨(vp_in_nI (by omega) (by omega)), ?_⟩)
                      rw [show (rI hK 134 ((nI u).toNatClampNeg) : Int32) = rI hH 134 u from by rw [nI_clamp (by omega)]; exact (qK.1 134 u rfl).1]
                      refine exf_go 2 (show vp_in (nI u) 41523 ∧ (Go (d + 33) true 216 175 [.ref 130, .int (nI j), .int ((nI u) + 1)] [] (uI hK 131 ((nI u).toNatClampNeg) (rI hH 134 u)) Q) from ⟨(vp_in_nI (by omega) (by omega)), ?_⟩)
                      rw [show ((nI u) + 1 : Int32) = nI (u + 1) from nI_add u 1]
                      refine exf_go 1 (show Go (d + 33) true 216 153 [.ref 130, .int (nI j), .int (nI (u + 1))] [] (uI hK 131 ((nI u).toNatClampNeg) (rI hH 134 u)) Q from ?_)
                      exact ih153 (u + 1) _ (by omega) (by omega) (qK.uI' _ _ _ rfl) (qK2.uI' _ _ _ (sSm_t (by rw [nI_clamp (by omega)]; omega))) (fun i hi => by rw [nI_clamp (by omega)]; exact (Decidable.em (i = u)).elim (fun e => by rw [e, rI_uI_eq]) (fun e => by rw [rI_uI_at e]; exact hv i (by omega)))
                exact L153 (13841 + 1) 0 hH (by omega) (by omega) Fq.rfl' Fq.rfl' (fun i hi => absurd hi (Nat.not_lt_zero _))
              · skip
                have c10 : ¬ (qe (ys y)) = 0 := fun q => c10 ((nI_eq (a := (qe (ys y))) (b := 0) (by omega) (by omega)).mpr q)
                exfalso; omega
          · skip
            have c7 : ¬ (kd t.2 j (qi (ys y))) = 22 := fun q => c7 ((nI_eq (a := (kd t.2 j (qi (ys y)))) (b := 22) (by omega) (by omega)).mpr q)
            refine exf_go 2 (show wpC (d + 33) true 215 [.ref 130] hL (fun _ h' => Go (d + 33) true 216 78 [.ref 130, .int (nI j), mk_] [] h' Q) from ?_)
            refine m_line ywL myL (by omega) (by omega) (fun h1 q1 my1 => ?_)
            have yw1 := (yw_ln ywL (show ¬ kd t.2 j (qi (ys y)) = 22 by omega)); have hb1 := mp_b my1.1
            show Go (d + 33) true 216 78 [.ref 130, .int (nI j), mk_] [] h1 Q
            refine exf_go 3 (show wpC (d + 33) true 194 [.ref 130, .int 25] h1 (fun r h' => Go (d + 33) true 216 84 [.ref 130, .int (nI j), mk_] [r] h' Q) from ?_)
            refine m_eats (k := 25) my1.1 (by omega) (fun K84 h2 q2 mp2 => ?_) (fun K84 => ?_)
            · skip
              have K84e := isK_e K84
              show Go (d + 33) true 216 84 [.ref 130, .int (nI j), mk_] [.int 1] h2 Q
              refine exf_go 1 (show (¬ (1 : Int32) = 0 → Go (d + 33) true 216 92 [.ref 130, .int (nI j), mk_] [] h2 Q) ∧ (¬ (¬ (1 : Int32) = 0) → Go (d + 33) true 216 87 [.ref 130, .int (nI j), mk_] [] h2 Q) from ⟨fun c12 => ?_, fun c12 => ?_⟩)
              · skip
                refine exf_go 5 (show vp_in 0 13841 ∧ (Go (d + 33) true 216 99 [.ref 130, .int (nI j), mk_] [.int (rI h2 134 0), .int 0, .ref 134] h2 Q) from ⟨(vp_in_nI (n := 0) (by decide) (by decide)), ?_⟩)
                rw [show (rI h2 134 0 : Int32) = nI (sL (yg (rLn t.2 j y))) from (mr_rd yw1.1.1 (my1.2 K84e.1) q2).1.1]
                refine exf_go 2 (show Go (d + 33) true 216 101 [.ref 130, .int (nI j), mk_] [.int ((nI (sL (yg (rLn t.2 j y)))) + 1), .int 0, .ref 134] h2 Q from ?_)
                rw [show ((nI (sL (yg (rLn t.2 j y)))) + 1 : Int32) = nI ((sL (yg (rLn t.2 j y))) + 1) from nI_add (sL (yg (rLn t.2 j y))) 1]
                refine exf_go 2 (show vp_in 0 13841 ∧ (Go (d + 33) true 216 58 [.ref 130, .int (nI j), mk_] [] (uI h2 134 0 (nI ((sL (yg (rLn t.2 j y))) + 1))) Q) from ⟨(vp_in_nI (n := 0) (by decide) (by decide)), ?_⟩)
                have qF : Fq sMl h2 (uI h2 134 0 (nI ((sL (yg (rLn t.2 j y))) + 1))) := Fq.rfl'.uI' _ _ _ rfl
                have hqq : Fq sSm1 h (uI h2 134 0 (nI ((sL (yg (rLn t.2 j y))) + 1))) := ((qL.tr (q1.mono sMn_1)).tr (q2.mono sRd_1)).tr (qF.mono (fun a i e => sMl_M a i (sMn_1 a i e)))
                have h5n : rI (uI h2 134 0 (nI ((sL (yg (rLn t.2 j y))) + 1))) 130 5 = nI 0 := ((qF.1 130 5 rfl).1.trans (q2.1 130 5 rfl).1).trans ((q1.1 130 5 rfl).1.trans h5L)
                have hY := rE_y K84e.1 K84 (y := (rLn t.2 j y))
                have mX := mr_rd yw1.1.1 (my1.2 K84e.1) q2
                obtain ⟨⟨m0, m1, m2, m3, m4, m5, m6, m7, m8, m9, m10, m11⟩, mw, mc, mm, mz⟩ := id mX
                have ar := mr_arr (h1 := uI h2 134 0 (nI ((sL (yg (rLn t.2 j y))) + 1))) yw1.1.1 mX (fun i i1 i2 i3 => rI_uI_at (a := 134) (by omega))
                have yw2 := yw_en (show j ≤ 900 by omega) yw1.1; have hf1 := hfu (by omega); have hlt := iv_lt ywL.2.1 (show ¬ kd t.2 j (qi (ys y)) = 22 by omega)
                exact ih58 (fu - 1) (rEn t.2 j (rLn t.2 j y)) _ (by omega) hqq h5n (by rw [hY]; exact ⟨mp_o mp2 qF, fun _ => ⟨⟨rfl, m1, m2, m3, m4, m5, m6, m7, m8, m9, m10, m11⟩, ar⟩⟩) yw2.1 (fun e => by have := yw2.2 e; have := yw1.2; omega) (by rw [hwh]; exact rTx_y (by omega) (by omega) (by omega))
              · skip
                exact absurd (by decide) c12
            · skip
              show Go (d + 33) true 216 84 [.ref 130, .int (nI j), mk_] [.int 0] h1 Q
              refine exf_go 1 (show (¬ (0 : Int32) = 0 → Go (d + 33) true 216 92 [.ref 130, .int (nI j), mk_] [] h1 Q) ∧ (¬ (¬ (0 : Int32) = 0) → Go (d + 33) true 216 87 [.ref 130, .int (nI j), mk_] [] h1 Q) from ⟨fun c13 => ?_, fun c13 => ?_⟩)
              · skip
                exact absurd c13 (by decide)
              · skip
                refine exf_go 3 (show wpC (d + 33) true 192 [.ref 130, .int 2] h1 (fun _ h' => Go (d + 33) true 216 92 [.ref 130, .int (nI j), mk_] [] h' Q) from ?_)
                refine m_fails (w := 2) my1.1 (by omega) (fun h3 q3 mp3 => ?_)
                show Go (d + 33) true 216 92 [.ref 130, .int (nI j), mk_] [] h3 Q
                refine exf_go 9 (show vp_in 0 13841 ∧ vp_in 0 13841 ∧ (Go (d + 33) true 216 58 [.ref 130, .int (nI j), mk_] [] (uI h3 134 0 ((rI h3 134 0) + 1)) Q) from ⟨(vp_in_nI (n := 0) (by decide) (by decide)), (vp_in_nI (n := 0) (by decide) (by decide)), ?_⟩)
                have qF : Fq sMl h3 (uI h3 134 0 ((rI h3 134 0) + 1)) := Fq.rfl'.uI' _ _ _ rfl
                have hqq : Fq sSm1 h (uI h3 134 0 ((rI h3 134 0) + 1)) := ((qL.tr (q1.mono sMn_1)).tr (q3.mono sRd_1)).tr (qF.mono (fun a i e => sMl_M a i (sMn_1 a i e)))
                have h5n : rI (uI h3 134 0 ((rI h3 134 0) + 1)) 130 5 = nI 0 := ((qF.1 130 5 rfl).1.trans (q3.1 130 5 rfl).1).trans ((q1.1 130 5 rfl).1.trans h5L)
                have hY := rE_n K84 (y := (rLn t.2 j y))
                have yw2 := yw_en (show j ≤ 900 by omega) yw1.1; have hf1 := hfu (by omega); have hlt := iv_lt ywL.2.1 (show ¬ kd t.2 j (qi (ys y)) = 22 by omega)
                exact ih58 (fu - 1) (rEn t.2 j (rLn t.2 j y)) _ (by omega) hqq h5n (by rw [hY]; exact ⟨mp_o mp3 qF, fun e => absurd e (fl_ne (by decide))⟩) yw2.1 (fun e => by have := yw2.2 e; have := yw1.2; omega) (by rw [hwh]; exact rTx_y (by omega) (by omega) (by omega))
    have q0 : Fq sSm1 h hC := (qA.tr (qB.mono at4_1)).tr (qC.mono sNx_1)
    have h5C : rI hC 130 5 = nI 0 := ((qC.1 130 5 rfl).1.trans (qB.1 130 5 rfl).1).trans rA.2.1
    have pC : ∀ i, i < 13841 → rI hC 134 i = plv i := fun i hi => ((qC.1 134 i rfl).1).trans (pl i hi)
    have my0 : MY t.2 j y00 hC := ⟨⟨⟨mx_fq mxB qC, Nat.zero_le _⟩, ⟨a1, a2, a3, a4⟩, ⟨((qC.1 130 11 rfl).1.trans (qB.1 130 11 rfl).1).trans rA.2.2.2.1, fun z => absurd rfl z⟩, pC 2940 (by omega), fun i hi => absurd hi (Nat.not_lt_zero _)⟩, fun _ => ⟨⟨pC 0 (by omega), pC 1 (by omega), pC 2 (by omega), pC 3 (by omega), pC 4 (by omega), pC 5 (by omega), pC 6 (by omega), pC 7 (by omega), pC 8 (by omega), pC 9 (by omega), pC 50 (by omega), ((qC.1 130 15 rfl).1.trans (qB.1 130 15 rfl).1).trans rA.2.2.2.2⟩, fun w hw => absurd (show w < 0 from hw) (Nat.not_lt_zero _), fun c hc => absurd (show c < 0 from hc) (Nat.not_lt_zero _), fun m hm => absurd (show m < 0 from hm) (Nat.not_lt_zero _), fun i i1 i2 => (pC i (by omega)).trans (by unfold plv; rw [if_neg (by omega), if_neg (by omega), if_neg (by omega)])⟩⟩
    exact L58 (900 + 1) 900 y00 hC (by omega) q0 h5C my0 (yw_00 _ _) (fun _ => by omega) rfl
  · skip
    exact absurd (by decide) c1
