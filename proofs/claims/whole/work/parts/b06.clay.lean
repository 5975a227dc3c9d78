/-! The class: legs are laid. -/
def vN (g : ShG) (vs : Nat → Int64) (i : Nat) : Nat := (ixL (vs i) (tot g)).getD 0
theorem vN_at {g : ShG} (hg : ShW g) {vs : Nat → Int64} {n i : Nat} (h : awB vs (tot g) n = true) (hi : i < n) : vs i = lN (vN g vs i) ∧ vN g vs i < tot g := by
  obtain ⟨j, e1, e2, e3⟩ := aw_at (by have := tot_b hg; omega) n h i hi
  unfold vN
  rw [e1]
  exact ⟨e2, e3⟩
def LGN (v : Nat → Nat) (n : Nat) (h : Hp) : Prop := rI h 78 1 = nI n ∧ ∀ i, i < n → rI h 79 i = nI (v i)
theorem c_lglay0 {d : Nat} {h : Hp} {so n : Nat} {vs : Nat → Int64} {v : Nat → Nat} {Q : Po} (ct : CT 0 (some (so, n, vs)) h) (hn8 : n ≤ 8) (hv : ∀ i, i < n → vs i = lN (v i)) (k : ∀ h1, Fq scC h h1 → LGN v n h1 → Q mk_ h1) : wpC (d + 2) true 18 [.ref 78, .ref 88] h Q := by
  refine go_in rfl ?_
  refine exf_go 3 (show Go (d + 1) true 18 5 [.ref 78, .ref 88, mk_] [.int (rI h 88 2), .ref 78] h Q from ?_)
  rw [show (rI h 88 2 : Int32) = nI n from ct.2.2.2.1]
  refine exf_go 2 (show wpC (d + 1) true 304 [.int (nI n), .int 8] h (fun r h' => Go (d + 1) true 18 10 [.ref 78, .ref 88, mk_] [r, .ref 78] h' Q) from ?_)
  refine c_min (a := n) (b := 8) (by omega) (by omega) ?_
  rw [show min n 8 = n from by omega]
  show Go (d + 1) true 18 10 [.ref 78, .ref 88, mk_] [.int (nI n), .ref 78] h Q
  refine exf_go 3 (show Go (d + 1) true 18 15 [.ref 78, .ref 88, .int 0] [] (uI h 78 1 (nI n)) Q from ?_)
  have L15 : ∀ (k15 : Nat) (i : Nat) (h1 : Hp), (n - i) < k15 → (i ≤ n) → (Fq scC h h1) → (rI h1 78 1 = nI n) → (∀ x, x < i → rI h1 79 x = nI (v x)) → Go (d + 1) true 18 15 [.ref 78, .ref 88, .int (nI i)] [] h1 Q := by
    intro k15
    induction k15 with
    | zero => intro i h1 hk; exact absurd hk (Nat.not_lt_zero _)
    | succ k15 ih15 =>
      intro i h1 hk hi q1 hs hn
      have ct1 : CT 0 (some (so, n, vs)) h1 := ct_same ct (q1.I (fun x => rfl)) (q1.J (fun x => rfl))
      refine exf_go 3 (show Go (d + 1) true 18 20 [.ref 78, .ref 88, .int (nI i)] [.int (rI h1 78 1), .int (nI i)] h1 Q from ?_)
      rw [show (rI h1 78 1 : Int32) = nI n from hs]
      refine exf_go 1 (show ((nI n) ≤ (nI i) → Go (d + 1) true 18 41 [.ref 78, .ref 88, .int (nI i)] [] h1 Q) ∧ (¬ ((nI n) ≤ (nI i)) → Go (d + 1) true 18 23 [.ref 78, .ref 88, .int (nI i)] [] h1 Q) from ⟨fun c1 => ?_, fun c1 => ?_⟩)
      · skip
        have c1 : n ≤ i := (nI_leI (a := n) (b := i) (by omega) (by omega)).mp c1
        refine exf_go 1 (show Q (mk_) h1 from ?_)
        exact k h1 q1 ⟨hs, fun x hx => hn x (by omega)⟩
      · skip
        have c1 : ¬ n ≤ i := fun q => c1 ((nI_leI (a := n) (b := i) (by omega) (by omega)).mpr q)
        refine exf_go 6 (show wpC (d + 1) true 104 [.ref 88, .int (nI i)] h1 (fun r h' => Go (d + 1) true 18 33 [.ref 78, .ref 88, .int (nI i)] [r, .int (nI i), .ref 79] h' Q) from ?_)
        refine c_tat0 ct1 (i := i) (by omega) ?_
        rw [hv i (by omega)]
        show Go (d + 1) true 18 33 [.ref 78, .ref 88, .int (nI i)] [.long (lN (v i)), .int (nI i), .ref 79] h1 Q
        refine exf_go 1 (show Go (d + 1) true 18 34 [.ref 78, .ref 88, .int (nI i)] [.int ((lN (v i)).toInt32), .int (nI i), .ref 79] h1 Q from ?_)
        rw [show ((lN (v i)).toInt32 : Int32) = nI (v i) from lN_i _]
        refine exf_go 2 (show vp_in (nI i) 8 ∧ (Go (d + 1) true 18 38 [.ref 78, .ref 88, .int ((nI i) + 1)] [] (uI h1 79 ((nI i).toNatClampNeg) (nI (v i))) Q) from ⟨(vp_in_nI (by omega) (by omega)), ?_⟩)
        rw [show ((nI i) + 1 : Int32) = nI (i + 1) from nI_add i 1]
        refine exf_go 1 (show Go (d + 1) true 18 15 [.ref 78, .ref 88, .int (nI (i + 1))] [] (uI h1 79 ((nI i).toNatClampNeg) (nI (v i))) Q from ?_)
        exact ih15 (i + 1) _ (by omega) (by omega) (q1.uI' _ _ _ rfl) hs (fun x hx => (Decidable.em (x = i)).elim (fun e => by rw [nI_clamp (by omega), e, rI_uI_eq]) (fun e => by rw [nI_clamp (by omega), rI_uI_at e]; exact hn x (by omega)))
  exact L15 (n + 1) 0 _ (by omega) (by omega) (Fq.rfl'.uI' _ _ _ rfl) rfl (fun x hx => absurd hx (Nat.not_lt_zero _))
theorem c_lglay1 {d : Nat} {h : Hp} {so n : Nat} {vs : Nat → Int64} {v : Nat → Nat} {Q : Po} (ct : CT 1 (some (so, n, vs)) h) (hn8 : n ≤ 8) (hv : ∀ i, i < n → vs i = lN (v i)) (k : ∀ h1, Fq scC h h1 → LGN v n h1 → Q mk_ h1) : wpC (d + 2) true 18 [.ref 78, .ref 90] h Q := by
  refine go_in rfl ?_
  refine exf_go 3 (show Go (d + 1) true 18 5 [.ref 78, .ref 90, mk_] [.int (rI h 90 2), .ref 78] h Q from ?_)
  rw [show (rI h 90 2 : Int32) = nI n from ct.2.2.2.1]
  refine exf_go 2 (show wpC (d + 1) true 304 [.int (nI n), .int 8] h (fun r h' => Go (d + 1) true 18 10 [.ref 78, .ref 90, mk_] [r, .ref 78] h' Q) from ?_)
  refine c_min (a := n) (b := 8) (by omega) (by omega) ?_
  rw [show min n 8 = n from by omega]
  show Go (d + 1) true 18 10 [.ref 78, .ref 90, mk_] [.int (nI n), .ref 78] h Q
  refine exf_go 3 (show Go (d + 1) true 18 15 [.ref 78, .ref 90, .int 0] [] (uI h 78 1 (nI n)) Q from ?_)
  have L15 : ∀ (k15 : Nat) (i : Nat) (h1 : Hp), (n - i) < k15 → (i ≤ n) → (Fq scC h h1) → (rI h1 78 1 = nI n) → (∀ x, x < i → rI h1 79 x = nI (v x)) → Go (d + 1) true 18 15 [.ref 78, .ref 90, .int (nI i)] [] h1 Q := by
    intro k15
    induction k15 with
    | zero => intro i h1 hk; exact absurd hk (Nat.not_lt_zero _)
    | succ k15 ih15 =>
      intro i h1 hk hi q1 hs hn
      have ct1 : CT 1 (some (so, n, vs)) h1 := ct_same ct (q1.I (fun x => rfl)) (q1.J (fun x => rfl))
      refine exf_go 3 (show Go (d + 1) true 18 20 [.ref 78, .ref 90, .int (nI i)] [.int (rI h1 78 1), .int (nI i)] h1 Q from ?_)
      rw [show (rI h1 78 1 : Int32) = nI n from hs]
      refine exf_go 1 (show ((nI n) ≤ (nI i) → Go (d + 1) true 18 41 [.ref 78, .ref 90, .int (nI i)] [] h1 Q) ∧ (¬ ((nI n) ≤ (nI i)) → Go (d + 1) true 18 23 [.ref 78, .ref 90, .int (nI i)] [] h1 Q) from ⟨fun c1 => ?_, fun c1 => ?_⟩)
      · skip
        have c1 : n ≤ i := (nI_leI (a := n) (b := i) (by omega) (by omega)).mp c1
        refine exf_go 1 (show Q (mk_) h1 from ?_)
        exact k h1 q1 ⟨hs, fun x hx => hn x (by omega)⟩
      · skip
        have c1 : ¬ n ≤ i := fun q => c1 ((nI_leI (a := n) (b := i) (by omega) (by omega)).mpr q)
        refine exf_go 6 (show wpC (d + 1) true 104 [.ref 90, .int (nI i)] h1 (fun r h' => Go (d + 1) true 18 33 [.ref 78, .ref 90, .int (nI i)] [r, .int (nI i), .ref 79] h' Q) from ?_)
        refine c_tat1 ct1 (i := i) (by omega) ?_
        rw [hv i (by omega)]
        show Go (d + 1) true 18 33 [.ref 78, .ref 90, .int (nI i)] [.long (lN (v i)), .int (nI i), .ref 79] h1 Q
        refine exf_go 1 (show Go (d + 1) true 18 34 [.ref 78, .ref 90, .int (nI i)] [.int ((lN (v i)).toInt32), .int (nI i), .ref 79] h1 Q from ?_)
        rw [show ((lN (v i)).toInt32 : Int32) = nI (v i) from lN_i _]
        refine exf_go 2 (show vp_in (nI i) 8 ∧ (Go (d + 1) true 18 38 [.ref 78, .ref 90, .int ((nI i) + 1)] [] (uI h1 79 ((nI i).toNatClampNeg) (nI (v i))) Q) from ⟨(vp_in_nI (by omega) (by omega)), ?_⟩)
        rw [show ((nI i) + 1 : Int32) = nI (i + 1) from nI_add i 1]
        refine exf_go 1 (show Go (d + 1) true 18 15 [.ref 78, .ref 90, .int (nI (i + 1))] [] (uI h1 79 ((nI i).toNatClampNeg) (nI (v i))) Q from ?_)
        exact ih15 (i + 1) _ (by omega) (by omega) (q1.uI' _ _ _ rfl) hs (fun x hx => (Decidable.em (x = i)).elim (fun e => by rw [nI_clamp (by omega), e, rI_uI_eq]) (fun e => by rw [nI_clamp (by omega), rI_uI_at e]; exact hn x (by omega)))
  exact L15 (n + 1) 0 _ (by omega) (by omega) (Fq.rfl'.uI' _ _ _ rfl) rfl (fun x hx => absurd hx (Nat.not_lt_zero _))
theorem c_lglay2 {d : Nat} {h : Hp} {so n : Nat} {vs : Nat → Int64} {v : Nat → Nat} {Q : Po} (ct : CT 2 (some (so, n, vs)) h) (hn8 : n ≤ 8) (hv : ∀ i, i < n → vs i = lN (v i)) (k : ∀ h1, Fq scC h h1 → LGN v n h1 → Q mk_ h1) : wpC (d + 2) true 18 [.ref 78, .ref 92] h Q := by
  refine go_in rfl ?_
  refine exf_go 3 (show Go (d + 1) true 18 5 [.ref 78, .ref 92, mk_] [.int (rI h 92 2), .ref 78] h Q from ?_)
  rw [show (rI h 92 2 : Int32) = nI n from ct.2.2.2.1]
  refine exf_go 2 (show wpC (d + 1) true 304 [.int (nI n), .int 8] h (fun r h' => Go (d + 1) true 18 10 [.ref 78, .ref 92, mk_] [r, .ref 78] h' Q) from ?_)
  refine c_min (a := n) (b := 8) (by omega) (by omega) ?_
  rw [show min n 8 = n from by omega]
  show Go (d + 1) true 18 10 [.ref 78, .ref 92, mk_] [.int (nI n), .ref 78] h Q
  refine exf_go 3 (show Go (d + 1) true 18 15 [.ref 78, .ref 92, .int 0] [] (uI h 78 1 (nI n)) Q from ?_)
  have L15 : ∀ (k15 : Nat) (i : Nat) (h1 : Hp), (n - i) < k15 → (i ≤ n) → (Fq scC h h1) → (rI h1 78 1 = nI n) → (∀ x, x < i → rI h1 79 x = nI (v x)) → Go (d + 1) true 18 15 [.ref 78, .ref 92, .int (nI i)] [] h1 Q := by
    intro k15
    induction k15 with
    | zero => intro i h1 hk; exact absurd hk (Nat.not_lt_zero _)
    | succ k15 ih15 =>
      intro i h1 hk hi q1 hs hn
      have ct1 : CT 2 (some (so, n, vs)) h1 := ct_same ct (q1.I (fun x => rfl)) (q1.J (fun x => rfl))
      refine exf_go 3 (show Go (d + 1) true 18 20 [.ref 78, .ref 92, .int (nI i)] [.int (rI h1 78 1), .int (nI i)] h1 Q from ?_)
      rw [show (rI h1 78 1 : Int32) = nI n from hs]
      refine exf_go 1 (show ((nI n) ≤ (nI i) → Go (d + 1) true 18 41 [.ref 78, .ref 92, .int (nI i)] [] h1 Q) ∧ (¬ ((nI n) ≤ (nI i)) → Go (d + 1) true 18 23 [.ref 78, .ref 92, .int (nI i)] [] h1 Q) from ⟨fun c1 => ?_, fun c1 => ?_⟩)
      · skip
        have c1 : n ≤ i := (nI_leI (a := n) (b := i) (by omega) (by omega)).mp c1
        refine exf_go 1 (show Q (mk_) h1 from ?_)
        exact k h1 q1 ⟨hs, fun x hx => hn x (by omega)⟩
      · skip
        have c1 : ¬ n ≤ i := fun q => c1 ((nI_leI (a := n) (b := i) (by omega) (by omega)).mpr q)
        refine exf_go 6 (show wpC (d + 1) true 104 [.ref 92, .int (nI i)] h1 (fun r h' => Go (d + 1) true 18 33 [.ref 78, .ref 92, .int (nI i)] [r, .int (nI i), .ref 79] h' Q) from ?_)
        refine c_tat2 ct1 (i := i) (by omega) ?_
        rw [hv i (by omega)]
        show Go (d + 1) true 18 33 [.ref 78, .ref 92, .int (nI i)] [.long (lN (v i)), .int (nI i), .ref 79] h1 Q
        refine exf_go 1 (show Go (d + 1) true 18 34 [.ref 78, .ref 92, .int (nI i)] [.int ((lN (v i)).toInt32), .int (nI i), .ref 79] h1 Q from ?_)
        rw [show ((lN (v i)).toInt32 : Int32) = nI (v i) from lN_i _]
        refine exf_go 2 (show vp_in (nI i) 8 ∧ (Go (d + 1) true 18 38 [.ref 78, .ref 92, .int ((nI i) + 1)] [] (uI h1 79 ((nI i).toNatClampNeg) (nI (v i))) Q) from ⟨(vp_in_nI (by omega) (by omega)), ?_⟩)
        rw [show ((nI i) + 1 : Int32) = nI (i + 1) from nI_add i 1]
        refine exf_go 1 (show Go (d + 1) true 18 15 [.ref 78, .ref 92, .int (nI (i + 1))] [] (uI h1 79 ((nI i).toNatClampNeg) (nI (v i))) Q from ?_)
        exact ih15 (i + 1) _ (by omega) (by omega) (q1.uI' _ _ _ rfl) hs (fun x hx => (Decidable.em (x = i)).elim (fun e => by rw [nI_clamp (by omega), e, rI_uI_eq]) (fun e => by rw [nI_clamp (by omega), rI_uI_at e]; exact hn x (by omega)))
  exact L15 (n + 1) 0 _ (by omega) (by omega) (Fq.rfl'.uI' _ _ _ rfl) rfl (fun x hx => absurd hx (Nat.not_lt_zero _))
theorem c_lglay3 {d : Nat} {h : Hp} {so n : Nat} {vs : Nat → Int64} {v : Nat → Nat} {Q : Po} (ct : CT 3 (some (so, n, vs)) h) (hn8 : n ≤ 8) (hv : ∀ i, i < n → vs i = lN (v i)) (k : ∀ h1, Fq scC h h1 → LGN v n h1 → Q mk_ h1) : wpC (d + 2) true 18 [.ref 78, .ref 94] h Q := by
  refine go_in rfl ?_
  refine exf_go 3 (show Go (d + 1) true 18 5 [.ref 78, .ref 94, mk_] [.int (rI h 94 2), .ref 78] h Q from ?_)
  rw [show (rI h 94 2 : Int32) = nI n from ct.2.2.2.1]
  refine exf_go 2 (show wpC (d + 1) true 304 [.int (nI n), .int 8] h (fun r h' => Go (d + 1) true 18 10 [.ref 78, .ref 94, mk_] [r, .ref 78] h' Q) from ?_)
  refine c_min (a := n) (b := 8) (by omega) (by omega) ?_
  rw [show min n 8 = n from by omega]
  show Go (d + 1) true 18 10 [.ref 78, .ref 94, mk_] [.int (nI n), .ref 78] h Q
  refine exf_go 3 (show Go (d + 1) true 18 15 [.ref 78, .ref 94, .int 0] [] (uI h 78 1 (nI n)) Q from ?_)
  have L15 : ∀ (k15 : Nat) (i : Nat) (h1 : Hp), (n - i) < k15 → (i ≤ n) → (Fq scC h h1) → (rI h1 78 1 = nI n) → (∀ x, x < i → rI h1 79 x = nI (v x)) → Go (d + 1) true 18 15 [.ref 78, .ref 94, .int (nI i)] [] h1 Q := by
    intro k15
    induction k15 with
    | zero => intro i h1 hk; exact absurd hk (Nat.not_lt_zero _)
    | succ k15 ih15 =>
      intro i h1 hk hi q1 hs hn
      have ct1 : CT 3 (some (so, n, vs)) h1 := ct_same ct (q1.I (fun x => rfl)) (q1.J (fun x => rfl))
      refine exf_go 3 (show Go (d + 1) true 18 20 [.ref 78, .ref 94, .int (nI i)] [.int (rI h1 78 1), .int (nI i)] h1 Q from ?_)
      rw [show (rI h1 78 1 : Int32) = nI n from hs]
      refine exf_go 1 (show ((nI n) ≤ (nI i) → Go (d + 1) true 18 41 [.ref 78, .ref 94, .int (nI i)] [] h1 Q) ∧ (¬ ((nI n) ≤ (nI i)) → Go (d + 1) true 18 23 [.ref 78, .ref 94, .int (nI i)] [] h1 Q) from ⟨fun c1 => ?_, fun c1 => ?_⟩)
      · skip
        have c1 : n ≤ i := (nI_leI (a := n) (b := i) (by omega) (by omega)).mp c1
        refine exf_go 1 (show Q (mk_) h1 from ?_)
        exact k h1 q1 ⟨hs, fun x hx => hn x (by omega)⟩
      · skip
        have c1 : ¬ n ≤ i := fun q => c1 ((nI_leI (a := n) (b := i) (by omega) (by omega)).mpr q)
        refine exf_go 6 (show wpC (d + 1) true 104 [.ref 94, .int (nI i)] h1 (fun r h' => Go (d + 1) true 18 33 [.ref 78, .ref 94, .int (nI i)] [r, .int (nI i), .ref 79] h' Q) from ?_)
        refine c_tat3 ct1 (i := i) (by omega) ?_
        rw [hv i (by omega)]
        show Go (d + 1) true 18 33 [.ref 78, .ref 94, .int (nI i)] [.long (lN (v i)), .int (nI i), .ref 79] h1 Q
        refine exf_go 1 (show Go (d + 1) true 18 34 [.ref 78, .ref 94, .int (nI i)] [.int ((lN (v i)).toInt32), .int (nI i), .ref 79] h1 Q from ?_)
        rw [show ((lN (v i)).toInt32 : Int32) = nI (v i) from lN_i _]
        refine exf_go 2 (show vp_in (nI i) 8 ∧ (Go (d + 1) true 18 38 [.ref 78, .ref 94, .int ((nI i) + 1)] [] (uI h1 79 ((nI i).toNatClampNeg) (nI (v i))) Q) from ⟨(vp_in_nI (by omega) (by omega)), ?_⟩)
        rw [show ((nI i) + 1 : Int32) = nI (i + 1) from nI_add i 1]
        refine exf_go 1 (show Go (d + 1) true 18 15 [.ref 78, .ref 94, .int (nI (i + 1))] [] (uI h1 79 ((nI i).toNatClampNeg) (nI (v i))) Q from ?_)
        exact ih15 (i + 1) _ (by omega) (by omega) (q1.uI' _ _ _ rfl) hs (fun x hx => (Decidable.em (x = i)).elim (fun e => by rw [nI_clamp (by omega), e, rI_uI_eq]) (fun e => by rw [nI_clamp (by omega), rI_uI_at e]; exact hn x (by omega)))
  exact L15 (n + 1) 0 _ (by omega) (by omega) (Fq.rfl'.uI' _ _ _ rfl) rfl (fun x hx => absurd hx (Nat.not_lt_zero _))
theorem c_layLegs {d : Nat} {h : Hp} {g : ShG} {l : LkG} {v : Nat → Nat} {n : Nat} {pl : Nat} {Q : Po} (cs : CS 31 g h) (cl : CL 39 g l h) (hn8 : n ≤ 8) (ln : LGN v n h) (hvt : ∀ i, i < n → v i < tot g) (hpl : pl ≤ 60) (k : ∀ h1, Fq scC h h1 → LGN v n h1 → (∀ x, x < n → rI h1 80 x = nI (trn g (lA l) (v x) + pl)) → (∀ x y, x < n → y < n → rI h1 81 (x * 8 + y) = nI (trn g (v x) (v y) + pl)) → Q mk_ h1) : wpC (d + 4) true 23 [.ref 78, .ref 31, .ref 39, .int (nI pl)] h Q := by
  have hN := tot_b cs.1
  have he := evr_b cs.1
  have h8 := cs.1.2.2.2.1
  have h4 := cs.1.2.2.2.2.2.1
  have hA := cl.1.1
  refine go_in rfl ?_
  refine exf_go 2 (show Go (d + 3) true 23 3 [.ref 78, .ref 31, .ref 39, .int (nI pl), .int 0, mk_] [] h Q from ?_)
  have L3 : ∀ (k3 : Nat) (z5 : Value) (i : Nat) (h1 : Hp), (n - i) < k3 → (i ≤ n) → (Fq scC h h1) → (LGN v n h1) → (∀ x, x < i → rI h1 80 x = nI (trn g (lA l) (v x) + pl)) → (∀ x y, x < i → y < n → rI h1 81 (x * 8 + y) = nI (trn g (v x) (v y) + pl)) → Go (d + 3) true 23 3 [.ref 78, .ref 31, .ref 39, .int (nI pl), .int (nI i), z5] [] h1 Q := by
    intro k3
    induction k3 with
    | zero => intro z5 i h1 hk; exact absurd hk (Nat.not_lt_zero _)
    | succ k3 ih3 =>
      intro z5 i h1 hk hi q1 ln1 h80 h81
      have cs1 := cs_fq cs q1; have cl1 := cl_fq cl q1
      refine exf_go 3 (show Go (d + 3) true 23 9 [.ref 78, .ref 31, .ref 39, .int (nI pl), .int (nI i), z5] [.int (rI h1 78 1), .int (nI i)] h1 Q from ?_)
      rw [show (rI h1 78 1 : Int32) = nI n from ln1.1]
      refine exf_go 1 (show ((nI n) ≤ (nI i) → Go (d + 3) true 23 93 [.ref 78, .ref 31, .ref 39, .int (nI pl), .int (nI i), z5] [] h1 Q) ∧ (¬ ((nI n) ≤ (nI i)) → Go (d + 3) true 23 12 [.ref 78, .ref 31, .ref 39, .int (nI pl), .int (nI i), z5] [] h1 Q) from ⟨fun c1 => ?_, fun c1 => ?_⟩)
      · skip
        have c1 : n ≤ i := (nI_leI (a := n) (b := i) (by omega) (by omega)).mp c1
        refine exf_go 1 (show Q (mk_) h1 from ?_)
        exact k h1 q1 ln1 (fun x hx => h80 x (by omega)) (fun x y hx hy => h81 x y (by omega) hy)
      · skip
        have c1 : ¬ n ≤ i := fun q => c1 ((nI_leI (a := n) (b := i) (by omega) (by omega)).mpr q)
        refine exf_go 6 (show Go (d + 3) true 23 23 [.ref 78, .ref 31, .ref 39, .int (nI pl), .int (nI i), z5] [.int (rI h1 39 3), .ref 31, .int (nI i), .ref 80] h1 Q from ?_)
        rw [show (rI h1 39 3 : Int32) = nI (lA l) from cl_A cl1]
        refine exf_go 4 (show vp_in (nI i) 8 ∧ (Go (d + 3) true 23 30 [.ref 78, .ref 31, .ref 39, .int (nI pl), .int (nI i), z5] [.int (rI h1 79 ((nI i).toNatClampNeg)), .int (nI (lA l)), .ref 31, .int (nI i), .ref 80] h1 Q) from ⟨(vp_in_nI (by omega) (by omega)), ?_⟩)
        rw [show (rI h1 79 ((nI i).toNatClampNeg) : Int32) = nI (v i) from by rw [nI_clamp (by omega)]; exact ln1.2 _ (by omega)]
        have := hvt i (by omega)
        refine exf_go 1 (show wpC (d + 3) true 83 [.ref 31, .int (nI (lA l)), .int (nI (v i))] h1 (fun r h' => Go (d + 3) true 23 33 [.ref 78, .ref 31, .ref 39, .int (nI pl), .int (nI i), z5] [r, .int (nI i), .ref 80] h' Q) from ?_)
        refine c_turns cs1 (by omega) (by omega) ?_
        have := trn_b cs.1 (lA l) (v i)
        show Go (d + 3) true 23 33 [.ref 78, .ref 31, .ref 39, .int (nI pl), .int (nI i), z5] [.int (nI (trn g (lA l) (v i))), .int (nI i), .ref 80] h1 Q
        refine exf_go 2 (show Go (d + 3) true 23 35 [.ref 78, .ref 31, .ref 39, .int (nI pl), .int (nI i), z5] [.int ((nI (trn g (lA l) (v i))) + (nI pl)), .int (nI i), .ref 80] h1 Q from ?_)
        rw [show ((nI (trn g (lA l) (v i))) + (nI pl) : Int32) = nI ((trn g (lA l) (v i)) + pl) from nI_add (trn g (lA l) (v i)) pl]
        refine exf_go 3 (show vp_in (nI i) 8 ∧ (Go (d + 3) true 23 39 [.ref 78, .ref 31, .ref 39, .int (nI pl), .int (nI i), .int 0] [] (uI h1 80 ((nI i).toNatClampNeg) (nI ((trn g (lA l) (v i)) + pl))) Q) from ⟨(vp_in_nI (by omega) (by omega)), ?_⟩)
        have L39 : ∀ (k39 : Nat) (j : Nat) (h2 : Hp), (n - j) < k39 → (j ≤ n) → (Fq scC h h2) → (LGN v n h2) → (∀ x, x < i + 1 → rI h2 80 x = nI (trn g (lA l) (v x) + pl)) → (∀ x y, x < i → y < n → rI h2 81 (x * 8 + y) = nI (trn g (v x) (v y) + pl)) → (∀ y, y < j → rI h2 81 (i * 8 + y) = nI (trn g (v i) (v y) + pl)) → Go (d + 3) true 23 39 [.ref 78, .ref 31, .ref 39, .int (nI pl), .int (nI i), .int (nI j)] [] h2 Q := by
          intro k39
          induction k39 with
          | zero => intro j h2 hk; exact absurd hk (Nat.not_lt_zero _)
          | succ k39 ih39 =>
            intro j h2 hk hj q2 ln2 h802 h812 hr
            have cs2 := cs_fq cs q2; have cl2 := cl_fq cl q2
            refine exf_go 3 (show Go (d + 3) true 23 45 [.ref 78, .ref 31, .ref 39, .int (nI pl), .int (nI i), .int (nI j)] [.int (rI h2 78 1), .int (nI j)] h2 Q from ?_)
            rw [show (rI h2 78 1 : Int32) = nI n from ln2.1]
            refine exf_go 1 (show ((nI n) ≤ (nI j) → Go (d + 3) true 23 87 [.ref 78, .ref 31, .ref 39, .int (nI pl), .int (nI i), .int (nI j)] [] h2 Q) ∧ (¬ ((nI n) ≤ (nI j)) → Go (d + 3) true 23 48 [.ref 78, .ref 31, .ref 39, .int (nI pl), .int (nI i), .int (nI j)] [] h2 Q) from ⟨fun c2 => ?_, fun c2 => ?_⟩)
            · skip
              have c2 : n ≤ j := (nI_leI (a := n) (b := j) (by omega) (by omega)).mp c2
              refine exf_go 1 (show Go (d + 3) true 23 90 [.ref 78, .ref 31, .ref 39, .int (nI pl), .int ((nI i) + 1), .int (nI j)] [] h2 Q from ?_)
              rw [show ((nI i) + 1 : Int32) = nI (i + 1) from nI_add i 1]
              refine exf_go 1 (show Go (d + 3) true 23 3 [.ref 78, .ref 31, .ref 39, .int (nI pl), .int (nI (i + 1)), .int (nI j)] [] h2 Q from ?_)
              exact ih3 (.int (nI j)) (i + 1) h2 (by omega) (by omega) q2 ln2 h802 (fun x y hx hy => (Decidable.em (x = i)).elim (fun e => by rw [e]; exact hr y (by omega)) (fun e => h812 x y (by omega) hy))
            · skip
              have c2 : ¬ n ≤ j := fun q => c2 ((nI_leI (a := n) (b := j) (by omega) (by omega)).mpr q)
              refine exf_go 5 (show Go (d + 3) true 23 57 [.ref 78, .ref 31, .ref 39, .int (nI pl), .int (nI i), .int (nI j)] [.int ((nI i) * 8), .ref 81] h2 Q from ?_)
              rw [show ((nI i) * 8 : Int32) = nI (i * 8) from pk_mul i 8]
              refine exf_go 2 (show Go (d + 3) true 23 60 [.ref 78, .ref 31, .ref 39, .int (nI pl), .int (nI i), .int (nI j)] [.int ((nI (i * 8)) + (nI j)), .ref 81] h2 Q from ?_)
              rw [show ((nI (i * 8)) + (nI j) : Int32) = nI ((i * 8) + j) from nI_add (i * 8) j]
              refine exf_go 5 (show vp_in (nI i) 8 ∧ (Go (d + 3) true 23 68 [.ref 78, .ref 31, .ref 39, .int (nI pl), .int (nI i), .int (nI j)] [.int (rI h2 79 ((nI i).toNatClampNeg)), .ref 31, .int (nI ((i * 8) + j)), .ref 81] h2 Q) from ⟨(vp_in_nI (by omega) (by omega)), ?_⟩)
              rw [show (rI h2 79 ((nI i).toNatClampNeg) : Int32) = nI (v i) from by rw [nI_clamp (by omega)]; exact ln2.2 _ (by omega)]
              have := hvt i (by omega)
              refine exf_go 4 (show vp_in (nI j) 8 ∧ (Go (d + 3) true 23 75 [.ref 78, .ref 31, .ref 39, .int (nI pl), .int (nI i), .int (nI j)] [.int (rI h2 79 ((nI j).toNatClampNeg)), .int (nI (v i)), .ref 31, .int (nI ((i * 8) + j)), .ref 81] h2 Q) from ⟨(vp_in_nI (by omega) (by omega)), ?_⟩)
              rw [show (rI h2 79 ((nI j).toNatClampNeg) : Int32) = nI (v j) from by rw [nI_clamp (by omega)]; exact ln2.2 _ (by omega)]
              have := hvt j (by omega)
              refine exf_go 1 (show wpC (d + 3) true 83 [.ref 31, .int (nI (v i)), .int (nI (v j))] h2 (fun r h' => Go (d + 3) true 23 78 [.ref 78, .ref 31, .ref 39, .int (nI pl), .int (nI i), .int (nI j)] [r, .int (nI ((i * 8) + j)), .ref 81] h' Q) from ?_)
              refine c_turns cs2 (by omega) (by omega) ?_
              have := trn_b cs.1 (v i) (v j)
              show Go (d + 3) true 23 78 [.ref 78, .ref 31, .ref 39, .int (nI pl), .int (nI i), .int (nI j)] [.int (nI (trn g (v i) (v j))), .int (nI ((i * 8) + j)), .ref 81] h2 Q
              refine exf_go 2 (show Go (d + 3) true 23 80 [.ref 78, .ref 31, .ref 39, .int (nI pl), .int (nI i), .int (nI j)] [.int ((nI (trn g (v i) (v j))) + (nI pl)), .int (nI ((i * 8) + j)), .ref 81] h2 Q from ?_)
              rw [show ((nI (trn g (v i) (v j))) + (nI pl) : Int32) = nI ((trn g (v i) (v j)) + pl) from nI_add (trn g (v i) (v j)) pl]
              refine exf_go 2 (show vp_in (nI ((i * 8) + j)) 64 ∧ (Go (d + 3) true 23 84 [.ref 78, .ref 31, .ref 39, .int (nI pl), .int (nI i), .int ((nI j) + 1)] [] (uI h2 81 ((nI ((i * 8) + j)).toNatClampNeg) (nI ((trn g (v i) (v j)) + pl))) Q) from ⟨(vp_in_nI (by omega) (by omega)), ?_⟩)
              rw [show ((nI j) + 1 : Int32) = nI (j + 1) from nI_add j 1]
              refine exf_go 1 (show Go (d + 3) true 23 39 [.ref 78, .ref 31, .ref 39, .int (nI pl), .int (nI i), .int (nI (j + 1))] [] (uI h2 81 ((nI ((i * 8) + j)).toNatClampNeg) (nI ((trn g (v i) (v j)) + pl))) Q from ?_)
              exact ih39 (j + 1) _ (by omega) (by omega) (q2.uI' _ _ _ rfl) ln2 h802 (fun x y hx hy => by rw [nI_clamp (by omega), rI_uI_at (by omega)]; exact h812 x y hx hy) (fun y hy => (Decidable.em (y = j)).elim (fun e => by rw [nI_clamp (by omega), e, rI_uI_eq]) (fun e => by rw [nI_clamp (by omega), rI_uI_at (by omega)]; exact hr y (by omega)))
        exact L39 (n + 1) 0 _ (by omega) (by omega) (q1.uI' _ _ _ rfl) ln1 (fun x hx => (Decidable.em (x = i)).elim (fun e => by rw [nI_clamp (by omega), e, rI_uI_eq]) (fun e => by rw [nI_clamp (by omega), rI_uI_at e]; exact h80 x (by omega))) h81 (fun y hy => absurd hy (Nat.not_lt_zero _))
  exact L3 (n + 1) mk_ 0 h (by omega) (by omega) Fq.rfl' ln (fun x hx => absurd hx (Nat.not_lt_zero _)) (fun x y hx => absurd hx (Nat.not_lt_zero _))
theorem c_weigh {d : Nat} {h : Hp} {g : ShG} {l : LkG} {v : Nat → Nat} {n : Nat} {Q : Po} (cs : CS 31 g h) (cl : CL 39 g l h) (hn8 : n ≤ 8) (ln : LGN v n h) (hvt : ∀ i, i < n → v i < tot g) (hn1 : 1 ≤ n) (k : ∀ h1, Fq scC h h1 → LGR g l (sP g) v (fWs g v n) n h1 → Q mk_ h1) : wpC (d + 5) true 19 [.ref 78, .ref 31, .ref 39] h Q := by
  have hN := tot_b cs.1
  have he := evr_b cs.1
  have h8 := cs.1.2.2.2.1
  have h4 := cs.1.2.2.2.2.2.1
  have hA := cl.1.1
  have hp8 := pow_n8 hn8; have hp1 := pow_n1 n
  have hpp := cs.1.2.2.2.2.2.2.2.1
  refine go_in rfl ?_
  refine exf_go 5 (show Go (d + 4) true 19 7 [.ref 78, .ref 31, .ref 39, mk_, mk_, mk_, mk_] [.int (rI h 31 9), .ref 39, .ref 31, .ref 78] h Q from ?_)
  rw [show (rI h 31 9 : Int32) = nI (sP g) from cs_P cs]
  refine exf_go 1 (show wpC (d + 4) true 23 [.ref 78, .ref 31, .ref 39, .int (nI (sP g))] h (fun _ h' => Go (d + 4) true 19 10 [.ref 78, .ref 31, .ref 39, mk_, mk_, mk_, mk_] [] h' Q) from ?_)
  refine c_layLegs (pl := sP g) cs cl hn8 ln hvt (by omega) (fun h1 q1 ln1 h80 h81 => ?_)
  have cs1 := cs_fq cs q1; have cl1 := cl_fq cl q1
  show Go (d + 4) true 19 10 [.ref 78, .ref 31, .ref 39, mk_, mk_, mk_, mk_] [] h1 Q
  refine exf_go 2 (show Go (d + 4) true 19 12 [.ref 78, .ref 31, .ref 39, .int 0, mk_, mk_, mk_] [] h1 Q from ?_)
  have L12 : ∀ (k12 : Nat) (z4 z6 : Value) (dn : Nat) (h2 : Hp), (2 ^ n - dn) < k12 → (dn ≤ 2 ^ n) → (Fq scC h h2) → (LGN v n h2) → (∀ x, x < n → rI h2 80 x = nI (trn g (lA l) (v x) + sP g)) → (∀ x y, x < n → y < n → rI h2 81 (x * 8 + y) = nI (trn g (v x) (v y) + sP g)) → (∀ x, x < dn → rJ h2 82 x = lN (fWs g v n x)) → Go (d + 4) true 19 12 [.ref 78, .ref 31, .ref 39, .int (nI dn), z4, mk_, z6] [] h2 Q := by
    intro k12
    induction k12 with
    | zero => intro z4 z6 dn h2 hk; exact absurd hk (Nat.not_lt_zero _)
    | succ k12 ih12 =>
      intro z4 z6 dn h2 hk hdn q2 ln2 h802 h812 h82
      have cs2 := cs_fq cs q2; have cl2 := cl_fq cl q2
      refine exf_go 4 (show Go (d + 4) true 19 18 [.ref 78, .ref 31, .ref 39, .int (nI dn), z4, mk_, z6] [.int (rI h2 78 1), .int 1, .int (nI dn)] h2 Q from ?_)
      rw [show (rI h2 78 1 : Int32) = nI n from ln2.1]
      refine exf_go 1 (show Go (d + 4) true 19 19 [.ref 78, .ref 31, .ref 39, .int (nI dn), z4, mk_, z6] [.int (1 <<< ((nI n) &&& 31)), .int (nI dn)] h2 Q from ?_)
      rw [show (1 <<< ((nI n) &&& 31) : Int32) = nI (2 ^ n) from nI_1shl (k := n) (by omega)]
      refine exf_go 1 (show ((nI (2 ^ n)) ≤ (nI dn) → Go (d + 4) true 19 88 [.ref 78, .ref 31, .ref 39, .int (nI dn), z4, mk_, z6] [] h2 Q) ∧ (¬ ((nI (2 ^ n)) ≤ (nI dn)) → Go (d + 4) true 19 22 [.ref 78, .ref 31, .ref 39, .int (nI dn), z4, mk_, z6] [] h2 Q) from ⟨fun c1 => ?_, fun c1 => ?_⟩)
      · skip
        have c1 : (2 ^ n) ≤ dn := (nI_leI (a := (2 ^ n)) (b := dn) (by omega) (by omega)).mp c1
        refine exf_go 1 (show Q (mk_) h2 from ?_)
        exact k h2 q2 ⟨⟨cs.1, hn1, hn8, cs.1.2.2.2.2.2.2.2.1.2⟩, fWs_b cs.1 hn8, ln2.1, hvt, ln2.2, h802, h812, fun e he => h82 e (by omega)⟩
      · skip
        have c1 : ¬ (2 ^ n) ≤ dn := fun q => c1 ((nI_leI (a := (2 ^ n)) (b := dn) (by omega) (by omega)).mpr q)
        refine exf_go 4 (show Go (d + 4) true 19 28 [.ref 78, .ref 31, .ref 39, .int (nI dn), .long 0, mk_, .int 0] [] h2 Q from ?_)
        have L28 : ∀ (k28 : Nat) (i u : Nat), (n - i) < k28 → (i ≤ n) → (u = sumN (fun i => if btn dn i = 0 then wtA g (sH g (v i)) else 0) i) → Go (d + 4) true 19 28 [.ref 78, .ref 31, .ref 39, .int (nI dn), .long (lN u), mk_, .int (nI i)] [] h2 Q := by
          intro k28
          induction k28 with
          | zero => intro i u hk; exact absurd hk (Nat.not_lt_zero _)
          | succ k28 ih28 =>
            intro i u hk hi hu
            have hbl := btn_le dn i
            have hHv := hH cs.1 (v i)
            have hWv := wtA_b cs.1 (sH g (v i))
            refine exf_go 3 (show Go (d + 4) true 19 34 [.ref 78, .ref 31, .ref 39, .int (nI dn), .long (lN u), mk_, .int (nI i)] [.int (rI h2 78 1), .int (nI i)] h2 Q from ?_)
            rw [show (rI h2 78 1 : Int32) = nI n from ln2.1]
            refine exf_go 1 (show ((nI n) ≤ (nI i) → Go (d + 4) true 19 74 [.ref 78, .ref 31, .ref 39, .int (nI dn), .long (lN u), mk_, .int (nI i)] [] h2 Q) ∧ (¬ ((nI n) ≤ (nI i)) → Go (d + 4) true 19 37 [.ref 78, .ref 31, .ref 39, .int (nI dn), .long (lN u), mk_, .int (nI i)] [] h2 Q) from ⟨fun c2 => ?_, fun c2 => ?_⟩)
            · skip
              have c2 : n ≤ i := (nI_leI (a := n) (b := i) (by omega) (by omega)).mp c2
              refine exf_go 6 (show vp_in (nI dn) 256 ∧ (Go (d + 4) true 19 85 [.ref 78, .ref 31, .ref 39, .int ((nI dn) + 1), .long (lN u), mk_, .int (nI i)] [] (uJ h2 82 ((nI dn).toNatClampNeg) (lN u)) Q) from ⟨(vp_in_nI (by omega) (by omega)), ?_⟩)
              rw [show ((nI dn) + 1 : Int32) = nI (dn + 1) from nI_add dn 1]
              refine exf_go 1 (show Go (d + 4) true 19 12 [.ref 78, .ref 31, .ref 39, .int (nI (dn + 1)), .long (lN u), mk_, .int (nI i)] [] (uJ h2 82 ((nI dn).toNatClampNeg) (lN u)) Q from ?_)
              exact ih12 (.long (lN u)) (.int (nI i)) (dn + 1) _ (by omega) (by omega) (q2.uJ' _ _ _ rfl) ln2 h802 h812 (fun x hx => (Decidable.em (x = dn)).elim (fun e => by rw [nI_clamp (by omega), e, rJ_uJ_eq, hu, show i = n from by omega]; rfl) (fun e => by rw [nI_clamp (by omega), rJ_uJ_at e]; exact h82 x (by omega)))
            · skip
              have c2 : ¬ n ≤ i := fun q => c2 ((nI_leI (a := n) (b := i) (by omega) (by omega)).mpr q)
              refine exf_go 3 (show Go (d + 4) true 19 41 [.ref 78, .ref 31, .ref 39, .int (nI dn), .long (lN u), mk_, .int (nI i)] [.int ((nI dn) >>> ((nI i) &&& 31))] h2 Q from ?_)
              rw [show ((nI dn) >>> ((nI i) &&& 31) : Int32) = nI (dn / 2 ^ i) from nI_shr (a := dn) (k := i) (by omega) (by omega)]
              refine exf_go 2 (show Go (d + 4) true 19 43 [.ref 78, .ref 31, .ref 39, .int (nI dn), .long (lN u), mk_, .int (nI i)] [.int ((nI (dn / 2 ^ i)) &&& 1)] h2 Q from ?_)
              rw [show ((nI (dn / 2 ^ i)) &&& 1 : Int32) = nI (btn dn i) from nI_low1 (Nat.lt_of_le_of_lt (Nat.div_le_self _ _) (by omega))]
              refine exf_go 1 (show (¬ (nI (btn dn i)) = 0 → Go (d + 4) true 19 68 [.ref 78, .ref 31, .ref 39, .int (nI dn), .long (lN u), mk_, .int (nI i)] [] h2 Q) ∧ (¬ (¬ (nI (btn dn i)) = 0) → Go (d + 4) true 19 46 [.ref 78, .ref 31, .ref 39, .int (nI dn), .long (lN u), mk_, .int (nI i)] [] h2 Q) from ⟨fun c3 => ?_, fun c3 => ?_⟩)
              · skip
                have c3 : ¬ (btn dn i) = 0 := fun q => c3 ((nI_eq (a := (btn dn i)) (b := 0) (by omega) (by omega)).mpr q)
                refine exf_go 1 (show Go (d + 4) true 19 71 [.ref 78, .ref 31, .ref 39, .int (nI dn), .long (lN u), mk_, .int ((nI i) + 1)] [] h2 Q from ?_)
                rw [show ((nI i) + 1 : Int32) = nI (i + 1) from nI_add i 1]
                refine exf_go 1 (show Go (d + 4) true 19 28 [.ref 78, .ref 31, .ref 39, .int (nI dn), .long (lN u), mk_, .int (nI (i + 1))] [] h2 Q from ?_)
                exact ih28 (i + 1) u (by omega) (by omega) (by rw [sumN, hu]; first | (rw [if_pos (by assumption)]; done) | (rw [if_neg (by omega)]; rfl))
              · skip
                have c3 : (btn dn i) = 0 := (nI_eq (a := (btn dn i)) (b := 0) (by omega) (by omega)).mp (Classical.not_not.mp c3)
                refine exf_go 8 (show vp_in (nI i) 8 ∧ (Go (d + 4) true 19 60 [.ref 78, .ref 31, .ref 39, .int (nI dn), .long (lN u), mk_, .int (nI i)] [.int (rI h2 79 ((nI i).toNatClampNeg)), .ref 39, .ref 37, .long (lN u)] h2 Q) from ⟨(vp_in_nI (by omega) (by omega)), ?_⟩)
                rw [show (rI h2 79 ((nI i).toNatClampNeg) : Int32) = nI (v i) from by rw [nI_clamp (by omega)]; exact ln2.2 _ (by omega)]
                have := hvt i (by omega)
                refine exf_go 1 (show wpC (d + 4) true 29 [.ref 39, .int (nI (v i))] h2 (fun r h' => Go (d + 4) true 19 63 [.ref 78, .ref 31, .ref 39, .int (nI dn), .long (lN u), mk_, .int (nI i)] [r, .ref 37, .long (lN u)] h' Q) from ?_)
                refine c_maskOf cs2 cl2 (by omega) ?_
                have := sH_b cs.1 (v i)
                show Go (d + 4) true 19 63 [.ref 78, .ref 31, .ref 39, .int (nI dn), .long (lN u), mk_, .int (nI i)] [.int (nI (sH g (v i))), .ref 37, .long (lN u)] h2 Q
                refine exf_go 1 (show vp_in (nI (sH g (v i))) 256 ∧ (Go (d + 4) true 19 64 [.ref 78, .ref 31, .ref 39, .int (nI dn), .long (lN u), mk_, .int (nI i)] [.int (rI h2 37 ((nI (sH g (v i))).toNatClampNeg)), .long (lN u)] h2 Q) from ⟨(vp_in_nI (by omega) (by omega)), ?_⟩)
                rw [show (rI h2 37 ((nI (sH g (v i))).toNatClampNeg) : Int32) = nI (wtA g (sH g (v i))) from cs_wt cs2 (n := (sH g (v i))) (by omega)]
                refine exf_go 1 (show Go (d + 4) true 19 65 [.ref 78, .ref 31, .ref 39, .int (nI dn), .long (lN u), mk_, .int (nI i)] [.long ((nI (wtA g (sH g (v i)))).toInt64), .long (lN u)] h2 Q from ?_)
                rw [show ((nI (wtA g (sH g (v i)))).toInt64 : Int64) = lN (wtA g (sH g (v i))) from nI_l (n := (wtA g (sH g (v i)))) (by omega)]
                refine exf_go 1 (show Go (d + 4) true 19 66 [.ref 78, .ref 31, .ref 39, .int (nI dn), .long (lN u), mk_, .int (nI i)] [.long ((lN u) + (lN (wtA g (sH g (v i)))))] h2 Q from ?_)
                rw [show ((lN u) + (lN (wtA g (sH g (v i)))) : Int64) = lN (u + (wtA g (sH g (v i)))) from lN_add u (wtA g (sH g (v i)))]
                refine exf_go 2 (show Go (d + 4) true 19 71 [.ref 78, .ref 31, .ref 39, .int (nI dn), .long (lN (u + (wtA g (sH g (v i))))), mk_, .int ((nI i) + 1)] [] h2 Q from ?_)
                rw [show ((nI i) + 1 : Int32) = nI (i + 1) from nI_add i 1]
                refine exf_go 1 (show Go (d + 4) true 19 28 [.ref 78, .ref 31, .ref 39, .int (nI dn), .long (lN (u + (wtA g (sH g (v i))))), mk_, .int (nI (i + 1))] [] h2 Q from ?_)
                exact ih28 (i + 1) (u + (wtA g (sH g (v i)))) (by omega) (by omega) (by rw [sumN, hu]; first | (rw [if_pos (by assumption)]; done) | (rw [if_neg (by omega)]; rfl))
        exact L28 (n + 1) 0 0 (by omega) (by omega) rfl
  exact L12 (2 ^ n + 1) mk_ mk_ 0 h1 (by omega) (by omega) q1 ln1 h80 h81 (fun x hx => absurd hx (Nat.not_lt_zero _))
theorem c_fill82 {d : Nat} {h : Hp} {Q : Po} (k : ∀ h1, Fq (sAt 82) h h1 → (∀ i, i < 256 → rJ h1 82 i = 1) → Q mk_ h1) : wpC (d + 1) true 317 [.ref 82, .long 1] h Q := by
  refine go_in rfl ?_
  refine exf_go 5 (show Go d true 317 6 [.ref 82, .long 1, mk_, .int 0, .int (nI 256)] [] h Q from ?_)
  have L6 : ∀ (k6 : Nat) (j : Nat) (h1 : Hp), (256 - j) < k6 → (j ≤ 256) → (Fq (sAt 82) h h1) → (∀ i, i < j → rJ h1 82 i = 1) → Go d true 317 6 [.ref 82, .long 1, mk_, .int (nI j), .int (nI 256)] [] h1 Q := by
    intro k6
    induction k6 with
    | zero => intro j h1 hk; exact absurd hk (Nat.not_lt_zero _)
    | succ k6 ih6 =>
      intro j h1 hk hj q1 hv
      refine exf_go 3 (show ((nI 256) ≤ (nI j) → Go d true 317 22 [.ref 82, .long 1, mk_, .int (nI j), .int (nI 256)] [] h1 Q) ∧ (¬ ((nI 256) ≤ (nI j)) → Go d true 317 12 [.ref 82, .long 1, mk_, .int (nI j), .int (nI 256)] [] h1 Q) from ⟨fun c1 => ?_, fun c1 => ?_⟩)
      · skip
        have c1 : 256 ≤ j := (nI_leI (a := 256) (b := j) (by omega) (by omega)).mp c1
        refine exf_go 1 (show Q (mk_) h1 from ?_)
        exact k h1 q1 (fun i hi => hv i (by omega))
      · skip
        have c1 : ¬ 256 ≤ j := fun q => c1 ((nI_leI (a := 256) (b := j) (by omega) (by omega)).mpr q)
        refine exf_go 5 (show vp_in (nI j) 256 ∧ (Go d true 317 19 [.ref 82, .long 1, mk_, .int ((nI j) + 1), .int (nI 256)] [] (uJ h1 82 ((nI j).toNatClampNeg) 1) Q) from ⟨(vp_in_nI (by omega) (by omega)), ?_⟩)
        rw [show ((nI j) + 1 : Int32) = nI (j + 1) from nI_add j 1]
        refine exf_go 1 (show Go d true 317 6 [.ref 82, .long 1, mk_, .int (nI (j + 1)), .int (nI 256)] [] (uJ h1 82 ((nI j).toNatClampNeg) 1) Q from ?_)
        exact ih6 (j + 1) _ (by omega) (by omega) (q1.uJ' _ _ _ rfl) (fun i hi => by rw [nI_clamp (by omega)]; exact (Decidable.em (i = j)).elim (fun e => by rw [e, rJ_uJ_eq]) (fun e => by rw [rJ_uJ_at e]; exact hv i (by omega)))
  exact L6 (256 + 1) 0 h (by omega) (by omega) Fq.rfl' (fun i hi => absurd hi (Nat.not_lt_zero _))
theorem c_measure {d : Nat} {h : Hp} {g : ShG} {l : LkG} {v : Nat → Nat} {n : Nat} {Q : Po} (cs : CS 31 g h) (cl : CL 39 g l h) (hn8 : n ≤ 8) (ln : LGN v n h) (hvt : ∀ i, i < n → v i < tot g) (hn1 : 1 ≤ n) (k : ∀ h1, Fq scC h h1 → LGR g l 0 v (fun _ => 1) n h1 → Q mk_ h1) : wpC (d + 5) true 20 [.ref 78, .ref 31, .ref 39] h Q := by
  have hN := tot_b cs.1
  have he := evr_b cs.1
  have h8 := cs.1.2.2.2.1
  have h4 := cs.1.2.2.2.2.2.1
  have hA := cl.1.1
  have hp8 := pow_n8 hn8; have hp1 := pow_n1 n
  refine go_in rfl ?_
  refine exf_go 5 (show wpC (d + 4) true 23 [.ref 78, .ref 31, .ref 39, .int 0] h (fun _ h' => Go (d + 4) true 20 7 [.ref 78, .ref 31, .ref 39] [] h' Q) from ?_)
  refine c_layLegs (pl := 0) cs cl hn8 ln hvt (by omega) (fun h1 q1 ln1 h80 h81 => ?_)
  have cs1 := cs_fq cs q1; have cl1 := cl_fq cl q1
  show Go (d + 4) true 20 7 [.ref 78, .ref 31, .ref 39] [] h1 Q
  refine exf_go 4 (show wpC (d + 4) true 317 [.ref 82, .long 1] h1 (fun _ h' => Go (d + 4) true 20 15 [.ref 78, .ref 31, .ref 39] [] h' Q) from ?_)
  refine c_fill82 (fun h2 q2 hf => ?_)
  show Go (d + 4) true 20 15 [.ref 78, .ref 31, .ref 39] [] h2 Q
  refine exf_go 1 (show Q (mk_) h2 from ?_)
  exact k h2 (q1.tr (q2.mono (sAt_s (fun _ => rfl)))) ⟨⟨cs.1, hn1, hn8, by omega⟩, fun _ => (by decide : 1 ≤ 800000000), (congrFun (q2.I (fun _ => rfl)) 1).trans ln1.1, hvt, fun i hi => (congrFun (q2.I (fun _ => rfl)) i).trans (ln1.2 i hi), fun i hi => (congrFun (q2.I (fun _ => rfl)) i).trans (h80 i hi), fun i j hi hj => (congrFun (q2.I (fun _ => rfl)) _).trans (h81 i j hi hj), fun e he => hf e (by omega)⟩
