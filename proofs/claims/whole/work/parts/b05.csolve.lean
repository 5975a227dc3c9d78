/-! The class: the best row is found. -/
def CST (g : ShG) (pl : Nat) (v F : Nat → Nat) (n D : Nat) (h : Hp) : Prop := ∀ e, D < e → e < 2 ^ n → ∀ j, j < n → rJ h 83 (e * 8 + j) = lN (lgV g pl v F n e (v j)).2
theorem cst_K {g : ShG} {pl : Nat} {v F : Nat → Nat} {n D dn : Nat} {h : Hp} (c : CST g pl v F n D h) (hD : D ≤ dn) (hdn : dn < 2 ^ n) : ∀ i, i < n → btn dn i = 0 → rJ h 83 ((dn ||| 2 ^ i) * 8 + i) = lN (lgV g pl v F n (dn ||| 2 ^ i) (v i)).2 := fun i hi hb => c _ (by have := or_gt hb; omega) (or_b hdn hi) i hi
theorem lgr_fq {g : ShG} {l : LkG} {pl : Nat} {v F : Nat → Nat} {n : Nat} {h h1 : Hp} (lg : LGR g l pl v F n h) (e0 : rI h1 78 = rI h 78) (e1 : rI h1 79 = rI h 79) (e2 : rI h1 80 = rI h 80) (e3 : rI h1 81 = rI h 81) (e4 : rJ h1 82 = rJ h 82) : LGR g l pl v F n h1 := by
  unfold LGR at *
  rw [e0, e1, e2, e3, e4]
  exact lg
theorem c_solve {d : Nat} {h : Hp} {g : ShG} {l : LkG} {pl : Nat} {v F : Nat → Nat} {n : Nat} {Q : Po} (lg : LGR g l pl v F n h) (kk : ∀ h1, Fq scC h h1 → rJ h1 78 7 = lN (lgV g pl v F n 0 (lA l)).2 → (∀ j, j < n → rI h1 84 j = nI (lgP g pl v F n n 0 (lA l) j)) → rI h1 78 1 = nI n → Q mk_ h1) : wpC (d + 3) true 21 [.ref 78] h Q := by
  obtain ⟨hg, hn1, hn8, hpl⟩ := lg.1
  have hp8 := pow_n8 hn8; have hp1 := pow_n1 n
  have hF := lg.2.1
  have htb := tot_b hg
  refine go_in rfl ?_
  refine exf_go 3 (show Go (d + 2) true 21 5 [.ref 78, mk_, mk_, mk_, mk_, mk_] [.int (rI h 78 1), .int 1] h Q from ?_)
  rw [show (rI h 78 1 : Int32) = nI n from lg.2.2.1]
  refine exf_go 1 (show Go (d + 2) true 21 6 [.ref 78, mk_, mk_, mk_, mk_, mk_] [.int (1 <<< ((nI n) &&& 31))] h Q from ?_)
  rw [show (1 <<< ((nI n) &&& 31) : Int32) = nI (2 ^ n) from nI_1shl (k := n) (by omega)]
  refine exf_go 2 (show Go (d + 2) true 21 8 [.ref 78, mk_, mk_, mk_, mk_, mk_] [.int ((nI (2 ^ n)) - 1)] h Q from ?_)
  rw [show ((nI (2 ^ n)) - 1 : Int32) = nI ((2 ^ n) - 1) from pk_sub (a := (2 ^ n)) (b := 1) (by omega)]
  refine exf_go 3 (show Go (d + 2) true 21 11 [.ref 78, .int (nI ((2 ^ n) - 1)), .int (nI ((2 ^ n) - 1)), mk_, mk_, mk_] [] h Q from ?_)
  have L11 : ∀ (k11 : Nat) (z3 z4 z5 : Value) (dn : Nat) (h1 : Hp), dn < k11 → (dn < 2 ^ n) → (Fq scC h h1) → (LGR g l pl v F n h1) → (CST g pl v F n dn h1) → Go (d + 2) true 21 11 [.ref 78, .int (nI (2 ^ n - 1)), .int (nI dn), z3, z4, z5] [] h1 Q := by
    intro k11
    induction k11 with
    | zero => intro z3 z4 z5 dn h1 hk; exact absurd hk (Nat.not_lt_zero _)
    | succ k11 ih11 =>
      intro z3 z4 z5 dn h1 hk hdn q1 lg1 hc1
      refine exf_go 2 (show ((nI dn) ≤ 0 → Go (d + 2) true 21 74 [.ref 78, .int (nI (2 ^ n - 1)), .int (nI dn), z3, z4, z5] [] h1 Q) ∧ (¬ ((nI dn) ≤ 0) → Go (d + 2) true 21 15 [.ref 78, .int (nI (2 ^ n - 1)), .int (nI dn), z3, z4, z5] [] h1 Q) from ⟨fun c1 => ?_, fun c1 => ?_⟩)
      · skip
        have c1 : dn ≤ 0 := (nI_leI (a := dn) (b := 0) (by omega) (by omega)).mp c1
        refine exf_go 6 (show Go (d + 2) true 21 81 [.ref 78, .int (nI (2 ^ n - 1)), .int 0, .int (-1), .int 0, z5] [] h1 Q from ?_)
        have L81 : ∀ (k81 : Nat) (z5 : Value) (k dn a : Nat) (la : Int32) (h3 : Hp), (n - k) < k81 → (k ≤ n) → (dn < 2 ^ n) → (Fq scC h h3) → (LGR g l pl v F n h3) → (CST g pl v F n 0 h3) → (rmn n dn + k = n) → (∀ j, lgP g pl v F n n 0 (lA l) (k + j) = lgP g pl v F n (n - k) dn a j) → (∀ j, j < k → rI h3 84 j = nI (lgP g pl v F n n 0 (lA l) j)) → (k = 0 ∨ rJ h3 78 7 = lN (lgV g pl v F n 0 (lA l)).2) → ((k = 0 ∧ la = -1 ∧ a = lA l ∧ dn = 0) ∨ ∃ b, b < n ∧ la = nI b ∧ a = v b ∧ ¬ k = 0) → Go (d + 2) true 21 81 [.ref 78, .int (nI (2 ^ n - 1)), .int (nI dn), .int la, .int (nI k), z5] [] h3 Q := by
          intro k81
          induction k81 with
          | zero => intro z5 k dn a la h3 hk; exact absurd hk (Nat.not_lt_zero _)
          | succ k81 ih81 =>
            intro z5 k dn a la h3 hk hk hdn q3 lg3 hc3 hrm hpa hrw hle hla
            rcases hla with ⟨hk0, hl0, ha0, hd0⟩ | ⟨b, hb, hl0, ha0, hk0⟩
            · skip
              subst hk0; subst hl0; subst ha0; subst hd0
              show Go (d + 2) true 21 81 [.ref 78, .int (nI (2 ^ n - 1)), .int (nI 0), .int (-1), .int (nI 0), z5] [] h3 Q
              refine exf_go 3 (show Go (d + 2) true 21 87 [.ref 78, .int (nI (2 ^ n - 1)), .int (nI 0), .int (-1), .int (nI 0), z5] [.int (rI h3 78 1), .int (nI 0)] h3 Q from ?_)
              rw [show (rI h3 78 1 : Int32) = nI n from lg3.2.2.1]
              refine exf_go 1 (show ((nI n) ≤ (nI 0) → Go (d + 2) true 21 152 [.ref 78, .int (nI (2 ^ n - 1)), .int (nI 0), .int (-1), .int (nI 0), z5] [] h3 Q) ∧ (¬ ((nI n) ≤ (nI 0)) → Go (d + 2) true 21 90 [.ref 78, .int (nI (2 ^ n - 1)), .int (nI 0), .int (-1), .int (nI 0), z5] [] h3 Q) from ⟨fun c2 => ?_, fun c2 => ?_⟩)
              · skip
                have c2 : n ≤ 0 := (nI_leI (a := n) (b := 0) (by omega) (by omega)).mp c2
                refine exf_go 1 (show Q (mk_) h3 from ?_)
                exact kk h3 q3 (hle.elim (fun q => absurd hn1 (by omega)) id) (fun j hj => hrw j (by omega)) lg3.2.2.1
              · skip
                have c2 : ¬ n ≤ 0 := fun q => c2 ((nI_leI (a := n) (b := 0) (by omega) (by omega)).mpr q)
                refine exf_go 4 (show wpC (d + 2) true 24 [.ref 78, .int (nI 0), .int (-1)] h3 (fun r h' => Go (d + 2) true 21 96 [.ref 78, .int (nI (2 ^ n - 1)), .int (nI 0), .int (-1), .int (nI 0), z5] [r] h' Q) from ?_)
                have hK3 := cst_K hc3 (by omega) (dn := 0) (by omega)
                refine c_next0 lg3 (by omega) hK3 (fun e0 => absurd (rmn_full (nrF_none (p := ntn 0) (f := lgF g pl v F n 0 (lA l)) n (by rw [← lgV_nr]; exact e0)).2) (by omega)) (fun c e1 hcl hcb => ?_)
                have hval : lgF g pl v F n 0 (lA l) c = (lgV g pl v F n 0 (lA l)).2 := by rw [lgV_nr]; exact (nrF_val (p := ntn 0) (f := lgF g pl v F n 0 (lA l)) n c (by rw [← lgV_nr]; exact e1)).1
                have hnk : n - 0 = (n - 0 - 1) + 1 := by omega
                show Go (d + 2) true 21 96 [.ref 78, .int (nI (2 ^ n - 1)), .int (nI 0), .int (-1), .int (nI 0), z5] [.int (nI c)] h3 Q
                refine exf_go 4 (show (¬ (nI c) = (-1) → Go (d + 2) true 21 105 [.ref 78, .int (nI (2 ^ n - 1)), .int (nI 0), .int (-1), .int (nI 0), .int (nI c)] [] h3 Q) ∧ (¬ (¬ (nI c) = (-1)) → Go (d + 2) true 21 104 [.ref 78, .int (nI (2 ^ n - 1)), .int (nI 0), .int (-1), .int (nI 0), .int (nI c)] [] h3 Q) from ⟨fun c3 => ?_, fun c3 => ?_⟩)
                · skip
                  refine exf_go 2 (show (¬ (nI 0) = 0 → Go (d + 2) true 21 122 [.ref 78, .int (nI (2 ^ n - 1)), .int (nI 0), .int (-1), .int (nI 0), .int (nI c)] [] h3 Q) ∧ (¬ (¬ (nI 0) = 0) → Go (d + 2) true 21 110 [.ref 78, .int (nI (2 ^ n - 1)), .int (nI 0), .int (-1), .int (nI 0), .int (nI c)] [] h3 Q) from ⟨fun c4 => ?_, fun c4 => ?_⟩)
                  · skip
                    exact absurd c4 (by decide)
                  · skip
                    refine exf_go 6 (show wpC (d + 2) true 25 [.ref 78, .int (nI 0), .int (-1), .int (nI c)] h3 (fun r h' => Go (d + 2) true 21 119 [.ref 78, .int (nI (2 ^ n - 1)), .int (nI 0), .int (-1), .int (nI 0), .int (nI c)] [r, .ref 78] h' Q) from ?_)
                    refine c_cost0 (i := c) lg3 (by omega) (by omega) (hK3 c (by omega) hcb) ?_
                    have hlb := lgF_b hg (v := v) hn8 hpl hF 0 (lA l) c
                    show Go (d + 2) true 21 119 [.ref 78, .int (nI (2 ^ n - 1)), .int (nI 0), .int (-1), .int (nI 0), .int (nI c)] [.long (lN (lgF g pl v F n 0 (lA l) c)), .ref 78] h3 Q
                    refine exf_go 8 (show vp_in (nI c) 8 ∧ (Go (d + 2) true 21 135 [.ref 78, .int (nI (2 ^ n - 1)), .int (nI 0), .int (-1), .int (nI 0), .int (nI c)] [.int (rI h3 79 ((nI c).toNatClampNeg)), .int (nI 0), .ref 84] (uJ h3 78 7 (lN (lgF g pl v F n 0 (lA l) c))) Q) from ⟨(vp_in_nI (by omega) (by omega)), ?_⟩)
                    rw [show (rI h3 79 ((nI c).toNatClampNeg) : Int32) = nI (v c) from by rw [nI_clamp (by omega)]; exact lg3.2.2.2.2.1 _ (by omega)]
                    have := lg3.2.2.2.1 c (by omega)
                    refine exf_go 5 (show vp_in (nI 0) 8 ∧ (Go (d + 2) true 21 141 [.ref 78, .int (nI (2 ^ n - 1)), .int (nI 0), .int (-1), .int (nI 0), .int (nI c)] [.int (1 <<< ((nI c) &&& 31)), .int (nI 0)] (uI (uJ h3 78 7 (lN (lgF g pl v F n 0 (lA l) c))) 84 ((nI 0).toNatClampNeg) (nI (v c))) Q) from ⟨(vp_in_nI (by omega) (by omega)), ?_⟩)
                    rw [show (1 <<< ((nI c) &&& 31) : Int32) = nI (2 ^ c) from nI_1shl (k := c) (by omega)]
                    refine exf_go 1 (show Go (d + 2) true 21 142 [.ref 78, .int (nI (2 ^ n - 1)), .int (nI 0), .int (-1), .int (nI 0), .int (nI c)] [.int ((nI 0) ||| (nI (2 ^ c)))] (uI (uJ h3 78 7 (lN (lgF g pl v F n 0 (lA l) c))) 84 ((nI 0).toNatClampNeg) (nI (v c))) Q from ?_)
                    rw [show ((nI 0) ||| (nI (2 ^ c)) : Int32) = nI (0 ||| (2 ^ c)) from nI_or 0 (2 ^ c)]
                    refine exf_go 4 (show Go (d + 2) true 21 149 [.ref 78, .int (nI (2 ^ n - 1)), .int (nI (0 ||| (2 ^ c))), .int (nI c), .int ((nI 0) + 1), .int (nI c)] [] (uI (uJ h3 78 7 (lN (lgF g pl v F n 0 (lA l) c))) 84 ((nI 0).toNatClampNeg) (nI (v c))) Q from ?_)
                    rw [show ((nI 0) + 1 : Int32) = nI 1 from nI_add 0 1]
                    refine exf_go 1 (show Go (d + 2) true 21 81 [.ref 78, .int (nI (2 ^ n - 1)), .int (nI (0 ||| (2 ^ c))), .int (nI c), .int (nI 1), .int (nI c)] [] (uI (uJ h3 78 7 (lN (lgF g pl v F n 0 (lA l) c))) 84 ((nI 0).toNatClampNeg) (nI (v c))) Q from ?_)
                    exact ih81 (.int (nI c)) (0 + 1) _ (v c) _ _ (by omega) (by omega) (or_b (by omega) hcl) ((q3.uJ' _ _ _ rfl).uI' _ _ _ rfl) (lgr_fq lg3 rfl rfl rfl rfl rfl) hc3 (by have := rmn_s hcl hcb; omega) (fun j => by rw [Nat.add_right_comm, Nat.add_assoc, hpa, hnk, lgP_s e1, show n - (0 + 1) = n - 0 - 1 from by omega]) (fun j hj => (Decidable.em (j = 0)).elim (fun q => by rw [nI_clamp (by omega), q, rI_uI_eq]; exact congrArg nI (by have := hpa 0; rw [Nat.add_zero, hnk, lgP_0 e1] at this; exact this.symm)) (fun q => by rw [nI_clamp (by omega), rI_uI_at (by omega)]; exact hrw j (by omega))) (Or.inr (by show lN _ = _; rw [hval])) (Or.inr ⟨c, hcl, rfl, rfl, by omega⟩)
                · skip
                  exact absurd (ng_eq (by omega) (by decide)) c3
            · skip
              subst hl0; subst ha0
              show Go (d + 2) true 21 81 [.ref 78, .int (nI (2 ^ n - 1)), .int (nI dn), .int (nI b), .int (nI k), z5] [] h3 Q
              refine exf_go 3 (show Go (d + 2) true 21 87 [.ref 78, .int (nI (2 ^ n - 1)), .int (nI dn), .int (nI b), .int (nI k), z5] [.int (rI h3 78 1), .int (nI k)] h3 Q from ?_)
              rw [show (rI h3 78 1 : Int32) = nI n from lg3.2.2.1]
              refine exf_go 1 (show ((nI n) ≤ (nI k) → Go (d + 2) true 21 152 [.ref 78, .int (nI (2 ^ n - 1)), .int (nI dn), .int (nI b), .int (nI k), z5] [] h3 Q) ∧ (¬ ((nI n) ≤ (nI k)) → Go (d + 2) true 21 90 [.ref 78, .int (nI (2 ^ n - 1)), .int (nI dn), .int (nI b), .int (nI k), z5] [] h3 Q) from ⟨fun c5 => ?_, fun c5 => ?_⟩)
              · skip
                have c5 : n ≤ k := (nI_leI (a := n) (b := k) (by omega) (by omega)).mp c5
                refine exf_go 1 (show Q (mk_) h3 from ?_)
                exact kk h3 q3 (hle.elim (fun q => absurd hn1 (by omega)) id) (fun j hj => hrw j (by omega)) lg3.2.2.1
              · skip
                have c5 : ¬ n ≤ k := fun q => c5 ((nI_leI (a := n) (b := k) (by omega) (by omega)).mpr q)
                refine exf_go 4 (show wpC (d + 2) true 24 [.ref 78, .int (nI dn), .int (nI b)] h3 (fun r h' => Go (d + 2) true 21 96 [.ref 78, .int (nI (2 ^ n - 1)), .int (nI dn), .int (nI b), .int (nI k), z5] [r] h' Q) from ?_)
                have hK3 := cst_K hc3 (by omega) (dn := dn) (by omega)
                refine c_next1 (b := b) lg3 (by omega) (by omega) hK3 (fun e0 => absurd (rmn_full (nrF_none (p := ntn dn) (f := lgF g pl v F n dn (v b)) n (by rw [← lgV_nr]; exact e0)).2) (by omega)) (fun c e1 hcl hcb => ?_)
                have hval : lgF g pl v F n dn (v b) c = (lgV g pl v F n dn (v b)).2 := by rw [lgV_nr]; exact (nrF_val (p := ntn dn) (f := lgF g pl v F n dn (v b)) n c (by rw [← lgV_nr]; exact e1)).1
                have hnk : n - k = (n - k - 1) + 1 := by omega
                show Go (d + 2) true 21 96 [.ref 78, .int (nI (2 ^ n - 1)), .int (nI dn), .int (nI b), .int (nI k), z5] [.int (nI c)] h3 Q
                refine exf_go 4 (show (¬ (nI c) = (-1) → Go (d + 2) true 21 105 [.ref 78, .int (nI (2 ^ n - 1)), .int (nI dn), .int (nI b), .int (nI k), .int (nI c)] [] h3 Q) ∧ (¬ (¬ (nI c) = (-1)) → Go (d + 2) true 21 104 [.ref 78, .int (nI (2 ^ n - 1)), .int (nI dn), .int (nI b), .int (nI k), .int (nI c)] [] h3 Q) from ⟨fun c6 => ?_, fun c6 => ?_⟩)
                · skip
                  refine exf_go 2 (show (¬ (nI k) = 0 → Go (d + 2) true 21 122 [.ref 78, .int (nI (2 ^ n - 1)), .int (nI dn), .int (nI b), .int (nI k), .int (nI c)] [] h3 Q) ∧ (¬ (¬ (nI k) = 0) → Go (d + 2) true 21 110 [.ref 78, .int (nI (2 ^ n - 1)), .int (nI dn), .int (nI b), .int (nI k), .int (nI c)] [] h3 Q) from ⟨fun c7 => ?_, fun c7 => ?_⟩)
                  · skip
                    have c7 : ¬ k = 0 := fun q => c7 ((nI_eq (a := k) (b := 0) (by omega) (by omega)).mpr q)
                    refine exf_go 7 (show vp_in (nI c) 8 ∧ (Go (d + 2) true 21 135 [.ref 78, .int (nI (2 ^ n - 1)), .int (nI dn), .int (nI b), .int (nI k), .int (nI c)] [.int (rI h3 79 ((nI c).toNatClampNeg)), .int (nI k), .ref 84] h3 Q) from ⟨(vp_in_nI (by omega) (by omega)), ?_⟩)
                    rw [show (rI h3 79 ((nI c).toNatClampNeg) : Int32) = nI (v c) from by rw [nI_clamp (by omega)]; exact lg3.2.2.2.2.1 _ (by omega)]
                    have := lg3.2.2.2.1 c (by omega)
                    refine exf_go 5 (show vp_in (nI k) 8 ∧ (Go (d + 2) true 21 141 [.ref 78, .int (nI (2 ^ n - 1)), .int (nI dn), .int (nI b), .int (nI k), .int (nI c)] [.int (1 <<< ((nI c) &&& 31)), .int (nI dn)] (uI h3 84 ((nI k).toNatClampNeg) (nI (v c))) Q) from ⟨(vp_in_nI (by omega) (by omega)), ?_⟩)
                    rw [show (1 <<< ((nI c) &&& 31) : Int32) = nI (2 ^ c) from nI_1shl (k := c) (by omega)]
                    refine exf_go 1 (show Go (d + 2) true 21 142 [.ref 78, .int (nI (2 ^ n - 1)), .int (nI dn), .int (nI b), .int (nI k), .int (nI c)] [.int ((nI dn) ||| (nI (2 ^ c)))] (uI h3 84 ((nI k).toNatClampNeg) (nI (v c))) Q from ?_)
                    rw [show ((nI dn) ||| (nI (2 ^ c)) : Int32) = nI (dn ||| (2 ^ c)) from nI_or dn (2 ^ c)]
                    refine exf_go 4 (show Go (d + 2) true 21 149 [.ref 78, .int (nI (2 ^ n - 1)), .int (nI (dn ||| (2 ^ c))), .int (nI c), .int ((nI k) + 1), .int (nI c)] [] (uI h3 84 ((nI k).toNatClampNeg) (nI (v c))) Q from ?_)
                    rw [show ((nI k) + 1 : Int32) = nI (k + 1) from nI_add k 1]
                    refine exf_go 1 (show Go (d + 2) true 21 81 [.ref 78, .int (nI (2 ^ n - 1)), .int (nI (dn ||| (2 ^ c))), .int (nI c), .int (nI (k + 1)), .int (nI c)] [] (uI h3 84 ((nI k).toNatClampNeg) (nI (v c))) Q from ?_)
                    exact ih81 (.int (nI c)) (k + 1) _ (v c) _ _ (by omega) (by omega) (or_b hdn hcl) (q3.uI' _ _ _ rfl) (lgr_fq lg3 rfl rfl rfl rfl rfl) hc3 (by have := rmn_s hcl hcb; omega) (fun j => by rw [Nat.add_right_comm, Nat.add_assoc, hpa, hnk, lgP_s e1, show n - (k + 1) = n - k - 1 from by omega]) (fun j hj => (Decidable.em (j = k)).elim (fun q => by rw [nI_clamp (by omega), q, rI_uI_eq]; exact congrArg nI (by have := hpa 0; rw [Nat.add_zero, hnk, lgP_0 e1] at this; exact this.symm)) (fun q => by rw [nI_clamp (by omega), rI_uI_at (by omega)]; exact hrw j (by omega))) (Or.inr (hle.elim (fun q => absurd q hk0) id)) (Or.inr ⟨c, hcl, rfl, rfl, by omega⟩)
                  · skip
                    have c7 : k = 0 := (nI_eq (a := k) (b := 0) (by omega) (by omega)).mp (Classical.not_not.mp c7)
                    exact absurd c7 hk0
                · skip
                  exact absurd (ng_eq (by omega) (by decide)) c6
        exact L81 (n + 1) z5 0 0 (lA l) (-1) h1 (by omega) (by omega) (by omega) q1 lg1 (by rw [← show dn = 0 from by omega]; exact hc1) (by rw [rmn_z]; omega) (fun j => by rw [Nat.zero_add]; rfl) (fun j hj => absurd hj (Nat.not_lt_zero _)) (Or.inl rfl) (Or.inl ⟨rfl, rfl, rfl, rfl⟩)
      · skip
        have c1 : ¬ dn ≤ 0 := fun q => c1 ((nI_leI (a := dn) (b := 0) (by omega) (by omega)).mpr q)
        refine exf_go 2 (show Go (d + 2) true 21 17 [.ref 78, .int (nI (2 ^ n - 1)), .int (nI dn), .int 0, z4, z5] [] h1 Q from ?_)
        have L17 : ∀ (k17 : Nat) (z4 z5 : Value) (j : Nat) (h2 : Hp), (n - j) < k17 → (j ≤ n) → (Fq scC h h2) → (LGR g l pl v F n h2) → (CST g pl v F n dn h2) → (∀ x, x < j → rJ h2 83 (dn * 8 + x) = lN (lgV g pl v F n dn (v x)).2) → Go (d + 2) true 21 17 [.ref 78, .int (nI (2 ^ n - 1)), .int (nI dn), .int (nI j), z4, z5] [] h2 Q := by
          intro k17
          induction k17 with
          | zero => intro z4 z5 j h2 hk; exact absurd hk (Nat.not_lt_zero _)
          | succ k17 ih17 =>
            intro z4 z5 j h2 hk hj q2 lg2 hc2 hr
            refine exf_go 3 (show Go (d + 2) true 21 22 [.ref 78, .int (nI (2 ^ n - 1)), .int (nI dn), .int (nI j), z4, z5] [.int (rI h2 78 1), .int (nI j)] h2 Q from ?_)
            rw [show (rI h2 78 1 : Int32) = nI n from lg2.2.2.1]
            refine exf_go 1 (show ((nI n) ≤ (nI j) → Go (d + 2) true 21 68 [.ref 78, .int (nI (2 ^ n - 1)), .int (nI dn), .int (nI j), z4, z5] [] h2 Q) ∧ (¬ ((nI n) ≤ (nI j)) → Go (d + 2) true 21 25 [.ref 78, .int (nI (2 ^ n - 1)), .int (nI dn), .int (nI j), z4, z5] [] h2 Q) from ⟨fun c8 => ?_, fun c8 => ?_⟩)
            · skip
              have c8 : n ≤ j := (nI_leI (a := n) (b := j) (by omega) (by omega)).mp c8
              refine exf_go 1 (show Go (d + 2) true 21 71 [.ref 78, .int (nI (2 ^ n - 1)), .int ((nI dn) + (-1)), .int (nI j), z4, z5] [] h2 Q from ?_)
              rw [show ((nI dn) + (-1) : Int32) = nI (dn - 1) from nI_dec (n := dn) (by omega)]
              refine exf_go 1 (show Go (d + 2) true 21 11 [.ref 78, .int (nI (2 ^ n - 1)), .int (nI (dn - 1)), .int (nI j), z4, z5] [] h2 Q from ?_)
              exact ih11 (.int (nI j)) z4 z5 (dn - 1) h2 (by omega) (by omega) q2 lg2 (fun e h1 h2 j hj => (Decidable.em (e = dn)).elim (fun q => by rw [q]; exact hr j (by omega)) (fun q => hc2 e (by omega) h2 j hj))
            · skip
              have c8 : ¬ n ≤ j := fun q => c8 ((nI_leI (a := n) (b := j) (by omega) (by omega)).mpr q)
              refine exf_go 4 (show wpC (d + 2) true 24 [.ref 78, .int (nI dn), .int (nI j)] h2 (fun r h' => Go (d + 2) true 21 31 [.ref 78, .int (nI (2 ^ n - 1)), .int (nI dn), .int (nI j), z4, z5] [r] h' Q) from ?_)
              have hK2 := cst_K hc2 (by omega) (dn := dn) (by omega)
              refine c_next1 (b := j) lg2 (by omega) (by omega) hK2 (fun e0 => ?_) (fun c e1 hcl hcb => ?_)
              · skip
                have hz : (lgV g pl v F n dn (v j)).2 = 0 := by rw [lgV_nr]; exact (nrF_none (p := ntn dn) (f := lgF g pl v F n dn (v j)) n (by rw [← lgV_nr]; exact e0)).1
                show Go (d + 2) true 21 31 [.ref 78, .int (nI (2 ^ n - 1)), .int (nI dn), .int (nI j), z4, z5] [.int (-1)] h2 Q
                refine exf_go 6 (show Go (d + 2) true 21 41 [.ref 78, .int (nI (2 ^ n - 1)), .int (nI dn), .int (nI j), .int (-1), z5] [.int ((nI dn) * 8), .ref 83] h2 Q from ?_)
                rw [show ((nI dn) * 8 : Int32) = nI (dn * 8) from pk_mul dn 8]
                refine exf_go 2 (show Go (d + 2) true 21 43 [.ref 78, .int (nI (2 ^ n - 1)), .int (nI dn), .int (nI j), .int (-1), z5] [.int ((nI (dn * 8)) + (nI j)), .ref 83] h2 Q from ?_)
                rw [show ((nI (dn * 8)) + (nI j) : Int32) = nI ((dn * 8) + j) from nI_add (dn * 8) j]
                refine exf_go 3 (show (¬ ((-1) : Int32) = (-1) → Go (d + 2) true 21 53 [.ref 78, .int (nI (2 ^ n - 1)), .int (nI dn), .int (nI j), .int (-1), z5] [.int (nI ((dn * 8) + j)), .ref 83] h2 Q) ∧ (¬ (¬ ((-1) : Int32) = (-1)) → Go (d + 2) true 21 49 [.ref 78, .int (nI (2 ^ n - 1)), .int (nI dn), .int (nI j), .int (-1), z5] [.int (nI ((dn * 8) + j)), .ref 83] h2 Q) from ⟨fun c9 => ?_, fun c9 => ?_⟩)
                · skip
                  exact absurd c9 (by decide)
                · skip
                  refine exf_go 4 (show vp_in (nI ((dn * 8) + j)) 2048 ∧ (Go (d + 2) true 21 65 [.ref 78, .int (nI (2 ^ n - 1)), .int (nI dn), .int ((nI j) + 1), .int (-1), z5] [] (uJ h2 83 ((nI ((dn * 8) + j)).toNatClampNeg) 0) Q) from ⟨(vp_in_nI (by omega) (by omega)), ?_⟩)
                  rw [show ((nI j) + 1 : Int32) = nI (j + 1) from nI_add j 1]
                  refine exf_go 1 (show Go (d + 2) true 21 17 [.ref 78, .int (nI (2 ^ n - 1)), .int (nI dn), .int (nI (j + 1)), .int (-1), z5] [] (uJ h2 83 ((nI ((dn * 8) + j)).toNatClampNeg) 0) Q from ?_)
                  exact ih17 (.int (-1)) z5 (j + 1) _ (by omega) (by omega) (q2.uJ' _ _ _ rfl) (lgr_fq lg2 rfl rfl rfl rfl rfl) (fun e h1 h2 x hx => by rw [nI_clamp (by omega), rJ_uJ_at (by omega)]; exact hc2 e h1 h2 x hx) (fun x hx => (Decidable.em (x = j)).elim (fun q => by rw [nI_clamp (by omega), q, rJ_uJ_eq]; rw [hz]; rfl) (fun q => by rw [nI_clamp (by omega), rJ_uJ_at (by omega)]; exact hr x (by omega)))
              · skip
                have hval : lgF g pl v F n dn (v j) c = (lgV g pl v F n dn (v j)).2 := by rw [lgV_nr]; exact (nrF_val (p := ntn dn) (f := lgF g pl v F n dn (v j)) n c (by rw [← lgV_nr]; exact e1)).1
                show Go (d + 2) true 21 31 [.ref 78, .int (nI (2 ^ n - 1)), .int (nI dn), .int (nI j), z4, z5] [.int (nI c)] h2 Q
                refine exf_go 6 (show Go (d + 2) true 21 41 [.ref 78, .int (nI (2 ^ n - 1)), .int (nI dn), .int (nI j), .int (nI c), z5] [.int ((nI dn) * 8), .ref 83] h2 Q from ?_)
                rw [show ((nI dn) * 8 : Int32) = nI (dn * 8) from pk_mul dn 8]
                refine exf_go 2 (show Go (d + 2) true 21 43 [.ref 78, .int (nI (2 ^ n - 1)), .int (nI dn), .int (nI j), .int (nI c), z5] [.int ((nI (dn * 8)) + (nI j)), .ref 83] h2 Q from ?_)
                rw [show ((nI (dn * 8)) + (nI j) : Int32) = nI ((dn * 8) + j) from nI_add (dn * 8) j]
                refine exf_go 3 (show (¬ (nI c) = (-1) → Go (d + 2) true 21 53 [.ref 78, .int (nI (2 ^ n - 1)), .int (nI dn), .int (nI j), .int (nI c), z5] [.int (nI ((dn * 8) + j)), .ref 83] h2 Q) ∧ (¬ (¬ (nI c) = (-1)) → Go (d + 2) true 21 49 [.ref 78, .int (nI (2 ^ n - 1)), .int (nI dn), .int (nI j), .int (nI c), z5] [.int (nI ((dn * 8) + j)), .ref 83] h2 Q) from ⟨fun c10 => ?_, fun c10 => ?_⟩)
                · skip
                  refine exf_go 5 (show wpC (d + 2) true 25 [.ref 78, .int (nI dn), .int (nI j), .int (nI c)] h2 (fun r h' => Go (d + 2) true 21 61 [.ref 78, .int (nI (2 ^ n - 1)), .int (nI dn), .int (nI j), .int (nI c), z5] [r, .int (nI ((dn * 8) + j)), .ref 83] h' Q) from ?_)
                  refine c_cost1 (b := j) (i := c) lg2 (by omega) (by omega) (by omega) (hK2 c (by omega) hcb) ?_
                  have hlb := lgF_b hg (v := v) hn8 hpl hF dn (v j) c
                  show Go (d + 2) true 21 61 [.ref 78, .int (nI (2 ^ n - 1)), .int (nI dn), .int (nI j), .int (nI c), z5] [.long (lN (lgF g pl v F n dn (v j) c)), .int (nI ((dn * 8) + j)), .ref 83] h2 Q
                  refine exf_go 2 (show vp_in (nI ((dn * 8) + j)) 2048 ∧ (Go (d + 2) true 21 65 [.ref 78, .int (nI (2 ^ n - 1)), .int (nI dn), .int ((nI j) + 1), .int (nI c), z5] [] (uJ h2 83 ((nI ((dn * 8) + j)).toNatClampNeg) (lN (lgF g pl v F n dn (v j) c))) Q) from ⟨(vp_in_nI (by omega) (by omega)), ?_⟩)
                  rw [show ((nI j) + 1 : Int32) = nI (j + 1) from nI_add j 1]
                  refine exf_go 1 (show Go (d + 2) true 21 17 [.ref 78, .int (nI (2 ^ n - 1)), .int (nI dn), .int (nI (j + 1)), .int (nI c), z5] [] (uJ h2 83 ((nI ((dn * 8) + j)).toNatClampNeg) (lN (lgF g pl v F n dn (v j) c))) Q from ?_)
                  exact ih17 (.int (nI c)) z5 (j + 1) _ (by omega) (by omega) (q2.uJ' _ _ _ rfl) (lgr_fq lg2 rfl rfl rfl rfl rfl) (fun e h1 h2 x hx => by rw [nI_clamp (by omega), rJ_uJ_at (by omega)]; exact hc2 e h1 h2 x hx) (fun x hx => (Decidable.em (x = j)).elim (fun q => by rw [nI_clamp (by omega), q, rJ_uJ_eq]; exact congrArg lN hval) (fun q => by rw [nI_clamp (by omega), rJ_uJ_at (by omega)]; exact hr x (by omega)))
                · skip
                  exact absurd (ng_eq (by omega) (by decide)) c10
        exact L17 (n + 1) z4 z5 0 h1 (by omega) (by omega) q1 lg1 hc1 (fun x hx => absurd hx (Nat.not_lt_zero _))
  exact L11 (2 ^ n + 1) mk_ mk_ mk_ (2 ^ n - 1) h (by omega) (by omega) Fq.rfl' lg (fun e h1 h2 => absurd h1 (by omega))
