/-! The class's ranking: weights of a mate, counts, sorting, shares. -/
def scR (a _i : Nat) : Bool := (Nat.ble 71 a && Nat.ble a 76) || Nat.beq a 99
theorem scR_C (a i : Nat) (h : scC a i = false) : scR a i = false := by
  unfold scC at h
  unfold scR
  simp only [Bool.or_eq_false_iff] at h ⊢
  refine ⟨?_, h.1.2⟩
  cases e : (Nat.ble 71 a && Nat.ble a 76) with
  | false => rfl
  | true =>
    simp only [Bool.and_eq_true, Nat.ble_eq] at e
    have := h.1.1.1
    rw [Bool.and_eq_false_imp] at this
    have h2 := this (Nat.ble_eq.mpr e.1)
    rw [Nat.ble_eq.mpr (show a ≤ 86 by omega)] at h2
    exact Bool.noConfusion h2
theorem sAt_s {s : Nat → Nat → Bool} {z : Nat} (hz : ∀ i, s z i = true) (a i : Nat) (h : s a i = false) : sAt z a i = false := by
  unfold sAt
  cases e : Nat.beq a z with
  | false => rfl
  | true => rw [Nat.eq_of_beq_eq_true e, hz] at h; exact Bool.noConfusion h
/-- the weights by the clues kn lie at the row a -/
def WT (a : Nat) (g : ShG) (kn : Nat) (h : Hp) : Prop := ∀ m, m < 2 ^ sC g → rI h a m = nI (wtK g kn m)
def clsE (g : ShG) (l : LkG) (kn b n : Nat) : Bool := decide (0 < wtK g kn (sH g n)) && decide (cel g l n &&& b = 0)
theorem clsE_y {g : ShG} {l : LkG} {kn b n : Nat} (h : 0 < wtK g kn (sH g n)) (h2 : cel g l n &&& b = 0) : clsE g l kn b n = true := by unfold clsE; rw [decide_eq_true h, decide_eq_true h2]; rfl
theorem clsE_n1 {g : ShG} {l : LkG} {kn b n : Nat} (h : ¬ 0 < wtK g kn (sH g n)) : clsE g l kn b n = false := by unfold clsE; rw [decide_eq_false h]; rfl
theorem clsE_n2 {g : ShG} {l : LkG} {kn b n : Nat} (h : ¬ cel g l n &&& b = 0) : clsE g l kn b n = false := by unfold clsE; rw [decide_eq_false h, Bool.and_false]
theorem cMk_le (E : Nat → Bool) (H : Nat → Nat) (N m : Nat) : cMk E H N m ≤ N := cntN_le _ N
theorem cMk_in {g : ShG} (hg : ShW g) {E : Nat → Bool} {N m : Nat} (h : 0 < cMk E (sH g) N m) : m < 2 ^ sC g := by
  obtain ⟨n, _, e⟩ := cnt_ex N h
  simp only [Bool.and_eq_true, decide_eq_true_eq] at e
  rw [← e.2]
  exact hH hg n
theorem cMk_hit {E : Nat → Bool} {H : Nat → Nat} {n : Nat} (h : E n = true) : cMk E H n (H n) + 1 = cMk E H (n + 1) (H n) := cn_y rfl (by simp [h])
theorem cMk_miss {E : Nat → Bool} {H : Nat → Nat} {n m : Nat} (h : m ≠ H n) : cMk E H (n + 1) m = cMk E H n m := (cn_n rfl (by show (E n && decide (H n = m)) = false; rw [decide_eq_false (fun q => h q.symm), Bool.and_false])).symm
theorem cMk_no {E : Nat → Bool} {H : Nat → Nat} {n m : Nat} (h : E n = false) : cMk E H (n + 1) m = cMk E H n m := (cn_n rfl (by show (E n && _) = false; rw [h]; rfl)).symm
theorem Lf_new {w s : Nat → Nat} {i : Nat} (h : i = 0 ∨ ¬ w (s i) = w (s (i - 1))) : Lf w s i = s i := by
  cases i with
  | zero => rfl
  | succ i => rw [Lf, if_neg]; rw [Lf_w w s]; exact h.resolve_left (by omega)
theorem Lf_old {w s : Nat → Nat} {i : Nat} (h0 : ¬ i = 0) (h : w (s i) = w (s (i - 1))) : Lf w s i = Lf w s (i - 1) := by
  cases i with
  | zero => omega
  | succ i => rw [Lf, if_pos]; rfl; rw [Lf_w w s]; exact h
theorem c_fillW {d : Nat} {h : Hp} {g : ShG} {kn : Nat} {Q : Po} (cs : CS 31 g h) (hk0 : kn < 256) (k : ∀ h1, Fq (sAt 77) h h1 → WT 77 g kn h1 → Q mk_ h1) : wpC (d + 1) true 80 [.ref 31, .int (nI kn), .ref 77] h Q := by
  have he := evr_b cs.1
  have h8 := cs.1.2.2.2.1
  refine go_in rfl ?_
  refine exf_go 2 (show Go d true 80 2 [.ref 31, .int (nI kn), .ref 77, .int 0, mk_, mk_] [] h Q from ?_)
  have L2 : ∀ (k2 : Nat) (z4 z5 : Value) (m : Nat) (h1 : Hp), (257 - m) < k2 → (m ≤ 2 ^ sC g) → (Fq (sAt 77) h h1) → (∀ j, j < m → rI h1 77 j = nI (wtK g kn j)) → Go d true 80 2 [.ref 31, .int (nI kn), .ref 77, .int (nI m), z4, z5] [] h1 Q := by
    intro k2
    induction k2 with
    | zero => intro z4 z5 m h1 hk; exact absurd hk (Nat.not_lt_zero _)
    | succ k2 ih2 =>
      intro z4 z5 m h1 hk hm q1 hv
      have cs1 := cs_fq cs (q1.mono (sAt_C (fun _ => rfl)))
      refine exf_go 4 (show Go d true 80 8 [.ref 31, .int (nI kn), .ref 77, .int (nI m), z4, z5] [.int (rI h1 31 6), .int 1, .int (nI m)] h1 Q from ?_)
      rw [show (rI h1 31 6 : Int32) = nI (sC g) from cs_C cs1]
      refine exf_go 1 (show Go d true 80 9 [.ref 31, .int (nI kn), .ref 77, .int (nI m), z4, z5] [.int (1 <<< ((nI (sC g)) &&& 31)), .int (nI m)] h1 Q from ?_)
      rw [show (1 <<< ((nI (sC g)) &&& 31) : Int32) = nI (2 ^ (sC g)) from nI_1shl (k := (sC g)) (by omega)]
      refine exf_go 1 (show ((nI (2 ^ (sC g))) ≤ (nI m) → Go d true 80 95 [.ref 31, .int (nI kn), .ref 77, .int (nI m), z4, z5] [] h1 Q) ∧ (¬ ((nI (2 ^ (sC g))) ≤ (nI m)) → Go d true 80 12 [.ref 31, .int (nI kn), .ref 77, .int (nI m), z4, z5] [] h1 Q) from ⟨fun c1 => ?_, fun c1 => ?_⟩)
      · skip
        have c1 : (2 ^ (sC g)) ≤ m := (nI_leI (a := (2 ^ (sC g))) (b := m) (by omega) (by omega)).mp c1
        refine exf_go 1 (show Q (mk_) h1 from ?_)
        first | exact k h1 q1 (fun j hj => hv j (by omega)) | (exfalso; omega)
      · skip
        have c1 : ¬ (2 ^ (sC g)) ≤ m := fun q => c1 ((nI_leI (a := (2 ^ (sC g))) (b := m) (by omega) (by omega)).mpr q)
        refine exf_go 3 (show Go d true 80 15 [.ref 31, .int (nI kn), .ref 77, .int (nI m), z4, z5] [.int (nI 256), .int (nI m)] h1 Q from ?_)
        rw [show (nI 256 : Int32) = nI 256 from rfl]
        refine exf_go 1 (show ((nI 256) ≤ (nI m) → Go d true 80 95 [.ref 31, .int (nI kn), .ref 77, .int (nI m), z4, z5] [] h1 Q) ∧ (¬ ((nI 256) ≤ (nI m)) → Go d true 80 18 [.ref 31, .int (nI kn), .ref 77, .int (nI m), z4, z5] [] h1 Q) from ⟨fun c2 => ?_, fun c2 => ?_⟩)
        · skip
          have c2 : 256 ≤ m := (nI_leI (a := 256) (b := m) (by omega) (by omega)).mp c2
          refine exf_go 1 (show Q (mk_) h1 from ?_)
          first | exact k h1 q1 (fun j hj => hv j (by omega)) | (exfalso; omega)
        · skip
          have c2 : ¬ 256 ≤ m := fun q => c2 ((nI_leI (a := 256) (b := m) (by omega) (by omega)).mpr q)
          refine exf_go 4 (show Go d true 80 24 [.ref 31, .int (nI kn), .ref 77, .int (nI m), .int 1, .int 0] [] h1 Q from ?_)
          have L24 : ∀ (k24 : Nat) (c x : Nat), (sC g - c) < k24 → (c ≤ sC g) → (x = wt g kn m c) → Go d true 80 24 [.ref 31, .int (nI kn), .ref 77, .int (nI m), .int (nI x), .int (nI c)] [] h1 Q := by
            intro k24
            induction k24 with
            | zero => intro c x hk; exact absurd hk (Nat.not_lt_zero _)
            | succ k24 ih24 =>
              intro c x hk hc hx
              have ht := cs.1.2.2.2.2.1 c; have hb1 := btn_le kn c; have hb2 := btn_le m c
              refine exf_go 3 (show Go d true 80 30 [.ref 31, .int (nI kn), .ref 77, .int (nI m), .int (nI x), .int (nI c)] [.int (rI h1 31 6), .int (nI c)] h1 Q from ?_)
              rw [show (rI h1 31 6 : Int32) = nI (sC g) from cs_C cs1]
              refine exf_go 1 (show ((nI (sC g)) ≤ (nI c) → Go d true 80 84 [.ref 31, .int (nI kn), .ref 77, .int (nI m), .int (nI x), .int (nI c)] [] h1 Q) ∧ (¬ ((nI (sC g)) ≤ (nI c)) → Go d true 80 33 [.ref 31, .int (nI kn), .ref 77, .int (nI m), .int (nI x), .int (nI c)] [] h1 Q) from ⟨fun c3 => ?_, fun c3 => ?_⟩)
              · skip
                have c3 : (sC g) ≤ c := (nI_leI (a := (sC g)) (b := c) (by omega) (by omega)).mp c3
                refine exf_go 5 (show vp_in (nI m) 256 ∧ (Go d true 80 92 [.ref 31, .int (nI kn), .ref 77, .int ((nI m) + 1), .int (nI x), .int (nI c)] [] (uI h1 77 ((nI m).toNatClampNeg) (nI x)) Q) from ⟨(vp_in_nI (by omega) (by omega)), ?_⟩)
                rw [show ((nI m) + 1 : Int32) = nI (m + 1) from nI_add m 1]
                refine exf_go 1 (show Go d true 80 2 [.ref 31, .int (nI kn), .ref 77, .int (nI (m + 1)), .int (nI x), .int (nI c)] [] (uI h1 77 ((nI m).toNatClampNeg) (nI x)) Q from ?_)
                exact ih2 (.int (nI x)) (.int (nI c)) (m + 1) _ (by omega) (by omega) (q1.uI' _ _ _ rfl) (fun j hj => by rw [nI_clamp (by omega)]; exact (Decidable.em (j = m)).elim (fun e => by rw [e, rI_uI_eq, hx, show c = sC g from by omega]; rfl) (fun e => by rw [rI_uI_at e]; exact hv j (by omega)))
              · skip
                have c3 : ¬ (sC g) ≤ c := fun q => c3 ((nI_leI (a := (sC g)) (b := c) (by omega) (by omega)).mpr q)
                refine exf_go 3 (show Go d true 80 37 [.ref 31, .int (nI kn), .ref 77, .int (nI m), .int (nI x), .int (nI c)] [.int ((nI kn) >>> ((nI c) &&& 31))] h1 Q from ?_)
                rw [show ((nI kn) >>> ((nI c) &&& 31) : Int32) = nI (kn / 2 ^ c) from nI_shr (a := kn) (k := c) (by omega) (by omega)]
                refine exf_go 2 (show Go d true 80 39 [.ref 31, .int (nI kn), .ref 77, .int (nI m), .int (nI x), .int (nI c)] [.int ((nI (kn / 2 ^ c)) &&& 1)] h1 Q from ?_)
                rw [show ((nI (kn / 2 ^ c)) &&& 1 : Int32) = nI (btn kn c) from nI_low1 (Nat.lt_of_le_of_lt (Nat.div_le_self _ _) (by omega))]
                refine exf_go 2 (show (¬ (nI (btn kn c)) = 1 → Go d true 80 78 [.ref 31, .int (nI kn), .ref 77, .int (nI m), .int (nI x), .int (nI c)] [] h1 Q) ∧ (¬ (¬ (nI (btn kn c)) = 1) → Go d true 80 43 [.ref 31, .int (nI kn), .ref 77, .int (nI m), .int (nI x), .int (nI c)] [] h1 Q) from ⟨fun c4 => ?_, fun c4 => ?_⟩)
                · skip
                  have c4 : ¬ (btn kn c) = 1 := fun q => c4 ((nI_eq (a := (btn kn c)) (b := 1) (by omega) (by omega)).mpr q)
                  refine exf_go 1 (show Go d true 80 81 [.ref 31, .int (nI kn), .ref 77, .int (nI m), .int (nI x), .int ((nI c) + 1)] [] h1 Q from ?_)
                  rw [show ((nI c) + 1 : Int32) = nI (c + 1) from nI_add c 1]
                  refine exf_go 1 (show Go d true 80 24 [.ref 31, .int (nI kn), .ref 77, .int (nI m), .int (nI x), .int (nI (c + 1))] [] h1 Q from ?_)
                  exact ih24 (c + 1) x (by omega) (by omega) (by rw [hx, wt, wtf]; first | (rw [if_pos (by assumption), if_pos (by assumption)]; done) | (rw [if_pos (by assumption), if_neg (by assumption)]; done) | (rw [if_neg (by assumption), Nat.mul_one]; done))
                · skip
                  have c4 : (btn kn c) = 1 := (nI_eq (a := (btn kn c)) (b := 1) (by omega) (by omega)).mp (Classical.not_not.mp c4)
                  refine exf_go 4 (show Go d true 80 49 [.ref 31, .int (nI kn), .ref 77, .int (nI m), .int (nI x), .int (nI c)] [.int ((nI m) >>> ((nI c) &&& 31)), .int (nI x)] h1 Q from ?_)
                  rw [show ((nI m) >>> ((nI c) &&& 31) : Int32) = nI (m / 2 ^ c) from nI_shr (a := m) (k := c) (by omega) (by omega)]
                  refine exf_go 2 (show Go d true 80 51 [.ref 31, .int (nI kn), .ref 77, .int (nI m), .int (nI x), .int (nI c)] [.int ((nI (m / 2 ^ c)) &&& 1), .int (nI x)] h1 Q from ?_)
                  rw [show ((nI (m / 2 ^ c)) &&& 1 : Int32) = nI (btn m c) from nI_low1 (Nat.lt_of_le_of_lt (Nat.div_le_self _ _) (by omega))]
                  refine exf_go 2 (show (¬ (nI (btn m c)) = 1 → Go d true 80 65 [.ref 31, .int (nI kn), .ref 77, .int (nI m), .int (nI x), .int (nI c)] [.int (nI x)] h1 Q) ∧ (¬ (¬ (nI (btn m c)) = 1) → Go d true 80 55 [.ref 31, .int (nI kn), .ref 77, .int (nI m), .int (nI x), .int (nI c)] [.int (nI x)] h1 Q) from ⟨fun c5 => ?_, fun c5 => ?_⟩)
                  · skip
                    have c5 : ¬ (btn m c) = 1 := fun q => c5 ((nI_eq (a := (btn m c)) (b := 1) (by omega) (by omega)).mpr q)
                    refine exf_go 5 (show vp_in (nI c) 8 ∧ (Go d true 80 74 [.ref 31, .int (nI kn), .ref 77, .int (nI m), .int (nI x), .int (nI c)] [.int (rI h1 36 ((nI c).toNatClampNeg)), .int 10, .int (nI x)] h1 Q) from ⟨(vp_in_nI (by omega) (by omega)), ?_⟩)
                    rw [show (rI h1 36 ((nI c).toNatClampNeg) : Int32) = nI (sT g c) from cs_T cs1 (n := c) (by omega)]
                    refine exf_go 1 (show Go d true 80 75 [.ref 31, .int (nI kn), .ref 77, .int (nI m), .int (nI x), .int (nI c)] [.int (10 - (nI (sT g c))), .int (nI x)] h1 Q from ?_)
                    rw [show (10 - (nI (sT g c)) : Int32) = nI (10 - (sT g c)) from pk_sub (a := 10) (b := (sT g c)) (by omega)]
                    refine exf_go 1 (show Go d true 80 76 [.ref 31, .int (nI kn), .ref 77, .int (nI m), .int (nI x), .int (nI c)] [.int ((nI x) * (nI (10 - (sT g c))))] h1 Q from ?_)
                    rw [show ((nI x) * (nI (10 - (sT g c))) : Int32) = nI (x * (10 - (sT g c))) from pk_mul x (10 - (sT g c))]
                    refine exf_go 2 (show Go d true 80 81 [.ref 31, .int (nI kn), .ref 77, .int (nI m), .int (nI (x * (10 - (sT g c)))), .int ((nI c) + 1)] [] h1 Q from ?_)
                    rw [show ((nI c) + 1 : Int32) = nI (c + 1) from nI_add c 1]
                    refine exf_go 1 (show Go d true 80 24 [.ref 31, .int (nI kn), .ref 77, .int (nI m), .int (nI (x * (10 - (sT g c)))), .int (nI (c + 1))] [] h1 Q from ?_)
                    exact ih24 (c + 1) (x * (10 - (sT g c))) (by omega) (by omega) (by rw [hx, wt, wtf]; first | (rw [if_pos (by assumption), if_pos (by assumption)]; done) | (rw [if_pos (by assumption), if_neg (by assumption)]; done) | (rw [if_neg (by assumption), Nat.mul_one]; done))
                  · skip
                    have c5 : (btn m c) = 1 := (nI_eq (a := (btn m c)) (b := 1) (by omega) (by omega)).mp (Classical.not_not.mp c5)
                    refine exf_go 4 (show vp_in (nI c) 8 ∧ (Go d true 80 62 [.ref 31, .int (nI kn), .ref 77, .int (nI m), .int (nI x), .int (nI c)] [.int (rI h1 36 ((nI c).toNatClampNeg)), .int (nI x)] h1 Q) from ⟨(vp_in_nI (by omega) (by omega)), ?_⟩)
                    rw [show (rI h1 36 ((nI c).toNatClampNeg) : Int32) = nI (sT g c) from cs_T cs1 (n := c) (by omega)]
                    refine exf_go 2 (show Go d true 80 76 [.ref 31, .int (nI kn), .ref 77, .int (nI m), .int (nI x), .int (nI c)] [.int ((nI x) * (nI (sT g c)))] h1 Q from ?_)
                    rw [show ((nI x) * (nI (sT g c)) : Int32) = nI (x * (sT g c)) from pk_mul x (sT g c)]
                    refine exf_go 2 (show Go d true 80 81 [.ref 31, .int (nI kn), .ref 77, .int (nI m), .int (nI (x * (sT g c))), .int ((nI c) + 1)] [] h1 Q from ?_)
                    rw [show ((nI c) + 1 : Int32) = nI (c + 1) from nI_add c 1]
                    refine exf_go 1 (show Go d true 80 24 [.ref 31, .int (nI kn), .ref 77, .int (nI m), .int (nI (x * (sT g c))), .int (nI (c + 1))] [] h1 Q from ?_)
                    exact ih24 (c + 1) (x * (sT g c)) (by omega) (by omega) (by rw [hx, wt, wtf]; first | (rw [if_pos (by assumption), if_pos (by assumption)]; done) | (rw [if_pos (by assumption), if_neg (by assumption)]; done) | (rw [if_neg (by assumption), Nat.mul_one]; done))
          exact L24 (sC g + 1) 0 1 (by omega) (by omega) rfl
  exact L2 (257 + 1) mk_ mk_ 0 h (by omega) (by omega) Fq.rfl' (fun i hi => absurd hi (Nat.not_lt_zero _))
theorem c_count37 {d : Nat} {h : Hp} {g : ShG} {l : LkG} {kn b : Nat} {Q : Po} (cs : CS 31 g h) (cl : CL 39 g l h) (hw : WT 37 g kn h) (hb : b < 2048) (k : ∀ h1, Fq scR h h1 → (∀ m, m < 256 → rI h1 73 m = nI (cMk (clsE g l kn b) (sH g) (tot g) m)) → rI h1 71 1 = nI (cntN (clsE g l kn b) (tot g)) → Q mk_ h1) : wpC (d + 3) true 50 [.ref 71, .ref 39, .int (nI b), .ref 37] h Q := by
  have he := evr_b cs.1
  have hN := tot_b cs.1
  refine go_in rfl ?_
  refine exf_go 4 (show wpC (d + 2) true 318 [.ref 73, .int 0] h (fun _ h' => Go (d + 2) true 50 8 [.ref 71, .ref 39, .int (nI b), .ref 37, mk_, mk_] [] h' Q) from ?_)
  refine c_fill73 (fun h1 q1 hz => ?_)
  show Go (d + 2) true 50 8 [.ref 71, .ref 39, .int (nI b), .ref 37, mk_, mk_] [] h1 Q
  refine exf_go 5 (show Go (d + 2) true 50 16 [.ref 71, .ref 39, .int (nI b), .ref 37, .int 0, mk_] [] (uI h1 71 1 0) Q from ?_)
  have L16 : ∀ (k16 : Nat) (z5 : Value) (n : Nat) (h2 : Hp), (tot g - n) < k16 → (n ≤ tot g) → (Fq scR h h2) → (∀ m, m < 256 → rI h2 73 m = nI (cMk (clsE g l kn b) (sH g) n m)) → (rI h2 71 1 = nI (cntN (clsE g l kn b) n)) → Go (d + 2) true 50 16 [.ref 71, .ref 39, .int (nI b), .ref 37, .int (nI n), z5] [] h2 Q := by
    intro k16
    induction k16 with
    | zero => intro z5 n h2 hk; exact absurd hk (Nat.not_lt_zero _)
    | succ k16 ih16 =>
      intro z5 n h2 hk hn q2 hc hs
      have cs2 := cs_fq cs (q2.mono scR_C)
      have cl2 := cl_fq cl (q2.mono scR_C)
      have hw2 : WT 37 g kn h2 := fun m hm => by rw [q2.I (a := 37) (fun _ => rfl)]; exact hw m hm
      have hH2 := hH cs.1 n; have hcb := cMk_le (clsE g l kn b) (sH g) n (sH g n); have hcc := cntN_le (clsE g l kn b) n
      refine exf_go 3 (show Go (d + 2) true 50 22 [.ref 71, .ref 39, .int (nI b), .ref 37, .int (nI n), z5] [.int (rI h2 39 1), .int (nI n)] h2 Q from ?_)
      rw [show (rI h2 39 1 : Int32) = nI (tot g) from cl_N cl2]
      refine exf_go 1 (show ((nI (tot g)) ≤ (nI n) → Go (d + 2) true 50 77 [.ref 71, .ref 39, .int (nI b), .ref 37, .int (nI n), z5] [] h2 Q) ∧ (¬ ((nI (tot g)) ≤ (nI n)) → Go (d + 2) true 50 25 [.ref 71, .ref 39, .int (nI b), .ref 37, .int (nI n), z5] [] h2 Q) from ⟨fun c1 => ?_, fun c1 => ?_⟩)
      · skip
        have c1 : (tot g) ≤ n := (nI_leI (a := (tot g)) (b := n) (by omega) (by omega)).mp c1
        refine exf_go 1 (show Q (mk_) h2 from ?_)
        rw [show n = tot g from by omega] at hs hc; exact k h2 q2 hc hs
      · skip
        have c1 : ¬ (tot g) ≤ n := fun q => c1 ((nI_leI (a := (tot g)) (b := n) (by omega) (by omega)).mpr q)
        refine exf_go 3 (show wpC (d + 2) true 29 [.ref 39, .int (nI n)] h2 (fun r h' => Go (d + 2) true 50 31 [.ref 71, .ref 39, .int (nI b), .ref 37, .int (nI n), z5] [r] h' Q) from ?_)
        refine c_maskOf cs2 cl2 (by omega) ?_
        have := sH_b cs.1 n
        show Go (d + 2) true 50 31 [.ref 71, .ref 39, .int (nI b), .ref 37, .int (nI n), z5] [.int (nI (sH g n))] h2 Q
        refine exf_go 4 (show vp_in (nI (sH g n)) 256 ∧ (Go (d + 2) true 50 37 [.ref 71, .ref 39, .int (nI b), .ref 37, .int (nI n), .int (nI (sH g n))] [.int (rI h2 37 ((nI (sH g n)).toNatClampNeg))] h2 Q) from ⟨(vp_in_nI (by omega) (by omega)), ?_⟩)
        rw [show (rI h2 37 ((nI (sH g n)).toNatClampNeg) : Int32) = nI (wtK g kn (sH g n)) from by rw [nI_clamp (by omega)]; exact hw2 _ (by omega)]
        have hwb1 := wtK_b cs.1 kn (sH g n)
        refine exf_go 1 (show ((nI (wtK g kn (sH g n))) ≤ 0 → Go (d + 2) true 50 71 [.ref 71, .ref 39, .int (nI b), .ref 37, .int (nI n), .int (nI (sH g n))] [] h2 Q) ∧ (¬ ((nI (wtK g kn (sH g n))) ≤ 0) → Go (d + 2) true 50 40 [.ref 71, .ref 39, .int (nI b), .ref 37, .int (nI n), .int (nI (sH g n))] [] h2 Q) from ⟨fun c2 => ?_, fun c2 => ?_⟩)
        · skip
          have c2 : (wtK g kn (sH g n)) ≤ 0 := (nI_leI (a := (wtK g kn (sH g n))) (b := 0) (by omega) (by omega)).mp c2
          refine exf_go 1 (show Go (d + 2) true 50 74 [.ref 71, .ref 39, .int (nI b), .ref 37, .int ((nI n) + 1), .int (nI (sH g n))] [] h2 Q from ?_)
          rw [show ((nI n) + 1 : Int32) = nI (n + 1) from nI_add n 1]
          refine exf_go 1 (show Go (d + 2) true 50 16 [.ref 71, .ref 39, .int (nI b), .ref 37, .int (nI (n + 1)), .int (nI (sH g n))] [] h2 Q from ?_)
          exact ih16 (.int (nI (sH g n))) (n + 1) _ (by omega) (by omega) q2 (fun m hm => by rw [cMk_no (by first | exact clsE_n1 (by omega) | exact clsE_n2 (by assumption))]; exact hc m hm) (hs.trans (congrArg nI (cn_n rfl (by first | exact clsE_n1 (by omega) | exact clsE_n2 (by assumption)))))
        · skip
          have c2 : ¬ (wtK g kn (sH g n)) ≤ 0 := fun q => c2 ((nI_leI (a := (wtK g kn (sH g n))) (b := 0) (by omega) (by omega)).mpr q)
          refine exf_go 4 (show wpC (d + 2) true 30 [.ref 39, .int (nI n), .int (nI b)] h2 (fun r h' => Go (d + 2) true 50 47 [.ref 71, .ref 39, .int (nI b), .ref 37, .int (nI n), .int (nI (sH g n))] [r] h' Q) from ?_)
          refine c_hasMark cs2 cl2 (by omega) (fun b3 => ?_) (fun b3 => ?_)
          · skip
            show Go (d + 2) true 50 47 [.ref 71, .ref 39, .int (nI b), .ref 37, .int (nI n), .int (nI (sH g n))] [.int 1] h2 Q
            refine exf_go 1 (show (¬ (1 : Int32) = 0 → Go (d + 2) true 50 71 [.ref 71, .ref 39, .int (nI b), .ref 37, .int (nI n), .int (nI (sH g n))] [] h2 Q) ∧ (¬ (¬ (1 : Int32) = 0) → Go (d + 2) true 50 50 [.ref 71, .ref 39, .int (nI b), .ref 37, .int (nI n), .int (nI (sH g n))] [] h2 Q) from ⟨fun c4 => ?_, fun c4 => ?_⟩)
            · skip
              refine exf_go 1 (show Go (d + 2) true 50 74 [.ref 71, .ref 39, .int (nI b), .ref 37, .int ((nI n) + 1), .int (nI (sH g n))] [] h2 Q from ?_)
              rw [show ((nI n) + 1 : Int32) = nI (n + 1) from nI_add n 1]
              refine exf_go 1 (show Go (d + 2) true 50 16 [.ref 71, .ref 39, .int (nI b), .ref 37, .int (nI (n + 1)), .int (nI (sH g n))] [] h2 Q from ?_)
              exact ih16 (.int (nI (sH g n))) (n + 1) _ (by omega) (by omega) q2 (fun m hm => by rw [cMk_no (by first | exact clsE_n1 (by omega) | exact clsE_n2 (by assumption))]; exact hc m hm) (hs.trans (congrArg nI (cn_n rfl (by first | exact clsE_n1 (by omega) | exact clsE_n2 (by assumption)))))
            · skip
              exact absurd (by decide) c4
          · skip
            show Go (d + 2) true 50 47 [.ref 71, .ref 39, .int (nI b), .ref 37, .int (nI n), .int (nI (sH g n))] [.int 0] h2 Q
            refine exf_go 1 (show (¬ (0 : Int32) = 0 → Go (d + 2) true 50 71 [.ref 71, .ref 39, .int (nI b), .ref 37, .int (nI n), .int (nI (sH g n))] [] h2 Q) ∧ (¬ (¬ (0 : Int32) = 0) → Go (d + 2) true 50 50 [.ref 71, .ref 39, .int (nI b), .ref 37, .int (nI n), .int (nI (sH g n))] [] h2 Q) from ⟨fun c5 => ?_, fun c5 => ?_⟩)
            · skip
              exact absurd c5 (by decide)
            · skip
              refine exf_go 5 (show vp_in (nI (sH g n)) 256 ∧ (Go (d + 2) true 50 58 [.ref 71, .ref 39, .int (nI b), .ref 37, .int (nI n), .int (nI (sH g n))] [.int (rI h2 73 ((nI (sH g n)).toNatClampNeg)), .int (nI (sH g n)), .ref 73] h2 Q) from ⟨(vp_in_nI (by omega) (by omega)), ?_⟩)
              rw [show (rI h2 73 ((nI (sH g n)).toNatClampNeg) : Int32) = nI (cMk (clsE g l kn b) (sH g) n (sH g n)) from by rw [nI_clamp (by omega)]; exact hc _ (by omega)]
              refine exf_go 2 (show Go (d + 2) true 50 60 [.ref 71, .ref 39, .int (nI b), .ref 37, .int (nI n), .int (nI (sH g n))] [.int ((nI (cMk (clsE g l kn b) (sH g) n (sH g n))) + 1), .int (nI (sH g n)), .ref 73] h2 Q from ?_)
              rw [show ((nI (cMk (clsE g l kn b) (sH g) n (sH g n))) + 1 : Int32) = nI ((cMk (clsE g l kn b) (sH g) n (sH g n)) + 1) from nI_add (cMk (clsE g l kn b) (sH g) n (sH g n)) 1]
              refine exf_go 4 (show vp_in (nI (sH g n)) 256 ∧ (Go (d + 2) true 50 66 [.ref 71, .ref 39, .int (nI b), .ref 37, .int (nI n), .int (nI (sH g n))] [.int (rI h2 71 1), .ref 71] (uI h2 73 ((nI (sH g n)).toNatClampNeg) (nI ((cMk (clsE g l kn b) (sH g) n (sH g n)) + 1))) Q) from ⟨(vp_in_nI (by omega) (by omega)), ?_⟩)
              rw [show (rI h2 71 1 : Int32) = nI (cntN (clsE g l kn b) n) from hs]
              refine exf_go 2 (show Go (d + 2) true 50 68 [.ref 71, .ref 39, .int (nI b), .ref 37, .int (nI n), .int (nI (sH g n))] [.int ((nI (cntN (clsE g l kn b) n)) + 1), .ref 71] (uI h2 73 ((nI (sH g n)).toNatClampNeg) (nI ((cMk (clsE g l kn b) (sH g) n (sH g n)) + 1))) Q from ?_)
              rw [show ((nI (cntN (clsE g l kn b) n)) + 1 : Int32) = nI ((cntN (clsE g l kn b) n) + 1) from nI_add (cntN (clsE g l kn b) n) 1]
              refine exf_go 2 (show Go (d + 2) true 50 74 [.ref 71, .ref 39, .int (nI b), .ref 37, .int ((nI n) + 1), .int (nI (sH g n))] [] (uI (uI h2 73 ((nI (sH g n)).toNatClampNeg) (nI ((cMk (clsE g l kn b) (sH g) n (sH g n)) + 1))) 71 1 (nI ((cntN (clsE g l kn b) n) + 1))) Q from ?_)
              rw [show ((nI n) + 1 : Int32) = nI (n + 1) from nI_add n 1]
              refine exf_go 1 (show Go (d + 2) true 50 16 [.ref 71, .ref 39, .int (nI b), .ref 37, .int (nI (n + 1)), .int (nI (sH g n))] [] (uI (uI h2 73 ((nI (sH g n)).toNatClampNeg) (nI ((cMk (clsE g l kn b) (sH g) n (sH g n)) + 1))) 71 1 (nI ((cntN (clsE g l kn b) n) + 1))) Q from ?_)
              exact ih16 (.int (nI (sH g n))) (n + 1) _ (by omega) (by omega) ((q2.uI' _ _ _ rfl).uI' _ _ _ rfl) (fun m hm => by rw [rI_uI_ne (by decide), nI_clamp (by omega)]; exact (Decidable.em (m = sH g n)).elim (fun e => by rw [e, rI_uI_eq]; exact congrArg nI (cMk_hit (clsE_y (by omega) (by assumption)))) (fun e => by rw [rI_uI_at e, cMk_miss e]; exact hc m hm)) (by rw [rI_uI_eq]; exact congrArg nI (cn_y rfl (clsE_y (by omega) (by assumption))))
  exact L16 (tot g + 1) mk_ 0 _ (by omega) (by omega) ((q1.mono (sAt_s (fun _ => rfl))).uI' _ _ _ rfl) (fun m hm => by rw [rI_uI_ne (by decide)]; exact hz m hm) rI_uI_eq
theorem c_sort37 {d : Nat} {h : Hp} {g : ShG} {kn : Nat} {c : Nat → Nat} {Q : Po} (cs : CS 31 g h) (hw : WT 37 g kn h) (hc : ∀ m, m < 256 → rI h 73 m = nI (c m)) (hcb : ∀ m, c m ≤ 10000) (hcm2 : ∀ m, 0 < c m → m < 2 ^ sC g) (k : ∀ h1 f s, Fq (sAt 74) h h1 → Srt (wtK g kn) c 256 f s → (∀ j, j < f → rI h1 74 j = nI (s j)) → f ≤ 256 → Q (.int (nI f)) h1) : wpC (d + 1) true 51 [.ref 71, .ref 37] h Q := by
  have he := evr_b cs.1
  refine go_in rfl ?_
  refine exf_go 4 (show Go d true 51 4 [.ref 71, .ref 37, .int 0, .int 0, mk_] [] h Q from ?_)
  have L4 : ∀ (k4 : Nat) (z4 : Value) (m f : Nat) (s : Nat → Nat) (h1 : Hp), (256 - m) < k4 → (m ≤ 256) → (f ≤ m) → (Fq (sAt 74) h h1) → (Srt (wtK g kn) c m f s) → (∀ j, j < f → rI h1 74 j = nI (s j)) → Go d true 51 4 [.ref 71, .ref 37, .int (nI f), .int (nI m), z4] [] h1 Q := by
    intro k4
    induction k4 with
    | zero => intro z4 m f s h1 hk; exact absurd hk (Nat.not_lt_zero _)
    | succ k4 ih4 =>
      intro z4 m f s h1 hk hm hf q1 hS ha
      have hcm := hcb m
      have hw1 : WT 37 g kn h1 := fun m hm => by rw [q1.I (a := 37) (fun _ => rfl)]; exact hw m hm
      have hc1 : ∀ m, m < 256 → rI h1 73 m = nI (c m) := fun m hm => by rw [q1.I (a := 73) (fun _ => rfl)]; exact hc m hm
      refine exf_go 3 (show (256 ≤ (nI m) → Go d true 51 84 [.ref 71, .ref 37, .int (nI f), .int (nI m), z4] [] h1 Q) ∧ (¬ (256 ≤ (nI m)) → Go d true 51 11 [.ref 71, .ref 37, .int (nI f), .int (nI m), z4] [] h1 Q) from ⟨fun c1 => ?_, fun c1 => ?_⟩)
      · skip
        have c1 : 256 ≤ m := (nI_leI (a := 256) (b := m) (by omega) (by omega)).mp c1
        refine exf_go 2 (show Q (.int (nI f)) h1 from ?_)
        exact k h1 f s q1 (by rw [show m = 256 from by omega] at hS; exact hS) ha (by omega)
      · skip
        have c1 : ¬ 256 ≤ m := fun q => c1 ((nI_leI (a := 256) (b := m) (by omega) (by omega)).mpr q)
        refine exf_go 4 (show vp_in (nI m) 256 ∧ (Go d true 51 17 [.ref 71, .ref 37, .int (nI f), .int (nI m), z4] [.int (rI h1 73 ((nI m).toNatClampNeg))] h1 Q) from ⟨(vp_in_nI (by omega) (by omega)), ?_⟩)
        rw [show (rI h1 73 ((nI m).toNatClampNeg) : Int32) = nI (c m) from by rw [nI_clamp (by omega)]; exact hc1 _ (by omega)]
        refine exf_go 1 (show ((nI (c m)) ≤ 0 → Go d true 51 78 [.ref 71, .ref 37, .int (nI f), .int (nI m), z4] [] h1 Q) ∧ (¬ ((nI (c m)) ≤ 0) → Go d true 51 20 [.ref 71, .ref 37, .int (nI f), .int (nI m), z4] [] h1 Q) from ⟨fun c2 => ?_, fun c2 => ?_⟩)
        · skip
          have c2 : (c m) ≤ 0 := (nI_leI (a := (c m)) (b := 0) (by omega) (by omega)).mp c2
          refine exf_go 1 (show Go d true 51 81 [.ref 71, .ref 37, .int (nI f), .int ((nI m) + 1), z4] [] h1 Q from ?_)
          rw [show ((nI m) + 1 : Int32) = nI (m + 1) from nI_add m 1]
          refine exf_go 1 (show Go d true 51 4 [.ref 71, .ref 37, .int (nI f), .int (nI (m + 1)), z4] [] h1 Q from ?_)
          exact ih4 z4 (m + 1) f s h1 (by omega) (by omega) (by omega) q1 (srt_no hS (by omega)) ha
        · skip
          have c2 : ¬ (c m) ≤ 0 := fun q => c2 ((nI_leI (a := (c m)) (b := 0) (by omega) (by omega)).mpr q)
          refine exf_go 2 (show Go d true 51 23 [.ref 71, .ref 37, .int (nI f), .int (nI m), .int (nI f)] [] h1 Q from ?_)
          have L23 : ∀ (k23 : Nat) (a : Nat) (h2 : Hp), a < k23 → (a ≤ f) → (Fq (sAt 74) h h2) → (∀ j, j < a → rI h2 74 j = nI (s j)) → (∀ j, a < j → j ≤ f → rI h2 74 j = nI (s (j - 1))) → (∀ j, a ≤ j → j < f → wtK g kn (s j) < wtK g kn m) → Go d true 51 23 [.ref 71, .ref 37, .int (nI f), .int (nI m), .int (nI a)] [] h2 Q := by
            intro k23
            induction k23 with
            | zero => intro a h2 hk; exact absurd hk (Nat.not_lt_zero _)
            | succ k23 ih23 =>
              intro a h2 hk haf q2 ha2 ha3 hr
              have hw2 : WT 37 g kn h2 := fun m hm => by rw [q2.I (a := 37) (fun _ => rfl)]; exact hw m hm
              have hmc := hcm2 m (by omega)
              refine exf_go 2 (show ((nI a) ≤ 0 → Go d true 51 67 [.ref 71, .ref 37, .int (nI f), .int (nI m), .int (nI a)] [] h2 Q) ∧ (¬ ((nI a) ≤ 0) → Go d true 51 28 [.ref 71, .ref 37, .int (nI f), .int (nI m), .int (nI a)] [] h2 Q) from ⟨fun c3 => ?_, fun c3 => ?_⟩)
              · skip
                have c3 : a ≤ 0 := (nI_leI (a := a) (b := 0) (by omega) (by omega)).mp c3
                refine exf_go 6 (show vp_in (nI a) 256 ∧ (Go d true 51 78 [.ref 71, .ref 37, .int ((nI f) + 1), .int (nI m), .int (nI a)] [] (uI h2 74 ((nI a).toNatClampNeg) (nI m)) Q) from ⟨(vp_in_nI (by omega) (by omega)), ?_⟩)
                rw [show ((nI f) + 1 : Int32) = nI (f + 1) from nI_add f 1]
                refine exf_go 1 (show Go d true 51 81 [.ref 71, .ref 37, .int (nI (f + 1)), .int ((nI m) + 1), .int (nI a)] [] (uI h2 74 ((nI a).toNatClampNeg) (nI m)) Q from ?_)
                rw [show ((nI m) + 1 : Int32) = nI (m + 1) from nI_add m 1]
                refine exf_go 1 (show Go d true 51 4 [.ref 71, .ref 37, .int (nI (f + 1)), .int (nI (m + 1)), .int (nI a)] [] (uI h2 74 ((nI a).toNatClampNeg) (nI m)) Q from ?_)
                exact ih4 (.int (nI a)) (m + 1) (f + 1) (insS s a m) _ (by omega) (by omega) (by omega) (q2.uI' _ _ _ rfl) (srt_ins hS (by omega) (by omega) (fun j hj => by exfalso; omega) (fun j u v => Nat.le_of_lt (hr j u v))) (fun j hj => by rw [nI_clamp (by omega)]; rcases Nat.lt_trichotomy j a with z | z | z; rw [rI_uI_at (by omega), ins_lt z]; exact ha2 j z; rw [z, rI_uI_eq, ins_eq]; rw [rI_uI_at (by omega), ins_gt z]; exact ha3 j z (by omega))
              · skip
                have c3 : ¬ a ≤ 0 := fun q => c3 ((nI_leI (a := a) (b := 0) (by omega) (by omega)).mpr q)
                refine exf_go 6 (show Go d true 51 37 [.ref 71, .ref 37, .int (nI f), .int (nI m), .int (nI a)] [.int ((nI a) - 1), .ref 74, .ref 37] h2 Q from ?_)
                rw [show ((nI a) - 1 : Int32) = nI (a - 1) from pk_sub (a := a) (b := 1) (by omega)]
                refine exf_go 1 (show vp_in (nI (a - 1)) 256 ∧ (Go d true 51 38 [.ref 71, .ref 37, .int (nI f), .int (nI m), .int (nI a)] [.int (rI h2 74 ((nI (a - 1)).toNatClampNeg)), .ref 37] h2 Q) from ⟨(vp_in_nI (by omega) (by omega)), ?_⟩)
                rw [show (rI h2 74 ((nI (a - 1)).toNatClampNeg) : Int32) = nI (s (a - 1)) from by rw [nI_clamp (by omega)]; exact ha2 _ (by omega)]
                have hsc := hS.1 (a - 1) (by omega); have hsm := hcm2 (s (a - 1)) hsc.2
                refine exf_go 1 (show vp_in (nI (s (a - 1))) 256 ∧ (Go d true 51 39 [.ref 71, .ref 37, .int (nI f), .int (nI m), .int (nI a)] [.int (rI h2 37 ((nI (s (a - 1))).toNatClampNeg))] h2 Q) from ⟨(vp_in_nI (by omega) (by omega)), ?_⟩)
                rw [show (rI h2 37 ((nI (s (a - 1))).toNatClampNeg) : Int32) = nI (wtK g kn (s (a - 1))) from by rw [nI_clamp (by omega)]; exact hw2 _ (by omega)]
                have hwb1 := wtK_b cs.1 kn (s (a - 1))
                refine exf_go 3 (show vp_in (nI m) 256 ∧ (Go d true 51 42 [.ref 71, .ref 37, .int (nI f), .int (nI m), .int (nI a)] [.int (rI h2 37 ((nI m).toNatClampNeg)), .int (nI (wtK g kn (s (a - 1))))] h2 Q) from ⟨(vp_in_nI (by omega) (by omega)), ?_⟩)
                rw [show (rI h2 37 ((nI m).toNatClampNeg) : Int32) = nI (wtK g kn m) from by rw [nI_clamp (by omega)]; exact hw2 _ (by omega)]
                have hwb2 := wtK_b cs.1 kn m
                refine exf_go 1 (show ((nI (wtK g kn m)) ≤ (nI (wtK g kn (s (a - 1)))) → Go d true 51 67 [.ref 71, .ref 37, .int (nI f), .int (nI m), .int (nI a)] [] h2 Q) ∧ (¬ ((nI (wtK g kn m)) ≤ (nI (wtK g kn (s (a - 1))))) → Go d true 51 45 [.ref 71, .ref 37, .int (nI f), .int (nI m), .int (nI a)] [] h2 Q) from ⟨fun c4 => ?_, fun c4 => ?_⟩)
                · skip
                  have c4 : (wtK g kn m) ≤ (wtK g kn (s (a - 1))) := (nI_leI (a := (wtK g kn m)) (b := (wtK g kn (s (a - 1)))) (by omega) (by omega)).mp c4
                  refine exf_go 6 (show vp_in (nI a) 256 ∧ (Go d true 51 78 [.ref 71, .ref 37, .int ((nI f) + 1), .int (nI m), .int (nI a)] [] (uI h2 74 ((nI a).toNatClampNeg) (nI m)) Q) from ⟨(vp_in_nI (by omega) (by omega)), ?_⟩)
                  rw [show ((nI f) + 1 : Int32) = nI (f + 1) from nI_add f 1]
                  refine exf_go 1 (show Go d true 51 81 [.ref 71, .ref 37, .int (nI (f + 1)), .int ((nI m) + 1), .int (nI a)] [] (uI h2 74 ((nI a).toNatClampNeg) (nI m)) Q from ?_)
                  rw [show ((nI m) + 1 : Int32) = nI (m + 1) from nI_add m 1]
                  refine exf_go 1 (show Go d true 51 4 [.ref 71, .ref 37, .int (nI (f + 1)), .int (nI (m + 1)), .int (nI a)] [] (uI h2 74 ((nI a).toNatClampNeg) (nI m)) Q from ?_)
                  exact ih4 (.int (nI a)) (m + 1) (f + 1) (insS s a m) _ (by omega) (by omega) (by omega) (q2.uI' _ _ _ rfl) (srt_ins hS (by omega) (by omega) (fun j hj => by have u := srt_le hS (i := j) (j := a - 1) (by omega) (by omega); omega) (fun j u v => Nat.le_of_lt (hr j u v))) (fun j hj => by rw [nI_clamp (by omega)]; rcases Nat.lt_trichotomy j a with z | z | z; rw [rI_uI_at (by omega), ins_lt z]; exact ha2 j z; rw [z, rI_uI_eq, ins_eq]; rw [rI_uI_at (by omega), ins_gt z]; exact ha3 j z (by omega))
                · skip
                  have c4 : ¬ (wtK g kn m) ≤ (wtK g kn (s (a - 1))) := fun q => c4 ((nI_leI (a := (wtK g kn m)) (b := (wtK g kn (s (a - 1)))) (by omega) (by omega)).mpr q)
                  refine exf_go 8 (show Go d true 51 59 [.ref 71, .ref 37, .int (nI f), .int (nI m), .int (nI a)] [.int ((nI a) - 1), .ref 74, .int (nI a), .ref 74] h2 Q from ?_)
                  rw [show ((nI a) - 1 : Int32) = nI (a - 1) from pk_sub (a := a) (b := 1) (by omega)]
                  refine exf_go 1 (show vp_in (nI (a - 1)) 256 ∧ (Go d true 51 60 [.ref 71, .ref 37, .int (nI f), .int (nI m), .int (nI a)] [.int (rI h2 74 ((nI (a - 1)).toNatClampNeg)), .int (nI a), .ref 74] h2 Q) from ⟨(vp_in_nI (by omega) (by omega)), ?_⟩)
                  rw [show (rI h2 74 ((nI (a - 1)).toNatClampNeg) : Int32) = nI (s (a - 1)) from by rw [nI_clamp (by omega)]; exact ha2 _ (by omega)]
                  have hsc := hS.1 (a - 1) (by omega); have hsm := hcm2 (s (a - 1)) hsc.2
                  refine exf_go 2 (show vp_in (nI a) 256 ∧ (Go d true 51 64 [.ref 71, .ref 37, .int (nI f), .int (nI m), .int ((nI a) + (-1))] [] (uI h2 74 ((nI a).toNatClampNeg) (nI (s (a - 1)))) Q) from ⟨(vp_in_nI (by omega) (by omega)), ?_⟩)
                  rw [show ((nI a) + (-1) : Int32) = nI (a - 1) from nI_dec (n := a) (by omega)]
                  refine exf_go 1 (show Go d true 51 23 [.ref 71, .ref 37, .int (nI f), .int (nI m), .int (nI (a - 1))] [] (uI h2 74 ((nI a).toNatClampNeg) (nI (s (a - 1)))) Q from ?_)
                  exact ih23 (a - 1) _ (by omega) (by omega) (q2.uI' _ _ _ rfl) (fun j hj => by rw [nI_clamp (by omega), rI_uI_at (by omega)]; exact ha2 j (by omega)) (fun j u v => by rw [nI_clamp (by omega)]; exact (Decidable.em (j = a)).elim (fun e => by rw [e, rI_uI_eq]) (fun e => by rw [rI_uI_at e]; exact ha3 j (by omega) v)) (fun j u v => (Decidable.em (j = a - 1)).elim (fun e => by rw [e]; omega) (fun e => hr j (by omega) v))
          exact L23 (f + 1) f h1 (by omega) (by omega) q1 ha (fun j u v => absurd u (by omega)) (fun j u v => absurd u (by omega))
  exact L4 (256 + 1) mk_ 0 0 (fun _ => 0) h (by omega) (by omega) (by omega) Fq.rfl' ⟨fun j hj => absurd hj (Nat.not_lt_zero _), fun j hj => absurd hj (Nat.not_lt_zero _), fun i j _ hj => absurd hj (Nat.not_lt_zero _), fun i j hj => absurd hj (Nat.not_lt_zero _)⟩ (fun j hj => absurd hj (Nat.not_lt_zero _))
theorem c_count77 {d : Nat} {h : Hp} {g : ShG} {l : LkG} {kn b : Nat} {Q : Po} (cs : CS 31 g h) (cl : CL 39 g l h) (hw : WT 77 g kn h) (hb : b < 2048) (k : ∀ h1, Fq scR h h1 → (∀ m, m < 256 → rI h1 73 m = nI (cMk (clsE g l kn b) (sH g) (tot g) m)) → rI h1 71 1 = nI (cntN (clsE g l kn b) (tot g)) → Q mk_ h1) : wpC (d + 3) true 50 [.ref 71, .ref 39, .int (nI b), .ref 77] h Q := by
  have he := evr_b cs.1
  have hN := tot_b cs.1
  refine go_in rfl ?_
  refine exf_go 4 (show wpC (d + 2) true 318 [.ref 73, .int 0] h (fun _ h' => Go (d + 2) true 50 8 [.ref 71, .ref 39, .int (nI b), .ref 77, mk_, mk_] [] h' Q) from ?_)
  refine c_fill73 (fun h1 q1 hz => ?_)
  show Go (d + 2) true 50 8 [.ref 71, .ref 39, .int (nI b), .ref 77, mk_, mk_] [] h1 Q
  refine exf_go 5 (show Go (d + 2) true 50 16 [.ref 71, .ref 39, .int (nI b), .ref 77, .int 0, mk_] [] (uI h1 71 1 0) Q from ?_)
  have L16 : ∀ (k16 : Nat) (z5 : Value) (n : Nat) (h2 : Hp), (tot g - n) < k16 → (n ≤ tot g) → (Fq scR h h2) → (∀ m, m < 256 → rI h2 73 m = nI (cMk (clsE g l kn b) (sH g) n m)) → (rI h2 71 1 = nI (cntN (clsE g l kn b) n)) → Go (d + 2) true 50 16 [.ref 71, .ref 39, .int (nI b), .ref 77, .int (nI n), z5] [] h2 Q := by
    intro k16
    induction k16 with
    | zero => intro z5 n h2 hk; exact absurd hk (Nat.not_lt_zero _)
    | succ k16 ih16 =>
      intro z5 n h2 hk hn q2 hc hs
      have cs2 := cs_fq cs (q2.mono scR_C)
      have cl2 := cl_fq cl (q2.mono scR_C)
      have hw2 : WT 77 g kn h2 := fun m hm => by rw [q2.I (a := 77) (fun _ => rfl)]; exact hw m hm
      have hH2 := hH cs.1 n; have hcb := cMk_le (clsE g l kn b) (sH g) n (sH g n); have hcc := cntN_le (clsE g l kn b) n
      refine exf_go 3 (show Go (d + 2) true 50 22 [.ref 71, .ref 39, .int (nI b), .ref 77, .int (nI n), z5] [.int (rI h2 39 1), .int (nI n)] h2 Q from ?_)
      rw [show (rI h2 39 1 : Int32) = nI (tot g) from cl_N cl2]
      refine exf_go 1 (show ((nI (tot g)) ≤ (nI n) → Go (d + 2) true 50 77 [.ref 71, .ref 39, .int (nI b), .ref 77, .int (nI n), z5] [] h2 Q) ∧ (¬ ((nI (tot g)) ≤ (nI n)) → Go (d + 2) true 50 25 [.ref 71, .ref 39, .int (nI b), .ref 77, .int (nI n), z5] [] h2 Q) from ⟨fun c1 => ?_, fun c1 => ?_⟩)
      · skip
        have c1 : (tot g) ≤ n := (nI_leI (a := (tot g)) (b := n) (by omega) (by omega)).mp c1
        refine exf_go 1 (show Q (mk_) h2 from ?_)
        rw [show n = tot g from by omega] at hs hc; exact k h2 q2 hc hs
      · skip
        have c1 : ¬ (tot g) ≤ n := fun q => c1 ((nI_leI (a := (tot g)) (b := n) (by omega) (by omega)).mpr q)
        refine exf_go 3 (show wpC (d + 2) true 29 [.ref 39, .int (nI n)] h2 (fun r h' => Go (d + 2) true 50 31 [.ref 71, .ref 39, .int (nI b), .ref 77, .int (nI n), z5] [r] h' Q) from ?_)
        refine c_maskOf cs2 cl2 (by omega) ?_
        have := sH_b cs.1 n
        show Go (d + 2) true 50 31 [.ref 71, .ref 39, .int (nI b), .ref 77, .int (nI n), z5] [.int (nI (sH g n))] h2 Q
        refine exf_go 4 (show vp_in (nI (sH g n)) 256 ∧ (Go (d + 2) true 50 37 [.ref 71, .ref 39, .int (nI b), .ref 77, .int (nI n), .int (nI (sH g n))] [.int (rI h2 77 ((nI (sH g n)).toNatClampNeg))] h2 Q) from ⟨(vp_in_nI (by omega) (by omega)), ?_⟩)
        rw [show (rI h2 77 ((nI (sH g n)).toNatClampNeg) : Int32) = nI (wtK g kn (sH g n)) from by rw [nI_clamp (by omega)]; exact hw2 _ (by omega)]
        have hwb1 := wtK_b cs.1 kn (sH g n)
        refine exf_go 1 (show ((nI (wtK g kn (sH g n))) ≤ 0 → Go (d + 2) true 50 71 [.ref 71, .ref 39, .int (nI b), .ref 77, .int (nI n), .int (nI (sH g n))] [] h2 Q) ∧ (¬ ((nI (wtK g kn (sH g n))) ≤ 0) → Go (d + 2) true 50 40 [.ref 71, .ref 39, .int (nI b), .ref 77, .int (nI n), .int (nI (sH g n))] [] h2 Q) from ⟨fun c2 => ?_, fun c2 => ?_⟩)
        · skip
          have c2 : (wtK g kn (sH g n)) ≤ 0 := (nI_leI (a := (wtK g kn (sH g n))) (b := 0) (by omega) (by omega)).mp c2
          refine exf_go 1 (show Go (d + 2) true 50 74 [.ref 71, .ref 39, .int (nI b), .ref 77, .int ((nI n) + 1), .int (nI (sH g n))] [] h2 Q from ?_)
          rw [show ((nI n) + 1 : Int32) = nI (n + 1) from nI_add n 1]
          refine exf_go 1 (show Go (d + 2) true 50 16 [.ref 71, .ref 39, .int (nI b), .ref 77, .int (nI (n + 1)), .int (nI (sH g n))] [] h2 Q from ?_)
          exact ih16 (.int (nI (sH g n))) (n + 1) _ (by omega) (by omega) q2 (fun m hm => by rw [cMk_no (by first | exact clsE_n1 (by omega) | exact clsE_n2 (by assumption))]; exact hc m hm) (hs.trans (congrArg nI (cn_n rfl (by first | exact clsE_n1 (by omega) | exact clsE_n2 (by assumption)))))
        · skip
          have c2 : ¬ (wtK g kn (sH g n)) ≤ 0 := fun q => c2 ((nI_leI (a := (wtK g kn (sH g n))) (b := 0) (by omega) (by omega)).mpr q)
          refine exf_go 4 (show wpC (d + 2) true 30 [.ref 39, .int (nI n), .int (nI b)] h2 (fun r h' => Go (d + 2) true 50 47 [.ref 71, .ref 39, .int (nI b), .ref 77, .int (nI n), .int (nI (sH g n))] [r] h' Q) from ?_)
          refine c_hasMark cs2 cl2 (by omega) (fun b3 => ?_) (fun b3 => ?_)
          · skip
            show Go (d + 2) true 50 47 [.ref 71, .ref 39, .int (nI b), .ref 77, .int (nI n), .int (nI (sH g n))] [.int 1] h2 Q
            refine exf_go 1 (show (¬ (1 : Int32) = 0 → Go (d + 2) true 50 71 [.ref 71, .ref 39, .int (nI b), .ref 77, .int (nI n), .int (nI (sH g n))] [] h2 Q) ∧ (¬ (¬ (1 : Int32) = 0) → Go (d + 2) true 50 50 [.ref 71, .ref 39, .int (nI b), .ref 77, .int (nI n), .int (nI (sH g n))] [] h2 Q) from ⟨fun c4 => ?_, fun c4 => ?_⟩)
            · skip
              refine exf_go 1 (show Go (d + 2) true 50 74 [.ref 71, .ref 39, .int (nI b), .ref 77, .int ((nI n) + 1), .int (nI (sH g n))] [] h2 Q from ?_)
              rw [show ((nI n) + 1 : Int32) = nI (n + 1) from nI_add n 1]
              refine exf_go 1 (show Go (d + 2) true 50 16 [.ref 71, .ref 39, .int (nI b), .ref 77, .int (nI (n + 1)), .int (nI (sH g n))] [] h2 Q from ?_)
              exact ih16 (.int (nI (sH g n))) (n + 1) _ (by omega) (by omega) q2 (fun m hm => by rw [cMk_no (by first | exact clsE_n1 (by omega) | exact clsE_n2 (by assumption))]; exact hc m hm) (hs.trans (congrArg nI (cn_n rfl (by first | exact clsE_n1 (by omega) | exact clsE_n2 (by assumption)))))
            · skip
              exact absurd (by decide) c4
          · skip
            show Go (d + 2) true 50 47 [.ref 71, .ref 39, .int (nI b), .ref 77, .int (nI n), .int (nI (sH g n))] [.int 0] h2 Q
            refine exf_go 1 (show (¬ (0 : Int32) = 0 → Go (d + 2) true 50 71 [.ref 71, .ref 39, .int (nI b), .ref 77, .int (nI n), .int (nI (sH g n))] [] h2 Q) ∧ (¬ (¬ (0 : Int32) = 0) → Go (d + 2) true 50 50 [.ref 71, .ref 39, .int (nI b), .ref 77, .int (nI n), .int (nI (sH g n))] [] h2 Q) from ⟨fun c5 => ?_, fun c5 => ?_⟩)
            · skip
              exact absurd c5 (by decide)
            · skip
              refine exf_go 5 (show vp_in (nI (sH g n)) 256 ∧ (Go (d + 2) true 50 58 [.ref 71, .ref 39, .int (nI b), .ref 77, .int (nI n), .int (nI (sH g n))] [.int (rI h2 73 ((nI (sH g n)).toNatClampNeg)), .int (nI (sH g n)), .ref 73] h2 Q) from ⟨(vp_in_nI (by omega) (by omega)), ?_⟩)
              rw [show (rI h2 73 ((nI (sH g n)).toNatClampNeg) : Int32) = nI (cMk (clsE g l kn b) (sH g) n (sH g n)) from by rw [nI_clamp (by omega)]; exact hc _ (by omega)]
              refine exf_go 2 (show Go (d + 2) true 50 60 [.ref 71, .ref 39, .int (nI b), .ref 77, .int (nI n), .int (nI (sH g n))] [.int ((nI (cMk (clsE g l kn b) (sH g) n (sH g n))) + 1), .int (nI (sH g n)), .ref 73] h2 Q from ?_)
              rw [show ((nI (cMk (clsE g l kn b) (sH g) n (sH g n))) + 1 : Int32) = nI ((cMk (clsE g l kn b) (sH g) n (sH g n)) + 1) from nI_add (cMk (clsE g l kn b) (sH g) n (sH g n)) 1]
              refine exf_go 4 (show vp_in (nI (sH g n)) 256 ∧ (Go (d + 2) true 50 66 [.ref 71, .ref 39, .int (nI b), .ref 77, .int (nI n), .int (nI (sH g n))] [.int (rI h2 71 1), .ref 71] (uI h2 73 ((nI (sH g n)).toNatClampNeg) (nI ((cMk (clsE g l kn b) (sH g) n (sH g n)) + 1))) Q) from ⟨(vp_in_nI (by omega) (by omega)), ?_⟩)
              rw [show (rI h2 71 1 : Int32) = nI (cntN (clsE g l kn b) n) from hs]
              refine exf_go 2 (show Go (d + 2) true 50 68 [.ref 71, .ref 39, .int (nI b), .ref 77, .int (nI n), .int (nI (sH g n))] [.int ((nI (cntN (clsE g l kn b) n)) + 1), .ref 71] (uI h2 73 ((nI (sH g n)).toNatClampNeg) (nI ((cMk (clsE g l kn b) (sH g) n (sH g n)) + 1))) Q from ?_)
              rw [show ((nI (cntN (clsE g l kn b) n)) + 1 : Int32) = nI ((cntN (clsE g l kn b) n) + 1) from nI_add (cntN (clsE g l kn b) n) 1]
              refine exf_go 2 (show Go (d + 2) true 50 74 [.ref 71, .ref 39, .int (nI b), .ref 77, .int ((nI n) + 1), .int (nI (sH g n))] [] (uI (uI h2 73 ((nI (sH g n)).toNatClampNeg) (nI ((cMk (clsE g l kn b) (sH g) n (sH g n)) + 1))) 71 1 (nI ((cntN (clsE g l kn b) n) + 1))) Q from ?_)
              rw [show ((nI n) + 1 : Int32) = nI (n + 1) from nI_add n 1]
              refine exf_go 1 (show Go (d + 2) true 50 16 [.ref 71, .ref 39, .int (nI b), .ref 77, .int (nI (n + 1)), .int (nI (sH g n))] [] (uI (uI h2 73 ((nI (sH g n)).toNatClampNeg) (nI ((cMk (clsE g l kn b) (sH g) n (sH g n)) + 1))) 71 1 (nI ((cntN (clsE g l kn b) n) + 1))) Q from ?_)
              exact ih16 (.int (nI (sH g n))) (n + 1) _ (by omega) (by omega) ((q2.uI' _ _ _ rfl).uI' _ _ _ rfl) (fun m hm => by rw [rI_uI_ne (by decide), nI_clamp (by omega)]; exact (Decidable.em (m = sH g n)).elim (fun e => by rw [e, rI_uI_eq]; exact congrArg nI (cMk_hit (clsE_y (by omega) (by assumption)))) (fun e => by rw [rI_uI_at e, cMk_miss e]; exact hc m hm)) (by rw [rI_uI_eq]; exact congrArg nI (cn_y rfl (clsE_y (by omega) (by assumption))))
  exact L16 (tot g + 1) mk_ 0 _ (by omega) (by omega) ((q1.mono (sAt_s (fun _ => rfl))).uI' _ _ _ rfl) (fun m hm => by rw [rI_uI_ne (by decide)]; exact hz m hm) rI_uI_eq
theorem c_sort77 {d : Nat} {h : Hp} {g : ShG} {kn : Nat} {c : Nat → Nat} {Q : Po} (cs : CS 31 g h) (hw : WT 77 g kn h) (hc : ∀ m, m < 256 → rI h 73 m = nI (c m)) (hcb : ∀ m, c m ≤ 10000) (hcm2 : ∀ m, 0 < c m → m < 2 ^ sC g) (k : ∀ h1 f s, Fq (sAt 74) h h1 → Srt (wtK g kn) c 256 f s → (∀ j, j < f → rI h1 74 j = nI (s j)) → f ≤ 256 → Q (.int (nI f)) h1) : wpC (d + 1) true 51 [.ref 71, .ref 77] h Q := by
  have he := evr_b cs.1
  refine go_in rfl ?_
  refine exf_go 4 (show Go d true 51 4 [.ref 71, .ref 77, .int 0, .int 0, mk_] [] h Q from ?_)
  have L4 : ∀ (k4 : Nat) (z4 : Value) (m f : Nat) (s : Nat → Nat) (h1 : Hp), (256 - m) < k4 → (m ≤ 256) → (f ≤ m) → (Fq (sAt 74) h h1) → (Srt (wtK g kn) c m f s) → (∀ j, j < f → rI h1 74 j = nI (s j)) → Go d true 51 4 [.ref 71, .ref 77, .int (nI f), .int (nI m), z4] [] h1 Q := by
    intro k4
    induction k4 with
    | zero => intro z4 m f s h1 hk; exact absurd hk (Nat.not_lt_zero _)
    | succ k4 ih4 =>
      intro z4 m f s h1 hk hm hf q1 hS ha
      have hcm := hcb m
      have hw1 : WT 77 g kn h1 := fun m hm => by rw [q1.I (a := 77) (fun _ => rfl)]; exact hw m hm
      have hc1 : ∀ m, m < 256 → rI h1 73 m = nI (c m) := fun m hm => by rw [q1.I (a := 73) (fun _ => rfl)]; exact hc m hm
      refine exf_go 3 (show (256 ≤ (nI m) → Go d true 51 84 [.ref 71, .ref 77, .int (nI f), .int (nI m), z4] [] h1 Q) ∧ (¬ (256 ≤ (nI m)) → Go d true 51 11 [.ref 71, .ref 77, .int (nI f), .int (nI m), z4] [] h1 Q) from ⟨fun c1 => ?_, fun c1 => ?_⟩)
      · skip
        have c1 : 256 ≤ m := (nI_leI (a := 256) (b := m) (by omega) (by omega)).mp c1
        refine exf_go 2 (show Q (.int (nI f)) h1 from ?_)
        exact k h1 f s q1 (by rw [show m = 256 from by omega] at hS; exact hS) ha (by omega)
      · skip
        have c1 : ¬ 256 ≤ m := fun q => c1 ((nI_leI (a := 256) (b := m) (by omega) (by omega)).mpr q)
        refine exf_go 4 (show vp_in (nI m) 256 ∧ (Go d true 51 17 [.ref 71, .ref 77, .int (nI f), .int (nI m), z4] [.int (rI h1 73 ((nI m).toNatClampNeg))] h1 Q) from ⟨(vp_in_nI (by omega) (by omega)), ?_⟩)
        rw [show (rI h1 73 ((nI m).toNatClampNeg) : Int32) = nI (c m) from by rw [nI_clamp (by omega)]; exact hc1 _ (by omega)]
        refine exf_go 1 (show ((nI (c m)) ≤ 0 → Go d true 51 78 [.ref 71, .ref 77, .int (nI f), .int (nI m), z4] [] h1 Q) ∧ (¬ ((nI (c m)) ≤ 0) → Go d true 51 20 [.ref 71, .ref 77, .int (nI f), .int (nI m), z4] [] h1 Q) from ⟨fun c2 => ?_, fun c2 => ?_⟩)
        · skip
          have c2 : (c m) ≤ 0 := (nI_leI (a := (c m)) (b := 0) (by omega) (by omega)).mp c2
          refine exf_go 1 (show Go d true 51 81 [.ref 71, .ref 77, .int (nI f), .int ((nI m) + 1), z4] [] h1 Q from ?_)
          rw [show ((nI m) + 1 : Int32) = nI (m + 1) from nI_add m 1]
          refine exf_go 1 (show Go d true 51 4 [.ref 71, .ref 77, .int (nI f), .int (nI (m + 1)), z4] [] h1 Q from ?_)
          exact ih4 z4 (m + 1) f s h1 (by omega) (by omega) (by omega) q1 (srt_no hS (by omega)) ha
        · skip
          have c2 : ¬ (c m) ≤ 0 := fun q => c2 ((nI_leI (a := (c m)) (b := 0) (by omega) (by omega)).mpr q)
          refine exf_go 2 (show Go d true 51 23 [.ref 71, .ref 77, .int (nI f), .int (nI m), .int (nI f)] [] h1 Q from ?_)
          have L23 : ∀ (k23 : Nat) (a : Nat) (h2 : Hp), a < k23 → (a ≤ f) → (Fq (sAt 74) h h2) → (∀ j, j < a → rI h2 74 j = nI (s j)) → (∀ j, a < j → j ≤ f → rI h2 74 j = nI (s (j - 1))) → (∀ j, a ≤ j → j < f → wtK g kn (s j) < wtK g kn m) → Go d true 51 23 [.ref 71, .ref 77, .int (nI f), .int (nI m), .int (nI a)] [] h2 Q := by
            intro k23
            induction k23 with
            | zero => intro a h2 hk; exact absurd hk (Nat.not_lt_zero _)
            | succ k23 ih23 =>
              intro a h2 hk haf q2 ha2 ha3 hr
              have hw2 : WT 77 g kn h2 := fun m hm => by rw [q2.I (a := 77) (fun _ => rfl)]; exact hw m hm
              have hmc := hcm2 m (by omega)
              refine exf_go 2 (show ((nI a) ≤ 0 → Go d true 51 67 [.ref 71, .ref 77, .int (nI f), .int (nI m), .int (nI a)] [] h2 Q) ∧ (¬ ((nI a) ≤ 0) → Go d true 51 28 [.ref 71, .ref 77, .int (nI f), .int (nI m), .int (nI a)] [] h2 Q) from ⟨fun c3 => ?_, fun c3 => ?_⟩)
              · skip
                have c3 : a ≤ 0 := (nI_leI (a := a) (b := 0) (by omega) (by omega)).mp c3
                refine exf_go 6 (show vp_in (nI a) 256 ∧ (Go d true 51 78 [.ref 71, .ref 77, .int ((nI f) + 1), .int (nI m), .int (nI a)] [] (uI h2 74 ((nI a).toNatClampNeg) (nI m)) Q) from ⟨(vp_in_nI (by omega) (by omega)), ?_⟩)
                rw [show ((nI f) + 1 : Int32) = nI (f + 1) from nI_add f 1]
                refine exf_go 1 (show Go d true 51 81 [.ref 71, .ref 77, .int (nI (f + 1)), .int ((nI m) + 1), .int (nI a)] [] (uI h2 74 ((nI a).toNatClampNeg) (nI m)) Q from ?_)
                rw [show ((nI m) + 1 : Int32) = nI (m + 1) from nI_add m 1]
                refine exf_go 1 (show Go d true 51 4 [.ref 71, .ref 77, .int (nI (f + 1)), .int (nI (m + 1)), .int (nI a)] [] (uI h2 74 ((nI a).toNatClampNeg) (nI m)) Q from ?_)
                exact ih4 (.int (nI a)) (m + 1) (f + 1) (insS s a m) _ (by omega) (by omega) (by omega) (q2.uI' _ _ _ rfl) (srt_ins hS (by omega) (by omega) (fun j hj => by exfalso; omega) (fun j u v => Nat.le_of_lt (hr j u v))) (fun j hj => by rw [nI_clamp (by omega)]; rcases Nat.lt_trichotomy j a with z | z | z; rw [rI_uI_at (by omega), ins_lt z]; exact ha2 j z; rw [z, rI_uI_eq, ins_eq]; rw [rI_uI_at (by omega), ins_gt z]; exact ha3 j z (by omega))
              · skip
                have c3 : ¬ a ≤ 0 := fun q => c3 ((nI_leI (a := a) (b := 0) (by omega) (by omega)).mpr q)
                refine exf_go 6 (show Go d true 51 37 [.ref 71, .ref 77, .int (nI f), .int (nI m), .int (nI a)] [.int ((nI a) - 1), .ref 74, .ref 77] h2 Q from ?_)
                rw [show ((nI a) - 1 : Int32) = nI (a - 1) from pk_sub (a := a) (b := 1) (by omega)]
                refine exf_go 1 (show vp_in (nI (a - 1)) 256 ∧ (Go d true 51 38 [.ref 71, .ref 77, .int (nI f), .int (nI m), .int (nI a)] [.int (rI h2 74 ((nI (a - 1)).toNatClampNeg)), .ref 77] h2 Q) from ⟨(vp_in_nI (by omega) (by omega)), ?_⟩)
                rw [show (rI h2 74 ((nI (a - 1)).toNatClampNeg) : Int32) = nI (s (a - 1)) from by rw [nI_clamp (by omega)]; exact ha2 _ (by omega)]
                have hsc := hS.1 (a - 1) (by omega); have hsm := hcm2 (s (a - 1)) hsc.2
                refine exf_go 1 (show vp_in (nI (s (a - 1))) 256 ∧ (Go d true 51 39 [.ref 71, .ref 77, .int (nI f), .int (nI m), .int (nI a)] [.int (rI h2 77 ((nI (s (a - 1))).toNatClampNeg))] h2 Q) from ⟨(vp_in_nI (by omega) (by omega)), ?_⟩)
                rw [show (rI h2 77 ((nI (s (a - 1))).toNatClampNeg) : Int32) = nI (wtK g kn (s (a - 1))) from by rw [nI_clamp (by omega)]; exact hw2 _ (by omega)]
                have hwb1 := wtK_b cs.1 kn (s (a - 1))
                refine exf_go 3 (show vp_in (nI m) 256 ∧ (Go d true 51 42 [.ref 71, .ref 77, .int (nI f), .int (nI m), .int (nI a)] [.int (rI h2 77 ((nI m).toNatClampNeg)), .int (nI (wtK g kn (s (a - 1))))] h2 Q) from ⟨(vp_in_nI (by omega) (by omega)), ?_⟩)
                rw [show (rI h2 77 ((nI m).toNatClampNeg) : Int32) = nI (wtK g kn m) from by rw [nI_clamp (by omega)]; exact hw2 _ (by omega)]
                have hwb2 := wtK_b cs.1 kn m
                refine exf_go 1 (show ((nI (wtK g kn m)) ≤ (nI (wtK g kn (s (a - 1)))) → Go d true 51 67 [.ref 71, .ref 77, .int (nI f), .int (nI m), .int (nI a)] [] h2 Q) ∧ (¬ ((nI (wtK g kn m)) ≤ (nI (wtK g kn (s (a - 1))))) → Go d true 51 45 [.ref 71, .ref 77, .int (nI f), .int (nI m), .int (nI a)] [] h2 Q) from ⟨fun c4 => ?_, fun c4 => ?_⟩)
                · skip
                  have c4 : (wtK g kn m) ≤ (wtK g kn (s (a - 1))) := (nI_leI (a := (wtK g kn m)) (b := (wtK g kn (s (a - 1)))) (by omega) (by omega)).mp c4
                  refine exf_go 6 (show vp_in (nI a) 256 ∧ (Go d true 51 78 [.ref 71, .ref 77, .int ((nI f) + 1), .int (nI m), .int (nI a)] [] (uI h2 74 ((nI a).toNatClampNeg) (nI m)) Q) from ⟨(vp_in_nI (by omega) (by omega)), ?_⟩)
                  rw [show ((nI f) + 1 : Int32) = nI (f + 1) from nI_add f 1]
                  refine exf_go 1 (show Go d true 51 81 [.ref 71, .ref 77, .int (nI (f + 1)), .int ((nI m) + 1), .int (nI a)] [] (uI h2 74 ((nI a).toNatClampNeg) (nI m)) Q from ?_)
                  rw [show ((nI m) + 1 : Int32) = nI (m + 1) from nI_add m 1]
                  refine exf_go 1 (show Go d true 51 4 [.ref 71, .ref 77, .int (nI (f + 1)), .int (nI (m + 1)), .int (nI a)] [] (uI h2 74 ((nI a).toNatClampNeg) (nI m)) Q from ?_)
                  exact ih4 (.int (nI a)) (m + 1) (f + 1) (insS s a m) _ (by omega) (by omega) (by omega) (q2.uI' _ _ _ rfl) (srt_ins hS (by omega) (by omega) (fun j hj => by have u := srt_le hS (i := j) (j := a - 1) (by omega) (by omega); omega) (fun j u v => Nat.le_of_lt (hr j u v))) (fun j hj => by rw [nI_clamp (by omega)]; rcases Nat.lt_trichotomy j a with z | z | z; rw [rI_uI_at (by omega), ins_lt z]; exact ha2 j z; rw [z, rI_uI_eq, ins_eq]; rw [rI_uI_at (by omega), ins_gt z]; exact ha3 j z (by omega))
                · skip
                  have c4 : ¬ (wtK g kn m) ≤ (wtK g kn (s (a - 1))) := fun q => c4 ((nI_leI (a := (wtK g kn m)) (b := (wtK g kn (s (a - 1)))) (by omega) (by omega)).mpr q)
                  refine exf_go 8 (show Go d true 51 59 [.ref 71, .ref 77, .int (nI f), .int (nI m), .int (nI a)] [.int ((nI a) - 1), .ref 74, .int (nI a), .ref 74] h2 Q from ?_)
                  rw [show ((nI a) - 1 : Int32) = nI (a - 1) from pk_sub (a := a) (b := 1) (by omega)]
                  refine exf_go 1 (show vp_in (nI (a - 1)) 256 ∧ (Go d true 51 60 [.ref 71, .ref 77, .int (nI f), .int (nI m), .int (nI a)] [.int (rI h2 74 ((nI (a - 1)).toNatClampNeg)), .int (nI a), .ref 74] h2 Q) from ⟨(vp_in_nI (by omega) (by omega)), ?_⟩)
                  rw [show (rI h2 74 ((nI (a - 1)).toNatClampNeg) : Int32) = nI (s (a - 1)) from by rw [nI_clamp (by omega)]; exact ha2 _ (by omega)]
                  have hsc := hS.1 (a - 1) (by omega); have hsm := hcm2 (s (a - 1)) hsc.2
                  refine exf_go 2 (show vp_in (nI a) 256 ∧ (Go d true 51 64 [.ref 71, .ref 77, .int (nI f), .int (nI m), .int ((nI a) + (-1))] [] (uI h2 74 ((nI a).toNatClampNeg) (nI (s (a - 1)))) Q) from ⟨(vp_in_nI (by omega) (by omega)), ?_⟩)
                  rw [show ((nI a) + (-1) : Int32) = nI (a - 1) from nI_dec (n := a) (by omega)]
                  refine exf_go 1 (show Go d true 51 23 [.ref 71, .ref 77, .int (nI f), .int (nI m), .int (nI (a - 1))] [] (uI h2 74 ((nI a).toNatClampNeg) (nI (s (a - 1)))) Q from ?_)
                  exact ih23 (a - 1) _ (by omega) (by omega) (q2.uI' _ _ _ rfl) (fun j hj => by rw [nI_clamp (by omega), rI_uI_at (by omega)]; exact ha2 j (by omega)) (fun j u v => by rw [nI_clamp (by omega)]; exact (Decidable.em (j = a)).elim (fun e => by rw [e, rI_uI_eq]) (fun e => by rw [rI_uI_at e]; exact ha3 j (by omega) v)) (fun j u v => (Decidable.em (j = a - 1)).elim (fun e => by rw [e]; omega) (fun e => hr j (by omega) v))
          exact L23 (f + 1) f h1 (by omega) (by omega) q1 ha (fun j u v => absurd u (by omega)) (fun j u v => absurd u (by omega))
  exact L4 (256 + 1) mk_ 0 0 (fun _ => 0) h (by omega) (by omega) (by omega) Fq.rfl' ⟨fun j hj => absurd hj (Nat.not_lt_zero _), fun j hj => absurd hj (Nat.not_lt_zero _), fun i j _ hj => absurd hj (Nat.not_lt_zero _), fun i j hj => absurd hj (Nat.not_lt_zero _)⟩ (fun j hj => absurd hj (Nat.not_lt_zero _))
