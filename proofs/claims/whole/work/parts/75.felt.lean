/-! What was felt is marked anew; a call is taken back. -/
def sL3 (a _x : Nat) : Bool := Nat.ble 39 a && Nat.ble a 41
theorem cs_L3 {g : ShG} {h h1 : Hp} (cs : CS 31 g h) (q : Fq sL3 h h1) : CS 31 g h1 := cs_same cs (fun a h1 h2 => q.I (fun _ => by unfold sL3; rw [show Nat.ble 39 a = false from by rw [Bool.eq_false_iff]; intro z; have := Nat.ble_eq.mp z; omega]; rfl))
/-- a lock whose numbers may be marked wrongly by what was felt -/
def CLu (g : ShG) (l : LkG) (h : Hp) : Prop := LkW g l ∧ rI h 39 1 = nI (tot g) ∧ rI h 39 3 = nI (lA l) ∧ rI h 39 4 = lX l ∧ rI h 39 5 = lG l ∧ rI h 39 7 = nI (lO l) ∧ rI h 39 6 = nI (cntN (fun n => lT l n == 1) (tot g)) ∧ tot g ≤ al h 40 ∧ al h 40 < 2 ^ 31 ∧ (∀ n, n < tot g → ∃ b, b ≤ 1 ∧ rI h 40 n = nI (sH g n + 256 * lT l n + 512 * b + 1024 * nol g n)) ∧ ∀ w, w < sW g → rI h 41 w = nI (lF l w % 2 ^ sF g w)
theorem cel_0 {g : ShG} {l : LkG} {n b : Nat} (hg : ShW g) (hT : lT l n ≤ 1) (hb : b ≤ 1) (ha : agA g l n = 0) : nI (sH g n + 256 * lT l n + 512 * b + 1024 * nol g n) ||| 512 = nI (cel g l n) := by
  have h1 := sH_b hg n
  have h2 := nol_le g n
  rw [show (512 : Int32) = nI 512 from rfl, nI_or, or_unf _ (by omega)]
  refine congrArg nI ?_
  unfold cel
  rw [ha]
  split <;> omega
theorem cel_1 {g : ShG} {l : LkG} {n b : Nat} (hg : ShW g) (hT : lT l n ≤ 1) (hb : b ≤ 1) (ha : agA g l n = 1) : nI (sH g n + 256 * lT l n + 512 * b + 1024 * nol g n) &&& (-513) = nI (cel g l n) := by
  have h1 := sH_b hg n
  have h2 := nol_le g n
  rw [and_nunf _ (by omega)]
  refine congrArg nI ?_
  unfold cel
  rw [ha]
  split <;> omega
theorem btn_mod {x F f : Nat} (hf : f < F) : btn (x % 2 ^ F) f = btn x f := by
  obtain ⟨e, rfl⟩ : ∃ e, F = f + (e + 1) := ⟨F - f - 1, by omega⟩
  unfold btn
  rw [Nat.pow_add, Nat.mod_mul_right_div_self, Nat.pow_succ, Nat.mul_comm (2 ^ e), Nat.mod_mul_right_mod]
theorem agr_1 {g : ShG} {l : LkG} {n w : Nat} (h : agr g l n w = 0) : ∀ j, agr g l n (w + j) = 0
  | 0 => h
  | j + 1 => by rw [← Nat.add_assoc, agr, agr_1 h j, Nat.zero_mul]
theorem agr_e {g : ShG} {l : LkG} {n w : Nat} (h : agr g l n w = 0) (hw : w ≤ sW g) : agA g l n = 0 := by
  have := agr_1 h (sW g - w)
  rwa [show w + (sW g - w) = sW g from by omega] at this
theorem mu_end {g : ShG} {l : LkG} {h h1 : Hp} (clu : CLu g l h) (q : Fq (sAt 40) h h1) (hd : ∀ m, m < tot g → rI h1 40 m = nI (cel g l m)) : CL 39 g l h1 := by
  obtain ⟨c1, c2, c3, c4, c5, c6, c7, c8, c9, c10, c11⟩ := clu
  have e39 : rI h1 39 = rI h 39 := q.I (fun _ => rfl)
  have e41 : rI h1 41 = rI h 41 := q.I (fun _ => rfl)
  have hal : al h1 40 = al h 40 := q.L 40
  refine ⟨c1, by rw [e39]; exact c2, by rw [e39]; exact c3, by rw [e39]; exact c4, by rw [e39]; exact c5, by rw [e39]; exact c6, by rw [e39]; exact c7, by show _ ≤ al h1 40; rw [hal]; exact c8, by show al h1 40 < _; rw [hal]; exact c9, hd, fun w hw => ?_⟩
  show rI h1 41 w = _
  rw [e41]; exact c11 w hw
theorem c_unfelt {d : Nat} {h : Hp} {g : ShG} {l : LkG} {Q : Po} (cs : CS 31 g h) (clu : CLu g l h) (k : ∀ h1, Fq (sAt 40) h h1 → CL 39 g l h1 → Q mk_ h1) : wpC (d + 2) true 37 [.ref 39, .ref 31] h Q := by
  have hN := tot_b cs.1
  have h4 := cs.1.1
  have hal0 := clu.2.2.2.2.2.2.2.1; have hal9 := clu.2.2.2.2.2.2.2.2.1
  refine go_in rfl ?_
  refine exf_go 2 (show Go (d + 1) true 37 2 [.ref 39, .ref 31, .int 0, mk_, mk_] [] h Q from ?_)
  have L2 : ∀ (k2 : Nat) (z3 z4 : Value) (n : Nat) (h1 : Hp), (tot g - n) < k2 → (n ≤ tot g) → (Fq (sAt 40) h h1) → (∀ m, m < n → rI h1 40 m = nI (cel g l m)) → (∀ m, n ≤ m → rI h1 40 m = rI h 40 m) → Go (d + 1) true 37 2 [.ref 39, .ref 31, .int (nI n), z3, z4] [] h1 Q := by
    intro k2
    induction k2 with
    | zero => intro z3 z4 n h1 hk; exact absurd hk (Nat.not_lt_zero _)
    | succ k2 ih2 =>
      intro z3 z4 n h1 hk hn q1 hd hu
      have cs1 := cs_same cs (fun a u v => q1.I (a := a) (fun _ => by unfold sAt; rw [Bool.eq_false_iff]; intro z; have := Nat.eq_of_beq_eq_true z; omega))
      have hal1 : al h1 40 = al h 40 := q1.L 40
      have e39 : rI h1 39 = rI h 39 := q1.I (fun _ => rfl)
      have e41 : rI h1 41 = rI h 41 := q1.I (fun _ => rfl)
      have hTn := clu.1.2.2.1 n
      refine exf_go 3 (show Go (d + 1) true 37 7 [.ref 39, .ref 31, .int (nI n), z3, z4] [.int (rI h1 39 1), .int (nI n)] h1 Q from ?_)
      rw [show (rI h1 39 1 : Int32) = nI (tot g) from by rw [e39]; exact clu.2.1]
      refine exf_go 1 (show ((nI (tot g)) ≤ (nI n) → Go (d + 1) true 37 100 [.ref 39, .ref 31, .int (nI n), z3, z4] [] h1 Q) ∧ (¬ ((nI (tot g)) ≤ (nI n)) → Go (d + 1) true 37 10 [.ref 39, .ref 31, .int (nI n), z3, z4] [] h1 Q) from ⟨fun c1 => ?_, fun c1 => ?_⟩)
      · skip
        have c1 : (tot g) ≤ n := (nI_leI (a := (tot g)) (b := n) (by omega) (by omega)).mp c1
        refine exf_go 1 (show Q (mk_) h1 from ?_)
        exact k h1 q1 (mu_end clu q1 (fun m hm => hd m (by omega)))
      · skip
        have c1 : ¬ (tot g) ≤ n := fun q => c1 ((nI_leI (a := (tot g)) (b := n) (by omega) (by omega)).mpr q)
        refine exf_go 4 (show Go (d + 1) true 37 15 [.ref 39, .ref 31, .int (nI n), .int 1, .int 0] [] h1 Q from ?_)
        have L15 : ∀ (k15 : Nat) (w a : Nat), (sW g - w) < k15 → (w ≤ sW g) → (a = agr g l n w) → Go (d + 1) true 37 15 [.ref 39, .ref 31, .int (nI n), .int (nI a), .int (nI w)] [] h1 Q := by
          intro k15
          induction k15 with
          | zero => intro w a hk; exact absurd hk (Nat.not_lt_zero _)
          | succ k15 ih15 =>
            intro w a hk hw ha
            have hal := agr_le g l n w
            have hfb := sF_b cs.1 w
            have hlf := clu.1.2.2.2 w
            have hlm := Nat.mod_le (lF l w) (2 ^ sF g w)
            have hbl := btn_le (lF l w % 2 ^ sF g w) (fgo g n w)
            refine exf_go 3 (show Go (d + 1) true 37 21 [.ref 39, .ref 31, .int (nI n), .int (nI a), .int (nI w)] [.int (rI h1 31 0), .int (nI w)] h1 Q from ?_)
            rw [show (rI h1 31 0 : Int32) = nI (sW g) from cs_W cs1]
            refine exf_go 1 (show ((nI (sW g)) ≤ (nI w) → Go (d + 1) true 37 61 [.ref 39, .ref 31, .int (nI n), .int (nI a), .int (nI w)] [] h1 Q) ∧ (¬ ((nI (sW g)) ≤ (nI w)) → Go (d + 1) true 37 24 [.ref 39, .ref 31, .int (nI n), .int (nI a), .int (nI w)] [] h1 Q) from ⟨fun c2 => ?_, fun c2 => ?_⟩)
            · skip
              have c2 : (sW g) ≤ w := (nI_leI (a := (sW g)) (b := w) (by omega) (by omega)).mp c2
              refine exf_go 5 (show ((nI a) = 0 → Go (d + 1) true 37 83 [.ref 39, .ref 31, .int (nI n), .int (nI a), .int (nI w)] [.int (nI n), .ref 40] h1 Q) ∧ (¬ ((nI a) = 0) → Go (d + 1) true 37 70 [.ref 39, .ref 31, .int (nI n), .int (nI a), .int (nI w)] [.int (nI n), .ref 40] h1 Q) from ⟨fun c3 => ?_, fun c3 => ?_⟩)
              · skip
                have c3 : a = 0 := (nI_eq (a := a) (b := 0) (by omega) (by omega)).mp c3
                obtain ⟨bb, hbb, ebb⟩ := clu.2.2.2.2.2.2.2.2.2.1 n (by omega)
                refine exf_go 4 (show vp_in (nI n) (al h1 40) ∧ (Go (d + 1) true 37 89 [.ref 39, .ref 31, .int (nI n), .int (nI a), .int (nI w)] [.int (rI h1 40 ((nI n).toNatClampNeg)), .int (nI n), .ref 40] h1 Q) from ⟨(by rw [hal1]; exact vp_in_nI (by omega) (by omega)), ?_⟩)
                rw [show (rI h1 40 ((nI n).toNatClampNeg) : Int32) = nI (sH g n + 256 * lT l n + 512 * bb + 1024 * nol g n) from by rw [nI_clamp (by omega), hu n (Nat.le_refl _)]; exact ebb]
                refine exf_go 2 (show Go (d + 1) true 37 93 [.ref 39, .ref 31, .int (nI n), .int (nI a), .int (nI w)] [.int ((nI (sH g n + 256 * lT l n + 512 * bb + 1024 * nol g n)) ||| 512), .int (nI n), .ref 40] h1 Q from ?_)
                rw [show ((nI (sH g n + 256 * lT l n + 512 * bb + 1024 * nol g n)) ||| 512 : Int32) = nI (cel g l n) from cel_0 cs.1 hTn hbb (agr_e (w := w) (by omega) hw)]
                refine exf_go 2 (show vp_in (nI n) (al h1 40) ∧ (Go (d + 1) true 37 97 [.ref 39, .ref 31, .int ((nI n) + 1), .int (nI a), .int (nI w)] [] (uI h1 40 ((nI n).toNatClampNeg) (nI (cel g l n))) Q) from ⟨(by rw [hal1]; exact vp_in_nI (by omega) (by omega)), ?_⟩)
                rw [show ((nI n) + 1 : Int32) = nI (n + 1) from nI_add n 1]
                refine exf_go 1 (show Go (d + 1) true 37 2 [.ref 39, .ref 31, .int (nI (n + 1)), .int (nI a), .int (nI w)] [] (uI h1 40 ((nI n).toNatClampNeg) (nI (cel g l n))) Q from ?_)
                exact ih2 (.int (nI a)) (.int (nI w)) (n + 1) _ (by omega) (by omega) (q1.uI' _ _ _ rfl) (fun m hm => by rw [nI_clamp (by omega)]; exact (Decidable.em (m = n)).elim (fun e => by rw [e, rI_uI_eq]) (fun e => by rw [rI_uI_at e]; exact hd m (by omega))) (fun m hm => by rw [nI_clamp (by omega), rI_uI_at (by omega)]; exact hu m (by omega))
              · skip
                have c3 : ¬ a = 0 := fun q => c3 ((nI_eq (a := a) (b := 0) (by omega) (by omega)).mpr q)
                obtain ⟨bb, hbb, ebb⟩ := clu.2.2.2.2.2.2.2.2.2.1 n (by omega)
                refine exf_go 4 (show vp_in (nI n) (al h1 40) ∧ (Go (d + 1) true 37 76 [.ref 39, .ref 31, .int (nI n), .int (nI a), .int (nI w)] [.int (rI h1 40 ((nI n).toNatClampNeg)), .int (nI n), .ref 40] h1 Q) from ⟨(by rw [hal1]; exact vp_in_nI (by omega) (by omega)), ?_⟩)
                rw [show (rI h1 40 ((nI n).toNatClampNeg) : Int32) = nI (sH g n + 256 * lT l n + 512 * bb + 1024 * nol g n) from by rw [nI_clamp (by omega), hu n (Nat.le_refl _)]; exact ebb]
                refine exf_go 2 (show Go (d + 1) true 37 80 [.ref 39, .ref 31, .int (nI n), .int (nI a), .int (nI w)] [.int ((nI (sH g n + 256 * lT l n + 512 * bb + 1024 * nol g n)) &&& (-513)), .int (nI n), .ref 40] h1 Q from ?_)
                rw [show ((nI (sH g n + 256 * lT l n + 512 * bb + 1024 * nol g n)) &&& (-513) : Int32) = nI (cel g l n) from cel_1 cs.1 hTn hbb (show agA g l n = 1 from by unfold agA; rw [← show w = sW g from by omega]; omega)]
                refine exf_go 3 (show vp_in (nI n) (al h1 40) ∧ (Go (d + 1) true 37 97 [.ref 39, .ref 31, .int ((nI n) + 1), .int (nI a), .int (nI w)] [] (uI h1 40 ((nI n).toNatClampNeg) (nI (cel g l n))) Q) from ⟨(by rw [hal1]; exact vp_in_nI (by omega) (by omega)), ?_⟩)
                rw [show ((nI n) + 1 : Int32) = nI (n + 1) from nI_add n 1]
                refine exf_go 1 (show Go (d + 1) true 37 2 [.ref 39, .ref 31, .int (nI (n + 1)), .int (nI a), .int (nI w)] [] (uI h1 40 ((nI n).toNatClampNeg) (nI (cel g l n))) Q from ?_)
                exact ih2 (.int (nI a)) (.int (nI w)) (n + 1) _ (by omega) (by omega) (q1.uI' _ _ _ rfl) (fun m hm => by rw [nI_clamp (by omega)]; exact (Decidable.em (m = n)).elim (fun e => by rw [e, rI_uI_eq]) (fun e => by rw [rI_uI_at e]; exact hd m (by omega))) (fun m hm => by rw [nI_clamp (by omega), rI_uI_at (by omega)]; exact hu m (by omega))
            · skip
              have c2 : ¬ (sW g) ≤ w := fun q => c2 ((nI_leI (a := (sW g)) (b := w) (by omega) (by omega)).mpr q)
              refine exf_go 2 (show ((nI a) = 0 → Go (d + 1) true 37 61 [.ref 39, .ref 31, .int (nI n), .int (nI a), .int (nI w)] [] h1 Q) ∧ (¬ ((nI a) = 0) → Go (d + 1) true 37 28 [.ref 39, .ref 31, .int (nI n), .int (nI a), .int (nI w)] [] h1 Q) from ⟨fun c4 => ?_, fun c4 => ?_⟩)
              · skip
                have c4 : a = 0 := (nI_eq (a := a) (b := 0) (by omega) (by omega)).mp c4
                refine exf_go 5 (show ((nI a) = 0 → Go (d + 1) true 37 83 [.ref 39, .ref 31, .int (nI n), .int (nI a), .int (nI w)] [.int (nI n), .ref 40] h1 Q) ∧ (¬ ((nI a) = 0) → Go (d + 1) true 37 70 [.ref 39, .ref 31, .int (nI n), .int (nI a), .int (nI w)] [.int (nI n), .ref 40] h1 Q) from ⟨fun c5 => ?_, fun c5 => ?_⟩)
                · skip
                  have c5 : a = 0 := (nI_eq (a := a) (b := 0) (by omega) (by omega)).mp c5
                  obtain ⟨bb, hbb, ebb⟩ := clu.2.2.2.2.2.2.2.2.2.1 n (by omega)
                  refine exf_go 4 (show vp_in (nI n) (al h1 40) ∧ (Go (d + 1) true 37 89 [.ref 39, .ref 31, .int (nI n), .int (nI a), .int (nI w)] [.int (rI h1 40 ((nI n).toNatClampNeg)), .int (nI n), .ref 40] h1 Q) from ⟨(by rw [hal1]; exact vp_in_nI (by omega) (by omega)), ?_⟩)
                  rw [show (rI h1 40 ((nI n).toNatClampNeg) : Int32) = nI (sH g n + 256 * lT l n + 512 * bb + 1024 * nol g n) from by rw [nI_clamp (by omega), hu n (Nat.le_refl _)]; exact ebb]
                  refine exf_go 2 (show Go (d + 1) true 37 93 [.ref 39, .ref 31, .int (nI n), .int (nI a), .int (nI w)] [.int ((nI (sH g n + 256 * lT l n + 512 * bb + 1024 * nol g n)) ||| 512), .int (nI n), .ref 40] h1 Q from ?_)
                  rw [show ((nI (sH g n + 256 * lT l n + 512 * bb + 1024 * nol g n)) ||| 512 : Int32) = nI (cel g l n) from cel_0 cs.1 hTn hbb (agr_e (w := w) (by omega) hw)]
                  refine exf_go 2 (show vp_in (nI n) (al h1 40) ∧ (Go (d + 1) true 37 97 [.ref 39, .ref 31, .int ((nI n) + 1), .int (nI a), .int (nI w)] [] (uI h1 40 ((nI n).toNatClampNeg) (nI (cel g l n))) Q) from ⟨(by rw [hal1]; exact vp_in_nI (by omega) (by omega)), ?_⟩)
                  rw [show ((nI n) + 1 : Int32) = nI (n + 1) from nI_add n 1]
                  refine exf_go 1 (show Go (d + 1) true 37 2 [.ref 39, .ref 31, .int (nI (n + 1)), .int (nI a), .int (nI w)] [] (uI h1 40 ((nI n).toNatClampNeg) (nI (cel g l n))) Q from ?_)
                  exact ih2 (.int (nI a)) (.int (nI w)) (n + 1) _ (by omega) (by omega) (q1.uI' _ _ _ rfl) (fun m hm => by rw [nI_clamp (by omega)]; exact (Decidable.em (m = n)).elim (fun e => by rw [e, rI_uI_eq]) (fun e => by rw [rI_uI_at e]; exact hd m (by omega))) (fun m hm => by rw [nI_clamp (by omega), rI_uI_at (by omega)]; exact hu m (by omega))
                · skip
                  have c5 : ¬ a = 0 := fun q => c5 ((nI_eq (a := a) (b := 0) (by omega) (by omega)).mpr q)
                  obtain ⟨bb, hbb, ebb⟩ := clu.2.2.2.2.2.2.2.2.2.1 n (by omega)
                  refine exf_go 4 (show vp_in (nI n) (al h1 40) ∧ (Go (d + 1) true 37 76 [.ref 39, .ref 31, .int (nI n), .int (nI a), .int (nI w)] [.int (rI h1 40 ((nI n).toNatClampNeg)), .int (nI n), .ref 40] h1 Q) from ⟨(by rw [hal1]; exact vp_in_nI (by omega) (by omega)), ?_⟩)
                  rw [show (rI h1 40 ((nI n).toNatClampNeg) : Int32) = nI (sH g n + 256 * lT l n + 512 * bb + 1024 * nol g n) from by rw [nI_clamp (by omega), hu n (Nat.le_refl _)]; exact ebb]
                  refine exf_go 2 (show Go (d + 1) true 37 80 [.ref 39, .ref 31, .int (nI n), .int (nI a), .int (nI w)] [.int ((nI (sH g n + 256 * lT l n + 512 * bb + 1024 * nol g n)) &&& (-513)), .int (nI n), .ref 40] h1 Q from ?_)
                  rw [show ((nI (sH g n + 256 * lT l n + 512 * bb + 1024 * nol g n)) &&& (-513) : Int32) = nI (cel g l n) from cel_1 cs.1 hTn hbb (show agA g l n = 1 from by unfold agA; rw [← show w = sW g from by omega]; omega)]
                  refine exf_go 3 (show vp_in (nI n) (al h1 40) ∧ (Go (d + 1) true 37 97 [.ref 39, .ref 31, .int ((nI n) + 1), .int (nI a), .int (nI w)] [] (uI h1 40 ((nI n).toNatClampNeg) (nI (cel g l n))) Q) from ⟨(by rw [hal1]; exact vp_in_nI (by omega) (by omega)), ?_⟩)
                  rw [show ((nI n) + 1 : Int32) = nI (n + 1) from nI_add n 1]
                  refine exf_go 1 (show Go (d + 1) true 37 2 [.ref 39, .ref 31, .int (nI (n + 1)), .int (nI a), .int (nI w)] [] (uI h1 40 ((nI n).toNatClampNeg) (nI (cel g l n))) Q from ?_)
                  exact ih2 (.int (nI a)) (.int (nI w)) (n + 1) _ (by omega) (by omega) (q1.uI' _ _ _ rfl) (fun m hm => by rw [nI_clamp (by omega)]; exact (Decidable.em (m = n)).elim (fun e => by rw [e, rI_uI_eq]) (fun e => by rw [rI_uI_at e]; exact hd m (by omega))) (fun m hm => by rw [nI_clamp (by omega), rI_uI_at (by omega)]; exact hu m (by omega))
              · skip
                have c4 : ¬ a = 0 := fun q => c4 ((nI_eq (a := a) (b := 0) (by omega) (by omega)).mpr q)
                refine exf_go 4 (show vp_in (nI w) 4 ∧ (Go (d + 1) true 37 35 [.ref 39, .ref 31, .int (nI n), .int (nI a), .int (nI w)] [.int (rI h1 41 ((nI w).toNatClampNeg))] h1 Q) from ⟨(vp_in_nI (by omega) (by omega)), ?_⟩)
                rw [show (rI h1 41 ((nI w).toNatClampNeg) : Int32) = nI (lF l w % 2 ^ sF g w) from by rw [e41, nI_clamp (by omega)]; exact clu.2.2.2.2.2.2.2.2.2.2 _ (by omega)]
                refine exf_go 4 (show wpC (d + 1) true 81 [.ref 31, .int (nI n), .int (nI w)] h1 (fun r h' => Go (d + 1) true 37 42 [.ref 39, .ref 31, .int (nI n), .int (nI a), .int (nI w)] [r, .int (nI (lF l w % 2 ^ sF g w))] h' Q) from ?_)
                refine c_figureOf cs1 (by omega) (by omega) ?_
                have := fgo_lt cs.1 n w; have := sF_b cs.1 w
                show Go (d + 1) true 37 42 [.ref 39, .ref 31, .int (nI n), .int (nI a), .int (nI w)] [.int (nI (fgo g n w)), .int (nI (lF l w % 2 ^ sF g w))] h1 Q
                refine exf_go 1 (show Go (d + 1) true 37 43 [.ref 39, .ref 31, .int (nI n), .int (nI a), .int (nI w)] [.int ((nI (lF l w % 2 ^ sF g w)) >>> ((nI (fgo g n w)) &&& 31))] h1 Q from ?_)
                rw [show ((nI (lF l w % 2 ^ sF g w)) >>> ((nI (fgo g n w)) &&& 31) : Int32) = nI ((lF l w % 2 ^ sF g w) / 2 ^ (fgo g n w)) from nI_shr (a := (lF l w % 2 ^ sF g w)) (k := (fgo g n w)) (by omega) (by omega)]
                refine exf_go 2 (show Go (d + 1) true 37 45 [.ref 39, .ref 31, .int (nI n), .int (nI a), .int (nI w)] [.int ((nI ((lF l w % 2 ^ sF g w) / 2 ^ (fgo g n w))) &&& 1)] h1 Q from ?_)
                rw [show ((nI ((lF l w % 2 ^ sF g w) / 2 ^ (fgo g n w))) &&& 1 : Int32) = nI (btn (lF l w % 2 ^ sF g w) (fgo g n w)) from nI_low1 (Nat.lt_of_le_of_lt (Nat.div_le_self _ _) (by omega))]
                refine exf_go 2 (show (¬ (nI (btn (lF l w % 2 ^ sF g w) (fgo g n w))) = 1 → Go (d + 1) true 37 53 [.ref 39, .ref 31, .int (nI n), .int (nI a), .int (nI w)] [] h1 Q) ∧ (¬ (¬ (nI (btn (lF l w % 2 ^ sF g w) (fgo g n w))) = 1) → Go (d + 1) true 37 49 [.ref 39, .ref 31, .int (nI n), .int (nI a), .int (nI w)] [] h1 Q) from ⟨fun c6 => ?_, fun c6 => ?_⟩)
                · skip
                  have c6 : ¬ (btn (lF l w % 2 ^ sF g w) (fgo g n w)) = 1 := fun q => c6 ((nI_eq (a := (btn (lF l w % 2 ^ sF g w) (fgo g n w))) (b := 1) (by omega) (by omega)).mpr q)
                  refine exf_go 3 (show Go (d + 1) true 37 58 [.ref 39, .ref 31, .int (nI n), .int 0, .int ((nI w) + 1)] [] h1 Q from ?_)
                  rw [show ((nI w) + 1 : Int32) = nI (w + 1) from nI_add w 1]
                  refine exf_go 1 (show Go (d + 1) true 37 15 [.ref 39, .ref 31, .int (nI n), .int 0, .int (nI (w + 1))] [] h1 Q from ?_)
                  exact ih15 (w + 1) 0 (by omega) (by omega) (by rw [agr, ← show btn (lF l w % 2 ^ sF g w) (fgo g n w) = btn (lF l w) (fgo g n w) from btn_mod (fgo_lt cs.1 n w), ← ha, show a = 1 from by omega, Nat.one_mul]; omega)
                · skip
                  have c6 : (btn (lF l w % 2 ^ sF g w) (fgo g n w)) = 1 := (nI_eq (a := (btn (lF l w % 2 ^ sF g w) (fgo g n w))) (b := 1) (by omega) (by omega)).mp (Classical.not_not.mp c6)
                  refine exf_go 4 (show Go (d + 1) true 37 58 [.ref 39, .ref 31, .int (nI n), .int 1, .int ((nI w) + 1)] [] h1 Q from ?_)
                  rw [show ((nI w) + 1 : Int32) = nI (w + 1) from nI_add w 1]
                  refine exf_go 1 (show Go (d + 1) true 37 15 [.ref 39, .ref 31, .int (nI n), .int 1, .int (nI (w + 1))] [] h1 Q from ?_)
                  exact ih15 (w + 1) 1 (by omega) (by omega) (by rw [agr, ← show btn (lF l w % 2 ^ sF g w) (fgo g n w) = btn (lF l w) (fgo g n w) from btn_mod (fgo_lt cs.1 n w), ← ha, show a = 1 from by omega, Nat.one_mul]; omega)
        exact L15 (sW g + 1) 0 1 (by omega) (by omega) rfl
  exact L2 (tot g + 1) mk_ mk_ 0 h (by omega) (by omega) Fq.rfl' (fun m hm => absurd hm (Nat.not_lt_zero _)) (fun m hm => rfl)
