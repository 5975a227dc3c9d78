/-! Shares; the ranking as a whole. -/
def s56 (a _i : Nat) : Bool := Nat.beq a 75 || Nat.beq a 76
theorem s56_R (a i : Nat) (h : scR a i = false) : s56 a i = false := by
  unfold s56
  cases e : Nat.beq a 75 with
  | true => rw [Nat.eq_of_beq_eq_true e] at h; exact Bool.noConfusion h
  | false =>
    cases e2 : Nat.beq a 76 with
    | true => rw [Nat.eq_of_beq_eq_true e2] at h; exact Bool.noConfusion h
    | false => rfl
/-- the numbers that E takes, by weight, lie in the class's row -/
def RKd (E : Nat → Bool) (g : ShG) (kn : Nat) (h : Hp) : Prop := rI h 71 1 = nI (cntN E (tot g)) ∧ (∀ n, n < tot g → E n = true → rI h 72 (pos E (key g kn) (tot g) n) = nI n) ∧ tot g ≤ rL h 72 ∧ rL h 72 ≤ 50000
def kyw (g : ShG) (kn m : Nat) : Nat := 100000000 - wtK g kn m
/-- each mask's leader and where its stretch has come to -/
def LDR (E : Nat → Bool) (g : ShG) (kn n : Nat) (ld : Nat → Nat) (h : Hp) : Prop := ∀ m, 0 < cMk E (sH g) (tot g) m → rI h 75 m = nI (ld m) ∧ rI h 76 (ld m) = nI (fnB E (key g kn) (tot g) n (kyw g kn m))
def LDW (E : Nat → Bool) (g : ShG) (kn : Nat) (ld : Nat → Nat) : Prop := ∀ m, 0 < cMk E (sH g) (tot g) m → ld m < 256 ∧ ∀ m2, 0 < cMk E (sH g) (tot g) m2 → (ld m = ld m2 ↔ wtK g kn m = wtK g kn m2)
theorem ld_no {E : Nat → Bool} {g : ShG} {kn n : Nat} {ld : Nat → Nat} {h : Hp} (L : LDR E g kn n ld h) (he : E n = false) : LDR E g kn (n + 1) ld h := fun m hm => by
  rw [fn_no he]; exact L m hm
theorem kyw_eq {g : ShG} (hg : ShW g) {kn a b : Nat} : kyw g kn a = kyw g kn b ↔ wtK g kn a = wtK g kn b := by
  have h1 := wtK_b hg kn a
  have h2 := wtK_b hg kn b
  unfold kyw
  omega
theorem ld_y {E : Nat → Bool} {g : ShG} {kn n : Nat} {ld : Nat → Nat} {h : Hp} (hg : ShW g) (hn : n < tot g) (W : LDW E g kn ld) (L : LDR E g kn n ld h) (he : E n = true) (q : Nat) (v : Int32) : LDR E g kn (n + 1) ld (uI (uI h 72 q v) 76 (ld (sH g n)) (nI (pos E (key g kn) (tot g) n + 1))) := fun m hm => by
  have hc : 0 < cMk E (sH g) (tot g) (sH g n) := Nat.lt_of_le_of_lt (Nat.zero_le _) (cnt_lt hn (p := fun k => E k && decide (sH g k = sH g n)) (by simp [he]))
  have e75 : rI (uI (uI h 72 q v) 76 (ld (sH g n)) (nI (pos E (key g kn) (tot g) n + 1))) 75 = rI h 75 := by rw [rI_uI_ne (by decide), rI_uI_ne (by decide)]
  rw [e75]
  refine ⟨(L m hm).1, ?_⟩
  have hi := (W m hm).2 (sH g n) hc
  by_cases q2 : ld m = ld (sH g n)
  · have e := (kyw_eq hg).mpr (hi.mp q2)
    rw [q2, rI_uI_eq, e]
    exact congrArg nI (fn_hit he)
  · rw [rI_uI_at q2, rI_uI_ne (by decide), fn_miss (rk := key g kn) (n := n) (fun z => q2 (hi.mpr ((kyw_eq hg).mp z)))]
    exact (L m hm).2
/-- from the sorted masks to each mask -/
theorem ld_of {E : Nat → Bool} {g : ShG} {kn f : Nat} {s : Nat → Nat} {h : Hp} (hS : Srt (wtK g kn) (cMk E (sH g) (tot g)) 256 f s) (hg : ShW g) (h5 : ∀ j, j < f → rI h 75 (s j) = nI (Lf (wtK g kn) s j)) (h6 : ∀ j, j < f → rI h 76 (Lf (wtK g kn) s j) = nI (cLt E (key g kn) (kyw g kn (s j)) (tot g))) : ∃ ld, LDW E g kn ld ∧ LDR E g kn 0 ld h := by
  have hm : ∀ m, 0 < cMk E (sH g) (tot g) m → ∃ j, j < f ∧ s j = m := fun m hm => hS.2.1 m (by have := cMk_in hg hm; have := evr_b hg; omega) hm
  have hlt : ∀ j, j < f → Lf (wtK g kn) s j < 256 := fun j hj => by
    obtain ⟨i, hi, e⟩ := Lf_in (wtK g kn) s j
    rw [e]; exact (hS.1 i (by omega)).1
  have hld : ∀ m j, j < f → s j = m → (rI h 75 m).toNatClampNeg = Lf (wtK g kn) s j := fun m j hj e => by
    have := hlt j hj
    rw [← e, h5 j hj, nI_clamp (by omega)]
  refine ⟨fun m => (rI h 75 m).toNatClampNeg, fun m h1 => ?_, fun m h1 => ?_⟩
  · obtain ⟨j, hj, e⟩ := hm m h1
    refine ⟨by show (rI h 75 m).toNatClampNeg < 256; rw [hld m j hj e]; exact hlt j hj, fun m2 h2 => ?_⟩
    obtain ⟨i, hi, e2⟩ := hm m2 h2
    show (rI h 75 m).toNatClampNeg = (rI h 75 m2).toNatClampNeg ↔ _
    rw [hld m j hj e, hld m2 i hi e2, Lf_iff hS hj hi, e, e2]
  · obtain ⟨j, hj, e⟩ := hm m h1
    show rI h 75 m = nI ((rI h 75 m).toNatClampNeg) ∧ rI h 76 (rI h 75 m).toNatClampNeg = _
    rw [hld m j hj e]
    refine ⟨by rw [← e]; exact h5 j hj, ?_⟩
    rw [h6 j hj, e]; rfl
theorem pos_fn (E : Nat → Bool) (g : ShG) (kn n : Nat) : fnB E (key g kn) (tot g) n (kyw g kn (sH g n)) = pos E (key g kn) (tot g) n := rfl
theorem c_share37 {d : Nat} {h : Hp} {g : ShG} {kn f : Nat} {E : Nat → Bool} {s : Nat → Nat} {Q : Po} (cs : CS 31 g h) (hw : WT 37 g kn h) (hc : ∀ m, m < 256 → rI h 73 m = nI (cMk E (sH g) (tot g) m)) (hS : Srt (wtK g kn) (cMk E (sH g) (tot g)) 256 f s) (ha : ∀ j, j < f → rI h 74 j = nI (s j)) (hf : f ≤ 256) (k : ∀ h1, Fq s56 h h1 → (∀ j, j < f → rI h1 75 (s j) = nI (Lf (wtK g kn) s j)) → (∀ j, j < f → rI h1 76 (Lf (wtK g kn) s j) = nI (cLt E (key g kn) (kyw g kn (s j)) (tot g))) → Q mk_ h1) : wpC (d + 1) true 52 [.ref 71, .int (nI f), .ref 37] h Q := by
  have he := evr_b cs.1
  have hN := tot_b cs.1
  refine go_in rfl ?_
  refine exf_go 6 (show Go d true 52 8 [.ref 71, .int (nI f), .ref 37, .int 0, .int 0, .int 0, mk_] [] h Q from ?_)
  have L8 : ∀ (k8 : Nat) (z6 : Value) (i st ld : Nat) (h1 : Hp), (f - i) < k8 → (i ≤ f) → (ld < 2 ^ sC g) → (Fq s56 h h1) → (st = sumN (fun j => cMk E (sH g) (tot g) (s j)) i) → (i = 0 ∨ ld = Lf (wtK g kn) s (i - 1)) → (∀ j, j < i → rI h1 75 (s j) = nI (Lf (wtK g kn) s j)) → (∀ j, j < i → rI h1 76 (Lf (wtK g kn) s j) = nI (cLt E (key g kn) (kyw g kn (s j)) (tot g))) → Go d true 52 8 [.ref 71, .int (nI f), .ref 37, .int (nI st), .int (nI ld), .int (nI i), z6] [] h1 Q := by
    intro k8
    induction k8 with
    | zero => intro z6 i st ld h1 hk; exact absurd hk (Nat.not_lt_zero _)
    | succ k8 ih8 =>
      intro z6 i st ld h1 hk hi hl2 q1 hst hld h5 h6
      have hw1 : WT 37 g kn h1 := fun m hm => by rw [q1.I (a := 37) (fun _ => rfl)]; exact hw m hm
      refine exf_go 3 (show ((nI f) ≤ (nI i) → Go d true 52 76 [.ref 71, .int (nI f), .ref 37, .int (nI st), .int (nI ld), .int (nI i), z6] [] h1 Q) ∧ (¬ ((nI f) ≤ (nI i)) → Go d true 52 14 [.ref 71, .int (nI f), .ref 37, .int (nI st), .int (nI ld), .int (nI i), z6] [] h1 Q) from ⟨fun c1 => ?_, fun c1 => ?_⟩)
      · skip
        have c1 : f ≤ i := (nI_leI (a := f) (b := i) (by omega) (by omega)).mp c1
        refine exf_go 1 (show Q (mk_) h1 from ?_)
        exact k h1 q1 (fun j hj => h5 j (by omega)) (fun j hj => h6 j (by omega))
      · skip
        have c1 : ¬ f ≤ i := fun q => c1 ((nI_leI (a := f) (b := i) (by omega) (by omega)).mpr q)
        refine exf_go 4 (show vp_in (nI i) 256 ∧ (Go d true 52 21 [.ref 71, .int (nI f), .ref 37, .int (nI st), .int (nI ld), .int (nI i), z6] [.int (rI h1 74 ((nI i).toNatClampNeg))] h1 Q) from ⟨(vp_in_nI (by omega) (by omega)), ?_⟩)
        rw [show (rI h1 74 ((nI i).toNatClampNeg) : Int32) = nI (s i) from by rw [q1.I (a := 74) (fun _ => rfl), nI_clamp (by omega)]; exact ha _ (by omega)]
        have hsc := hS.1 i (by omega); have hsm := cMk_in cs.1 hsc.2; have hcb := cMk_le E (sH g) (tot g) (s i)
        have hne : ∀ j, j < i → s j ≠ s i := fun j hj q => by have := hS.2.2.2 j i (by omega) (by omega) q; omega
        have hne2 : ∀ j, j < i → Lf (wtK g kn) s j ≠ s i := fun j hj q => by obtain ⟨x, hx, e⟩ := Lf_in (wtK g kn) s j; exact hne x (by omega) (e ▸ q)
        refine exf_go 3 (show ((nI i) = 0 → Go d true 52 39 [.ref 71, .int (nI f), .ref 37, .int (nI st), .int (nI ld), .int (nI i), .int (nI (s i))] [] h1 Q) ∧ (¬ ((nI i) = 0) → Go d true 52 28 [.ref 71, .int (nI f), .ref 37, .int (nI st), .int (nI ld), .int (nI i), .int (nI (s i))] [] h1 Q) from ⟨fun c2 => ?_, fun c2 => ?_⟩)
        · skip
          have c2 : i = 0 := (nI_eq (a := i) (b := 0) (by omega) (by omega)).mp c2
          have hLf := Lf_new (w := (wtK g kn)) (s := s) (Or.inl c2)
          refine exf_go 17 (show vp_in (nI (s i)) 256 ∧ vp_in (nI (s i)) 256 ∧ vp_in (nI (s i)) 256 ∧ (Go d true 52 68 [.ref 71, .int (nI f), .ref 37, .int (nI st), .int (nI (s i)), .int (nI i), .int (nI (s i))] [.int (rI h1 73 ((nI (s i)).toNatClampNeg)), .int (nI st)] (uI (uI h1 76 ((nI (s i)).toNatClampNeg) (nI st)) 75 ((nI (s i)).toNatClampNeg) (nI (s i))) Q) from ⟨(vp_in_nI (by omega) (by omega)), (vp_in_nI (by omega) (by omega)), (vp_in_nI (by omega) (by omega)), ?_⟩)
          rw [show (rI h1 73 ((nI (s i)).toNatClampNeg) : Int32) = nI (cMk E (sH g) (tot g) (s i)) from by rw [q1.I (a := 73) (fun _ => rfl), nI_clamp (by omega)]; exact hc _ (by omega)]
          refine exf_go 1 (show Go d true 52 69 [.ref 71, .int (nI f), .ref 37, .int (nI st), .int (nI (s i)), .int (nI i), .int (nI (s i))] [.int ((nI st) + (nI (cMk E (sH g) (tot g) (s i))))] (uI (uI h1 76 ((nI (s i)).toNatClampNeg) (nI st)) 75 ((nI (s i)).toNatClampNeg) (nI (s i))) Q from ?_)
          rw [show ((nI st) + (nI (cMk E (sH g) (tot g) (s i))) : Int32) = nI (st + (cMk E (sH g) (tot g) (s i))) from nI_add st (cMk E (sH g) (tot g) (s i))]
          refine exf_go 2 (show Go d true 52 73 [.ref 71, .int (nI f), .ref 37, .int (nI (st + (cMk E (sH g) (tot g) (s i)))), .int (nI (s i)), .int ((nI i) + 1), .int (nI (s i))] [] (uI (uI h1 76 ((nI (s i)).toNatClampNeg) (nI st)) 75 ((nI (s i)).toNatClampNeg) (nI (s i))) Q from ?_)
          rw [show ((nI i) + 1 : Int32) = nI (i + 1) from nI_add i 1]
          refine exf_go 1 (show Go d true 52 8 [.ref 71, .int (nI f), .ref 37, .int (nI (st + (cMk E (sH g) (tot g) (s i)))), .int (nI (s i)), .int (nI (i + 1)), .int (nI (s i))] [] (uI (uI h1 76 ((nI (s i)).toNatClampNeg) (nI st)) 75 ((nI (s i)).toNatClampNeg) (nI (s i))) Q from ?_)
          exact ih8 (.int (nI (s i))) (i + 1) (st + (cMk E (sH g) (tot g) (s i))) (s i) _ (by omega) (by omega) (by omega) ((q1.uI' _ _ _ rfl).uI' _ _ _ rfl) (by rw [hst, sumN]) (Or.inr (by rw [Nat.add_sub_cancel, hLf])) (fun j hj => by rw [nI_clamp (by omega)]; exact (Decidable.em (j = i)).elim (fun e => by rw [e, rI_uI_eq, hLf]) (fun e => by rw [rI_uI_at (hne j (by omega)), rI_uI_ne (by decide)]; exact h5 j (by omega))) (fun j hj => by rw [rI_uI_ne (by decide), nI_clamp (by omega)]; exact (Decidable.em (j = i)).elim (fun e => by rw [e, hLf, rI_uI_eq, hst]; exact congrArg nI (srt_start hS (fun n => by have := hH cs.1 n; omega) (fun m => wtK_b cs.1 kn m) (by omega) (Or.inl c2))) (fun e => by rw [rI_uI_at (hne2 j (by omega))]; exact h6 j (by omega)))
        · skip
          have c2 : ¬ i = 0 := fun q => c2 ((nI_eq (a := i) (b := 0) (by omega) (by omega)).mpr q)
          refine exf_go 3 (show vp_in (nI (s i)) 256 ∧ (Go d true 52 32 [.ref 71, .int (nI f), .ref 37, .int (nI st), .int (nI ld), .int (nI i), .int (nI (s i))] [.int (rI h1 37 ((nI (s i)).toNatClampNeg))] h1 Q) from ⟨(vp_in_nI (by omega) (by omega)), ?_⟩)
          rw [show (rI h1 37 ((nI (s i)).toNatClampNeg) : Int32) = nI (wtK g kn (s i)) from by rw [nI_clamp (by omega)]; exact hw1 _ (by omega)]
          have hwb1 := wtK_b cs.1 kn (s i)
          refine exf_go 3 (show vp_in (nI ld) 256 ∧ (Go d true 52 36 [.ref 71, .int (nI f), .ref 37, .int (nI st), .int (nI ld), .int (nI i), .int (nI (s i))] [.int (rI h1 37 ((nI ld).toNatClampNeg)), .int (nI (wtK g kn (s i)))] h1 Q) from ⟨(vp_in_nI (by omega) (by omega)), ?_⟩)
          rw [show (rI h1 37 ((nI ld).toNatClampNeg) : Int32) = nI (wtK g kn ld) from by rw [nI_clamp (by omega)]; exact hw1 _ (by omega)]
          have hwb2 := wtK_b cs.1 kn ld
          refine exf_go 1 (show ((nI (wtK g kn (s i))) = (nI (wtK g kn ld)) → Go d true 52 51 [.ref 71, .int (nI f), .ref 37, .int (nI st), .int (nI ld), .int (nI i), .int (nI (s i))] [] h1 Q) ∧ (¬ ((nI (wtK g kn (s i))) = (nI (wtK g kn ld))) → Go d true 52 39 [.ref 71, .int (nI f), .ref 37, .int (nI st), .int (nI ld), .int (nI i), .int (nI (s i))] [] h1 Q) from ⟨fun c3 => ?_, fun c3 => ?_⟩)
          · skip
            have c3 : (wtK g kn (s i)) = (wtK g kn ld) := (nI_eq (a := (wtK g kn (s i))) (b := (wtK g kn ld)) (by omega) (by omega)).mp c3
            have hweq : wtK g kn (s i) = wtK g kn (s (i - 1)) := by rw [c3, hld.resolve_left (by omega), Lf_w (wtK g kn) s]
            have hLf := Lf_old (w := (wtK g kn)) (s := s) (i := i) (by omega) hweq
            refine exf_go 10 (show vp_in (nI (s i)) 256 ∧ vp_in (nI (s i)) 256 ∧ (Go d true 52 68 [.ref 71, .int (nI f), .ref 37, .int (nI st), .int (nI ld), .int (nI i), .int (nI (s i))] [.int (rI h1 73 ((nI (s i)).toNatClampNeg)), .int (nI st)] (uI h1 75 ((nI (s i)).toNatClampNeg) (nI ld)) Q) from ⟨(vp_in_nI (by omega) (by omega)), (vp_in_nI (by omega) (by omega)), ?_⟩)
            rw [show (rI h1 73 ((nI (s i)).toNatClampNeg) : Int32) = nI (cMk E (sH g) (tot g) (s i)) from by rw [q1.I (a := 73) (fun _ => rfl), nI_clamp (by omega)]; exact hc _ (by omega)]
            refine exf_go 1 (show Go d true 52 69 [.ref 71, .int (nI f), .ref 37, .int (nI st), .int (nI ld), .int (nI i), .int (nI (s i))] [.int ((nI st) + (nI (cMk E (sH g) (tot g) (s i))))] (uI h1 75 ((nI (s i)).toNatClampNeg) (nI ld)) Q from ?_)
            rw [show ((nI st) + (nI (cMk E (sH g) (tot g) (s i))) : Int32) = nI (st + (cMk E (sH g) (tot g) (s i))) from nI_add st (cMk E (sH g) (tot g) (s i))]
            refine exf_go 2 (show Go d true 52 73 [.ref 71, .int (nI f), .ref 37, .int (nI (st + (cMk E (sH g) (tot g) (s i)))), .int (nI ld), .int ((nI i) + 1), .int (nI (s i))] [] (uI h1 75 ((nI (s i)).toNatClampNeg) (nI ld)) Q from ?_)
            rw [show ((nI i) + 1 : Int32) = nI (i + 1) from nI_add i 1]
            refine exf_go 1 (show Go d true 52 8 [.ref 71, .int (nI f), .ref 37, .int (nI (st + (cMk E (sH g) (tot g) (s i)))), .int (nI ld), .int (nI (i + 1)), .int (nI (s i))] [] (uI h1 75 ((nI (s i)).toNatClampNeg) (nI ld)) Q from ?_)
            exact ih8 (.int (nI (s i))) (i + 1) (st + (cMk E (sH g) (tot g) (s i))) ld _ (by omega) (by omega) (by omega) (q1.uI' _ _ _ rfl) (by rw [hst, sumN]) (Or.inr (by rw [Nat.add_sub_cancel, hLf]; exact hld.resolve_left (by omega))) (fun j hj => by rw [nI_clamp (by omega)]; exact (Decidable.em (j = i)).elim (fun e => by rw [e, rI_uI_eq, hLf, ← hld.resolve_left (by omega)]) (fun e => by rw [rI_uI_at (hne j (by omega))]; exact h5 j (by omega))) (fun j hj => by rw [rI_uI_ne (by decide)]; exact (Decidable.em (j = i)).elim (fun e => by rw [e, hLf, h6 (i - 1) (by omega), (kyw_eq cs.1).mpr hweq]) (fun e => h6 j (by omega)))
          · skip
            have c3 : ¬ (wtK g kn (s i)) = (wtK g kn ld) := fun q => c3 ((nI_eq (a := (wtK g kn (s i))) (b := (wtK g kn ld)) (by omega) (by omega)).mpr q)
            have hwne : ¬ wtK g kn (s i) = wtK g kn (s (i - 1)) := fun q => c3 (by rw [q, hld.resolve_left (by omega), Lf_w (wtK g kn) s])
            have hLf := Lf_new (w := (wtK g kn)) (s := s) (Or.inr hwne)
            refine exf_go 17 (show vp_in (nI (s i)) 256 ∧ vp_in (nI (s i)) 256 ∧ vp_in (nI (s i)) 256 ∧ (Go d true 52 68 [.ref 71, .int (nI f), .ref 37, .int (nI st), .int (nI (s i)), .int (nI i), .int (nI (s i))] [.int (rI h1 73 ((nI (s i)).toNatClampNeg)), .int (nI st)] (uI (uI h1 76 ((nI (s i)).toNatClampNeg) (nI st)) 75 ((nI (s i)).toNatClampNeg) (nI (s i))) Q) from ⟨(vp_in_nI (by omega) (by omega)), (vp_in_nI (by omega) (by omega)), (vp_in_nI (by omega) (by omega)), ?_⟩)
            rw [show (rI h1 73 ((nI (s i)).toNatClampNeg) : Int32) = nI (cMk E (sH g) (tot g) (s i)) from by rw [q1.I (a := 73) (fun _ => rfl), nI_clamp (by omega)]; exact hc _ (by omega)]
            refine exf_go 1 (show Go d true 52 69 [.ref 71, .int (nI f), .ref 37, .int (nI st), .int (nI (s i)), .int (nI i), .int (nI (s i))] [.int ((nI st) + (nI (cMk E (sH g) (tot g) (s i))))] (uI (uI h1 76 ((nI (s i)).toNatClampNeg) (nI st)) 75 ((nI (s i)).toNatClampNeg) (nI (s i))) Q from ?_)
            rw [show ((nI st) + (nI (cMk E (sH g) (tot g) (s i))) : Int32) = nI (st + (cMk E (sH g) (tot g) (s i))) from nI_add st (cMk E (sH g) (tot g) (s i))]
            refine exf_go 2 (show Go d true 52 73 [.ref 71, .int (nI f), .ref 37, .int (nI (st + (cMk E (sH g) (tot g) (s i)))), .int (nI (s i)), .int ((nI i) + 1), .int (nI (s i))] [] (uI (uI h1 76 ((nI (s i)).toNatClampNeg) (nI st)) 75 ((nI (s i)).toNatClampNeg) (nI (s i))) Q from ?_)
            rw [show ((nI i) + 1 : Int32) = nI (i + 1) from nI_add i 1]
            refine exf_go 1 (show Go d true 52 8 [.ref 71, .int (nI f), .ref 37, .int (nI (st + (cMk E (sH g) (tot g) (s i)))), .int (nI (s i)), .int (nI (i + 1)), .int (nI (s i))] [] (uI (uI h1 76 ((nI (s i)).toNatClampNeg) (nI st)) 75 ((nI (s i)).toNatClampNeg) (nI (s i))) Q from ?_)
            exact ih8 (.int (nI (s i))) (i + 1) (st + (cMk E (sH g) (tot g) (s i))) (s i) _ (by omega) (by omega) (by omega) ((q1.uI' _ _ _ rfl).uI' _ _ _ rfl) (by rw [hst, sumN]) (Or.inr (by rw [Nat.add_sub_cancel, hLf])) (fun j hj => by rw [nI_clamp (by omega)]; exact (Decidable.em (j = i)).elim (fun e => by rw [e, rI_uI_eq, hLf]) (fun e => by rw [rI_uI_at (hne j (by omega)), rI_uI_ne (by decide)]; exact h5 j (by omega))) (fun j hj => by rw [rI_uI_ne (by decide), nI_clamp (by omega)]; exact (Decidable.em (j = i)).elim (fun e => by rw [e, hLf, rI_uI_eq, hst]; exact congrArg nI (srt_start hS (fun n => by have := hH cs.1 n; omega) (fun m => wtK_b cs.1 kn m) (by omega) (Or.inr hwne))) (fun e => by rw [rI_uI_at (hne2 j (by omega))]; exact h6 j (by omega)))
  exact L8 (f + 1) mk_ 0 0 0 h (by omega) (by omega) (by omega) Fq.rfl' rfl (Or.inl rfl) (fun j hj => absurd hj (Nat.not_lt_zero _)) (fun j hj => absurd hj (Nat.not_lt_zero _))
theorem c_share77 {d : Nat} {h : Hp} {g : ShG} {kn f : Nat} {E : Nat → Bool} {s : Nat → Nat} {Q : Po} (cs : CS 31 g h) (hw : WT 77 g kn h) (hc : ∀ m, m < 256 → rI h 73 m = nI (cMk E (sH g) (tot g) m)) (hS : Srt (wtK g kn) (cMk E (sH g) (tot g)) 256 f s) (ha : ∀ j, j < f → rI h 74 j = nI (s j)) (hf : f ≤ 256) (k : ∀ h1, Fq s56 h h1 → (∀ j, j < f → rI h1 75 (s j) = nI (Lf (wtK g kn) s j)) → (∀ j, j < f → rI h1 76 (Lf (wtK g kn) s j) = nI (cLt E (key g kn) (kyw g kn (s j)) (tot g))) → Q mk_ h1) : wpC (d + 1) true 52 [.ref 71, .int (nI f), .ref 77] h Q := by
  have he := evr_b cs.1
  have hN := tot_b cs.1
  refine go_in rfl ?_
  refine exf_go 6 (show Go d true 52 8 [.ref 71, .int (nI f), .ref 77, .int 0, .int 0, .int 0, mk_] [] h Q from ?_)
  have L8 : ∀ (k8 : Nat) (z6 : Value) (i st ld : Nat) (h1 : Hp), (f - i) < k8 → (i ≤ f) → (ld < 2 ^ sC g) → (Fq s56 h h1) → (st = sumN (fun j => cMk E (sH g) (tot g) (s j)) i) → (i = 0 ∨ ld = Lf (wtK g kn) s (i - 1)) → (∀ j, j < i → rI h1 75 (s j) = nI (Lf (wtK g kn) s j)) → (∀ j, j < i → rI h1 76 (Lf (wtK g kn) s j) = nI (cLt E (key g kn) (kyw g kn (s j)) (tot g))) → Go d true 52 8 [.ref 71, .int (nI f), .ref 77, .int (nI st), .int (nI ld), .int (nI i), z6] [] h1 Q := by
    intro k8
    induction k8 with
    | zero => intro z6 i st ld h1 hk; exact absurd hk (Nat.not_lt_zero _)
    | succ k8 ih8 =>
      intro z6 i st ld h1 hk hi hl2 q1 hst hld h5 h6
      have hw1 : WT 77 g kn h1 := fun m hm => by rw [q1.I (a := 77) (fun _ => rfl)]; exact hw m hm
      refine exf_go 3 (show ((nI f) ≤ (nI i) → Go d true 52 76 [.ref 71, .int (nI f), .ref 77, .int (nI st), .int (nI ld), .int (nI i), z6] [] h1 Q) ∧ (¬ ((nI f) ≤ (nI i)) → Go d true 52 14 [.ref 71, .int (nI f), .ref 77, .int (nI st), .int (nI ld), .int (nI i), z6] [] h1 Q) from ⟨fun c1 => ?_, fun c1 => ?_⟩)
      · skip
        have c1 : f ≤ i := (nI_leI (a := f) (b := i) (by omega) (by omega)).mp c1
        refine exf_go 1 (show Q (mk_) h1 from ?_)
        exact k h1 q1 (fun j hj => h5 j (by omega)) (fun j hj => h6 j (by omega))
      · skip
        have c1 : ¬ f ≤ i := fun q => c1 ((nI_leI (a := f) (b := i) (by omega) (by omega)).mpr q)
        refine exf_go 4 (show vp_in (nI i) 256 ∧ (Go d true 52 21 [.ref 71, .int (nI f), .ref 77, .int (nI st), .int (nI ld), .int (nI i), z6] [.int (rI h1 74 ((nI i).toNatClampNeg))] h1 Q) from ⟨(vp_in_nI (by omega) (by omega)), ?_⟩)
        rw [show (rI h1 74 ((nI i).toNatClampNeg) : Int32) = nI (s i) from by rw [q1.I (a := 74) (fun _ => rfl), nI_clamp (by omega)]; exact ha _ (by omega)]
        have hsc := hS.1 i (by omega); have hsm := cMk_in cs.1 hsc.2; have hcb := cMk_le E (sH g) (tot g) (s i)
        have hne : ∀ j, j < i → s j ≠ s i := fun j hj q => by have := hS.2.2.2 j i (by omega) (by omega) q; omega
        have hne2 : ∀ j, j < i → Lf (wtK g kn) s j ≠ s i := fun j hj q => by obtain ⟨x, hx, e⟩ := Lf_in (wtK g kn) s j; exact hne x (by omega) (e ▸ q)
        refine exf_go 3 (show ((nI i) = 0 → Go d true 52 39 [.ref 71, .int (nI f), .ref 77, .int (nI st), .int (nI ld), .int (nI i), .int (nI (s i))] [] h1 Q) ∧ (¬ ((nI i) = 0) → Go d true 52 28 [.ref 71, .int (nI f), .ref 77, .int (nI st), .int (nI ld), .int (nI i), .int (nI (s i))] [] h1 Q) from ⟨fun c2 => ?_, fun c2 => ?_⟩)
        · skip
          have c2 : i = 0 := (nI_eq (a := i) (b := 0) (by omega) (by omega)).mp c2
          have hLf := Lf_new (w := (wtK g kn)) (s := s) (Or.inl c2)
          refine exf_go 17 (show vp_in (nI (s i)) 256 ∧ vp_in (nI (s i)) 256 ∧ vp_in (nI (s i)) 256 ∧ (Go d true 52 68 [.ref 71, .int (nI f), .ref 77, .int (nI st), .int (nI (s i)), .int (nI i), .int (nI (s i))] [.int (rI h1 73 ((nI (s i)).toNatClampNeg)), .int (nI st)] (uI (uI h1 76 ((nI (s i)).toNatClampNeg) (nI st)) 75 ((nI (s i)).toNatClampNeg) (nI (s i))) Q) from ⟨(vp_in_nI (by omega) (by omega)), (vp_in_nI (by omega) (by omega)), (vp_in_nI (by omega) (by omega)), ?_⟩)
          rw [show (rI h1 73 ((nI (s i)).toNatClampNeg) : Int32) = nI (cMk E (sH g) (tot g) (s i)) from by rw [q1.I (a := 73) (fun _ => rfl), nI_clamp (by omega)]; exact hc _ (by omega)]
          refine exf_go 1 (show Go d true 52 69 [.ref 71, .int (nI f), .ref 77, .int (nI st), .int (nI (s i)), .int (nI i), .int (nI (s i))] [.int ((nI st) + (nI (cMk E (sH g) (tot g) (s i))))] (uI (uI h1 76 ((nI (s i)).toNatClampNeg) (nI st)) 75 ((nI (s i)).toNatClampNeg) (nI (s i))) Q from ?_)
          rw [show ((nI st) + (nI (cMk E (sH g) (tot g) (s i))) : Int32) = nI (st + (cMk E (sH g) (tot g) (s i))) from nI_add st (cMk E (sH g) (tot g) (s i))]
          refine exf_go 2 (show Go d true 52 73 [.ref 71, .int (nI f), .ref 77, .int (nI (st + (cMk E (sH g) (tot g) (s i)))), .int (nI (s i)), .int ((nI i) + 1), .int (nI (s i))] [] (uI (uI h1 76 ((nI (s i)).toNatClampNeg) (nI st)) 75 ((nI (s i)).toNatClampNeg) (nI (s i))) Q from ?_)
          rw [show ((nI i) + 1 : Int32) = nI (i + 1) from nI_add i 1]
          refine exf_go 1 (show Go d true 52 8 [.ref 71, .int (nI f), .ref 77, .int (nI (st + (cMk E (sH g) (tot g) (s i)))), .int (nI (s i)), .int (nI (i + 1)), .int (nI (s i))] [] (uI (uI h1 76 ((nI (s i)).toNatClampNeg) (nI st)) 75 ((nI (s i)).toNatClampNeg) (nI (s i))) Q from ?_)
          exact ih8 (.int (nI (s i))) (i + 1) (st + (cMk E (sH g) (tot g) (s i))) (s i) _ (by omega) (by omega) (by omega) ((q1.uI' _ _ _ rfl).uI' _ _ _ rfl) (by rw [hst, sumN]) (Or.inr (by rw [Nat.add_sub_cancel, hLf])) (fun j hj => by rw [nI_clamp (by omega)]; exact (Decidable.em (j = i)).elim (fun e => by rw [e, rI_uI_eq, hLf]) (fun e => by rw [rI_uI_at (hne j (by omega)), rI_uI_ne (by decide)]; exact h5 j (by omega))) (fun j hj => by rw [rI_uI_ne (by decide), nI_clamp (by omega)]; exact (Decidable.em (j = i)).elim (fun e => by rw [e, hLf, rI_uI_eq, hst]; exact congrArg nI (srt_start hS (fun n => by have := hH cs.1 n; omega) (fun m => wtK_b cs.1 kn m) (by omega) (Or.inl c2))) (fun e => by rw [rI_uI_at (hne2 j (by omega))]; exact h6 j (by omega)))
        · skip
          have c2 : ¬ i = 0 := fun q => c2 ((nI_eq (a := i) (b := 0) (by omega) (by omega)).mpr q)
          refine exf_go 3 (show vp_in (nI (s i)) 256 ∧ (Go d true 52 32 [.ref 71, .int (nI f), .ref 77, .int (nI st), .int (nI ld), .int (nI i), .int (nI (s i))] [.int (rI h1 77 ((nI (s i)).toNatClampNeg))] h1 Q) from ⟨(vp_in_nI (by omega) (by omega)), ?_⟩)
          rw [show (rI h1 77 ((nI (s i)).toNatClampNeg) : Int32) = nI (wtK g kn (s i)) from by rw [nI_clamp (by omega)]; exact hw1 _ (by omega)]
          have hwb1 := wtK_b cs.1 kn (s i)
          refine exf_go 3 (show vp_in (nI ld) 256 ∧ (Go d true 52 36 [.ref 71, .int (nI f), .ref 77, .int (nI st), .int (nI ld), .int (nI i), .int (nI (s i))] [.int (rI h1 77 ((nI ld).toNatClampNeg)), .int (nI (wtK g kn (s i)))] h1 Q) from ⟨(vp_in_nI (by omega) (by omega)), ?_⟩)
          rw [show (rI h1 77 ((nI ld).toNatClampNeg) : Int32) = nI (wtK g kn ld) from by rw [nI_clamp (by omega)]; exact hw1 _ (by omega)]
          have hwb2 := wtK_b cs.1 kn ld
          refine exf_go 1 (show ((nI (wtK g kn (s i))) = (nI (wtK g kn ld)) → Go d true 52 51 [.ref 71, .int (nI f), .ref 77, .int (nI st), .int (nI ld), .int (nI i), .int (nI (s i))] [] h1 Q) ∧ (¬ ((nI (wtK g kn (s i))) = (nI (wtK g kn ld))) → Go d true 52 39 [.ref 71, .int (nI f), .ref 77, .int (nI st), .int (nI ld), .int (nI i), .int (nI (s i))] [] h1 Q) from ⟨fun c3 => ?_, fun c3 => ?_⟩)
          · skip
            have c3 : (wtK g kn (s i)) = (wtK g kn ld) := (nI_eq (a := (wtK g kn (s i))) (b := (wtK g kn ld)) (by omega) (by omega)).mp c3
            have hweq : wtK g kn (s i) = wtK g kn (s (i - 1)) := by rw [c3, hld.resolve_left (by omega), Lf_w (wtK g kn) s]
            have hLf := Lf_old (w := (wtK g kn)) (s := s) (i := i) (by omega) hweq
            refine exf_go 10 (show vp_in (nI (s i)) 256 ∧ vp_in (nI (s i)) 256 ∧ (Go d true 52 68 [.ref 71, .int (nI f), .ref 77, .int (nI st), .int (nI ld), .int (nI i), .int (nI (s i))] [.int (rI h1 73 ((nI (s i)).toNatClampNeg)), .int (nI st)] (uI h1 75 ((nI (s i)).toNatClampNeg) (nI ld)) Q) from ⟨(vp_in_nI (by omega) (by omega)), (vp_in_nI (by omega) (by omega)), ?_⟩)
            rw [show (rI h1 73 ((nI (s i)).toNatClampNeg) : Int32) = nI (cMk E (sH g) (tot g) (s i)) from by rw [q1.I (a := 73) (fun _ => rfl), nI_clamp (by omega)]; exact hc _ (by omega)]
            refine exf_go 1 (show Go d true 52 69 [.ref 71, .int (nI f), .ref 77, .int (nI st), .int (nI ld), .int (nI i), .int (nI (s i))] [.int ((nI st) + (nI (cMk E (sH g) (tot g) (s i))))] (uI h1 75 ((nI (s i)).toNatClampNeg) (nI ld)) Q from ?_)
            rw [show ((nI st) + (nI (cMk E (sH g) (tot g) (s i))) : Int32) = nI (st + (cMk E (sH g) (tot g) (s i))) from nI_add st (cMk E (sH g) (tot g) (s i))]
            refine exf_go 2 (show Go d true 52 73 [.ref 71, .int (nI f), .ref 77, .int (nI (st + (cMk E (sH g) (tot g) (s i)))), .int (nI ld), .int ((nI i) + 1), .int (nI (s i))] [] (uI h1 75 ((nI (s i)).toNatClampNeg) (nI ld)) Q from ?_)
            rw [show ((nI i) + 1 : Int32) = nI (i + 1) from nI_add i 1]
            refine exf_go 1 (show Go d true 52 8 [.ref 71, .int (nI f), .ref 77, .int (nI (st + (cMk E (sH g) (tot g) (s i)))), .int (nI ld), .int (nI (i + 1)), .int (nI (s i))] [] (uI h1 75 ((nI (s i)).toNatClampNeg) (nI ld)) Q from ?_)
            exact ih8 (.int (nI (s i))) (i + 1) (st + (cMk E (sH g) (tot g) (s i))) ld _ (by omega) (by omega) (by omega) (q1.uI' _ _ _ rfl) (by rw [hst, sumN]) (Or.inr (by rw [Nat.add_sub_cancel, hLf]; exact hld.resolve_left (by omega))) (fun j hj => by rw [nI_clamp (by omega)]; exact (Decidable.em (j = i)).elim (fun e => by rw [e, rI_uI_eq, hLf, ← hld.resolve_left (by omega)]) (fun e => by rw [rI_uI_at (hne j (by omega))]; exact h5 j (by omega))) (fun j hj => by rw [rI_uI_ne (by decide)]; exact (Decidable.em (j = i)).elim (fun e => by rw [e, hLf, h6 (i - 1) (by omega), (kyw_eq cs.1).mpr hweq]) (fun e => h6 j (by omega)))
          · skip
            have c3 : ¬ (wtK g kn (s i)) = (wtK g kn ld) := fun q => c3 ((nI_eq (a := (wtK g kn (s i))) (b := (wtK g kn ld)) (by omega) (by omega)).mpr q)
            have hwne : ¬ wtK g kn (s i) = wtK g kn (s (i - 1)) := fun q => c3 (by rw [q, hld.resolve_left (by omega), Lf_w (wtK g kn) s])
            have hLf := Lf_new (w := (wtK g kn)) (s := s) (Or.inr hwne)
            refine exf_go 17 (show vp_in (nI (s i)) 256 ∧ vp_in (nI (s i)) 256 ∧ vp_in (nI (s i)) 256 ∧ (Go d true 52 68 [.ref 71, .int (nI f), .ref 77, .int (nI st), .int (nI (s i)), .int (nI i), .int (nI (s i))] [.int (rI h1 73 ((nI (s i)).toNatClampNeg)), .int (nI st)] (uI (uI h1 76 ((nI (s i)).toNatClampNeg) (nI st)) 75 ((nI (s i)).toNatClampNeg) (nI (s i))) Q) from ⟨(vp_in_nI (by omega) (by omega)), (vp_in_nI (by omega) (by omega)), (vp_in_nI (by omega) (by omega)), ?_⟩)
            rw [show (rI h1 73 ((nI (s i)).toNatClampNeg) : Int32) = nI (cMk E (sH g) (tot g) (s i)) from by rw [q1.I (a := 73) (fun _ => rfl), nI_clamp (by omega)]; exact hc _ (by omega)]
            refine exf_go 1 (show Go d true 52 69 [.ref 71, .int (nI f), .ref 77, .int (nI st), .int (nI (s i)), .int (nI i), .int (nI (s i))] [.int ((nI st) + (nI (cMk E (sH g) (tot g) (s i))))] (uI (uI h1 76 ((nI (s i)).toNatClampNeg) (nI st)) 75 ((nI (s i)).toNatClampNeg) (nI (s i))) Q from ?_)
            rw [show ((nI st) + (nI (cMk E (sH g) (tot g) (s i))) : Int32) = nI (st + (cMk E (sH g) (tot g) (s i))) from nI_add st (cMk E (sH g) (tot g) (s i))]
            refine exf_go 2 (show Go d true 52 73 [.ref 71, .int (nI f), .ref 77, .int (nI (st + (cMk E (sH g) (tot g) (s i)))), .int (nI (s i)), .int ((nI i) + 1), .int (nI (s i))] [] (uI (uI h1 76 ((nI (s i)).toNatClampNeg) (nI st)) 75 ((nI (s i)).toNatClampNeg) (nI (s i))) Q from ?_)
            rw [show ((nI i) + 1 : Int32) = nI (i + 1) from nI_add i 1]
            refine exf_go 1 (show Go d true 52 8 [.ref 71, .int (nI f), .ref 77, .int (nI (st + (cMk E (sH g) (tot g) (s i)))), .int (nI (s i)), .int (nI (i + 1)), .int (nI (s i))] [] (uI (uI h1 76 ((nI (s i)).toNatClampNeg) (nI st)) 75 ((nI (s i)).toNatClampNeg) (nI (s i))) Q from ?_)
            exact ih8 (.int (nI (s i))) (i + 1) (st + (cMk E (sH g) (tot g) (s i))) (s i) _ (by omega) (by omega) (by omega) ((q1.uI' _ _ _ rfl).uI' _ _ _ rfl) (by rw [hst, sumN]) (Or.inr (by rw [Nat.add_sub_cancel, hLf])) (fun j hj => by rw [nI_clamp (by omega)]; exact (Decidable.em (j = i)).elim (fun e => by rw [e, rI_uI_eq, hLf]) (fun e => by rw [rI_uI_at (hne j (by omega)), rI_uI_ne (by decide)]; exact h5 j (by omega))) (fun j hj => by rw [rI_uI_ne (by decide), nI_clamp (by omega)]; exact (Decidable.em (j = i)).elim (fun e => by rw [e, hLf, rI_uI_eq, hst]; exact congrArg nI (srt_start hS (fun n => by have := hH cs.1 n; omega) (fun m => wtK_b cs.1 kn m) (by omega) (Or.inr hwne))) (fun e => by rw [rI_uI_at (hne2 j (by omega))]; exact h6 j (by omega)))
  exact L8 (f + 1) mk_ 0 0 0 h (by omega) (by omega) (by omega) Fq.rfl' rfl (Or.inl rfl) (fun j hj => absurd hj (Nat.not_lt_zero _)) (fun j hj => absurd hj (Nat.not_lt_zero _))
