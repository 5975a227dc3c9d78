/-! The class's trays. -/
abbrev TrG : Type := Option (Nat × Nat × (Nat → Int64))
def cutV (so : Nat) (v : Int64) : Int64 := if so = 0 then v.toInt32.toInt8.toInt32.toInt64 else if so = 1 then v.toInt32.toInt16.toInt32.toInt64 else if so = 2 then v.toInt32.toInt64 else v
/-- the class's tray t -/
def CT (t : Nat) (tr : TrG) (h : Hp) : Prop := match tr with
  | none => rI h (88 + 2 * t) 2 = -1
  | some (so, n, v) => so ≤ 3 ∧ n ≤ 40 ∧ rI h (88 + 2 * t) 1 = nI so ∧ rI h (88 + 2 * t) 2 = nI n ∧ ∀ i, i < n → rJ h (89 + 2 * t) i = v i
def CTA (tr : Nat → TrG) (h : Hp) : Prop := ∀ t, t < 4 → CT t (tr t) h
theorem ct_same {t : Nat} {tr : TrG} {h h1 : Hp} (ct : CT t tr h) (e1 : rI h1 (88 + 2 * t) = rI h (88 + 2 * t)) (e2 : rJ h1 (89 + 2 * t) = rJ h (89 + 2 * t)) : CT t tr h1 := by
  unfold CT at *
  rw [e1, e2]
  exact ct
theorem cta_up {tr : Nat → TrG} {t : Nat} {u : TrG} {h h1 : Hp} (ca : CTA tr h) (ht : t < 4) (ct : CT t u h1) (e : ∀ s, s < 4 → s ≠ t → rI h1 (88 + 2 * s) = rI h (88 + 2 * s) ∧ rJ h1 (89 + 2 * s) = rJ h (89 + 2 * s)) : CTA (va_up tr t u) h1 := fun s hs => by
  by_cases q : s = t
  · subst q; rw [up_eq]; exact ct
  · rw [up_ne q]; exact ct_same (ca s hs) (e s hs q).1 (e s hs q).2
def sTr (a _x : Nat) : Bool := Nat.ble 88 a && Nat.ble a 95
/-- a long as a place among n -/
def ixL (x : Int64) (n : Nat) : Option Nat := if x < 0 ∨ lN n ≤ x then none else some x.toInt.toNat
theorem il_neg {x : Int64} {n : Nat} (h : x < 0) : ixL x n = none := if_pos (Or.inl h)
theorem il_ge {x : Int64} {n : Nat} (h : lN n ≤ x) : ixL x n = none := if_pos (Or.inr h)
theorem il_in {x : Int64} {n : Nat} (hn : n < 2 ^ 63) (h : ¬ x < 0) (h2 : ¬ lN n ≤ x) : ∃ j, ixL x n = some j ∧ x = lN j ∧ j < n := by
  refine ⟨x.toInt.toNat, by rw [ixL, if_neg (fun q => q.elim h h2)], ?_, ?_⟩
  · apply Int64.toInt_inj.mp
    rw [Int64.lt_iff_toInt_lt] at h
    rw [Int64.le_iff_toInt_le, pk_lT hn] at h2
    have h3 : ¬ x.toInt < 0 := h
    rw [pk_lT (by omega)]
    omega
  · rw [Int64.lt_iff_toInt_lt] at h
    rw [Int64.le_iff_toInt_le, pk_lT hn] at h2
    have h3 : ¬ x.toInt < 0 := h
    omega
def dNumbers (tr : Nat → TrG) (x y z : Int32) : (Nat → TrG) × Int32 := match ixN x 4 with
  | none => (tr, -2)
  | some t => match ixN y 4 with
    | none => (tr, -2)
    | some so => match ixN z 41 with
      | none => (tr, -3)
      | some n => (va_up tr t (some (so, n, fun _ => 0)), 0)
def dWrite (tr : Nat → TrG) (x y : Int32) (v : Int64) : (Nat → TrG) × Int64 := match ixN x 4 with
  | none => (tr, -2)
  | some t => match tr t with
    | none => (tr, -6)
    | some (so, n, vs) => match ixN y n with
      | none => (tr, -7)
      | some i => (va_up tr t (some (so, n, va_up vs i (cutV so v))), cutV so v)
def cpyV (g : ShG) (l : LkG) (so m : Nat) (vs : Nat → Int64) : Nat → Int64 := fun i => if i < m then cutV so (lN (ordL g l i)) else vs i
def dCopy (g : ShG) (l : LkG) (tr : Nat → TrG) (x : Int32) : (Nat → TrG) × Int32 := match ixN x 4 with
  | none => (tr, -2)
  | some t => match tr t with
    | none => (tr, -6)
    | some (so, n, vs) => (va_up tr t (some (so, n, cpyV g l so (min (cntL g l) n) vs)), nI (min (cntL g l) n))
theorem ct_put {t so n i : Nat} {vs : Nat → Int64} {w : Int64} {h : Hp} (ct : CT t (some (so, n, vs)) h) : CT t (some (so, n, va_up vs i w)) (uJ h (89 + 2 * t) i w) := by
  obtain ⟨a1, a2, a3, a4, a5⟩ := ct
  refine ⟨a1, a2, a3, a4, fun j hj => ?_⟩
  by_cases e : j = i
  · subst e; rw [rJ_uJ_eq, up_eq]
  · rw [rJ_uJ_at e, up_ne e]; exact a5 j hj
theorem c_isTray {d : Nat} {h : Hp} {x : Int32} {Q : Po} (k0 : ixN x 4 = some 0 → x = nI 0 → Q (.int 1) h) (k1 : ixN x 4 = some 1 → x = nI 1 → Q (.int 1) h) (k2 : ixN x 4 = some 2 → x = nI 2 → Q (.int 1) h) (k3 : ixN x 4 = some 3 → x = nI 3 → Q (.int 1) h) (kn : ixN x 4 = none → Q (.int 0) h) : wpC (d + 1) true 159 [.int x] h Q := by
  refine go_in rfl ?_
  refine exf_go 2 (show (x < 0 → Go d true 159 13 [.int x] [] h Q) ∧ (¬ (x < 0) → Go d true 159 4 [.int x] [] h Q) from ⟨fun c1 => ?_, fun c1 => ?_⟩)
  · skip
    refine exf_go 2 (show ((0 : Int32) = 0 ∨ (0 : Int32) = 1) ∧ Q (.int 0) h from ⟨(by first | exact Or.inl rfl | exact Or.inr rfl | assumption), ?_⟩)
    first | exact kn (ix_neg (by assumption)) | exact kn (ix_ge (by assumption))
  · skip
    refine exf_go 3 (show (4 ≤ x → Go d true 159 13 [.int x] [] h Q) ∧ (¬ (4 ≤ x) → Go d true 159 9 [.int x] [] h Q) from ⟨fun c2 => ?_, fun c2 => ?_⟩)
    · skip
      refine exf_go 2 (show ((0 : Int32) = 0 ∨ (0 : Int32) = 1) ∧ Q (.int 0) h from ⟨(by first | exact Or.inl rfl | exact Or.inr rfl | assumption), ?_⟩)
      first | exact kn (ix_neg (by assumption)) | exact kn (ix_ge (by assumption))
    · skip
      refine exf_go 3 (show ((1 : Int32) = 0 ∨ (1 : Int32) = 1) ∧ Q (.int 1) h from ⟨(by first | exact Or.inl rfl | exact Or.inr rfl | assumption), ?_⟩)
      obtain ⟨j, e1, e2, e3⟩ := ix_in (n := 4) (by decide) c1 c2
      rcases (show j = 0 ∨ j = 1 ∨ j = 2 ∨ j = 3 by omega) with q | q | q | q <;> subst q
      · exact k0 e1 e2
      · exact k1 e1 e2
      · exact k2 e1 e2
      · exact k3 e1 e2
theorem c_fillL0 {d : Nat} {h : Hp} {Q : Po} (k : ∀ h1, Fq (sAt 89) h h1 → (∀ i, i < 40 → rJ h1 89 i = 0) → Q mk_ h1) : wpC (d + 1) true 317 [.ref 89, .long 0] h Q := by
  refine go_in rfl ?_
  refine exf_go 4 (show Go d true 317 4 [.ref 89, .long 0, mk_, .int 0, mk_] [.int (nI 40)] h Q from ?_)
  rw [show (nI 40 : Int32) = nI 40 from rfl]
  refine exf_go 1 (show Go d true 317 6 [.ref 89, .long 0, mk_, .int 0, .int (nI 40)] [] h Q from ?_)
  have L6 : ∀ (k6 : Nat) (j : Nat) (h1 : Hp), (40 - j) < k6 → (j ≤ 40) → (Fq (sAt 89) h h1) → (∀ i, i < j → rJ h1 89 i = 0) → Go d true 317 6 [.ref 89, .long 0, mk_, .int (nI j), .int (nI 40)] [] h1 Q := by
    intro k6
    induction k6 with
    | zero => intro j h1 hk; exact absurd hk (Nat.not_lt_zero _)
    | succ k6 ih6 =>
      intro j h1 hk hj q1 hv
      refine exf_go 3 (show ((nI 40) ≤ (nI j) → Go d true 317 22 [.ref 89, .long 0, mk_, .int (nI j), .int (nI 40)] [] h1 Q) ∧ (¬ ((nI 40) ≤ (nI j)) → Go d true 317 12 [.ref 89, .long 0, mk_, .int (nI j), .int (nI 40)] [] h1 Q) from ⟨fun c1 => ?_, fun c1 => ?_⟩)
      · skip
        have c1 : 40 ≤ j := (nI_leI (a := 40) (b := j) (by omega) (by omega)).mp c1
        refine exf_go 1 (show Q (mk_) h1 from ?_)
        exact k h1 q1 (fun i hi => hv i (by omega))
      · skip
        have c1 : ¬ 40 ≤ j := fun q => c1 ((nI_leI (a := 40) (b := j) (by omega) (by omega)).mpr q)
        refine exf_go 5 (show vp_in (nI j) 40 ∧ (Go d true 317 19 [.ref 89, .long 0, mk_, .int ((nI j) + 1), .int (nI 40)] [] (uJ h1 89 ((nI j).toNatClampNeg) 0) Q) from ⟨(vp_in_nI (by omega) (by omega)), ?_⟩)
        rw [show ((nI j) + 1 : Int32) = nI (j + 1) from nI_add j 1]
        refine exf_go 1 (show Go d true 317 6 [.ref 89, .long 0, mk_, .int (nI (j + 1)), .int (nI 40)] [] (uJ h1 89 ((nI j).toNatClampNeg) 0) Q from ?_)
        exact ih6 (j + 1) _ (by omega) (by omega) (q1.uJ' _ _ _ rfl) (fun i hi => by rw [nI_clamp (by omega)]; exact (Decidable.em (i = j)).elim (fun e => by rw [e, rJ_uJ_eq]) (fun e => by rw [rJ_uJ_at e]; exact hv i (by omega)))
  exact L6 (40 + 1) 0 h (by omega) (by omega) Fq.rfl' (fun i hi => absurd hi (Nat.not_lt_zero _))
theorem c_lay0 {d : Nat} {h : Hp} {so n : Nat} {Q : Po} (hs3 : so ≤ 3) (hn4 : n ≤ 40) (k : ∀ h1, Fq sTr h h1 → (∀ s, s < 4 → s ≠ 0 → rI h1 (88 + 2 * s) = rI h (88 + 2 * s) ∧ rJ h1 (89 + 2 * s) = rJ h (89 + 2 * s)) → CT 0 (some (so, n, fun _ => 0)) h1 → Q mk_ h1) : wpC (d + 2) true 103 [.ref 88, .int (nI so), .int (nI n)] h Q := by
  refine go_in rfl ?_
  refine exf_go 10 (show wpC (d + 1) true 317 [.ref 89, .long 0] (uI (uI h 88 1 (nI so)) 88 2 (nI n)) (fun _ h' => Go (d + 1) true 103 18 [.ref 88, .int (nI so), .int (nI n)] [] h' Q) from ?_)
  refine c_fillL0 (fun h1 q1 hz => ?_)
  show Go (d + 1) true 103 18 [.ref 88, .int (nI so), .int (nI n)] [] h1 Q
  refine exf_go 1 (show Q (mk_) h1 from ?_)
  exact k h1 ((((Fq.uI' Fq.rfl' _ _ _ rfl).uI' _ _ _ rfl).tr (q1.mono (sAt_s (fun _ => rfl))))) (fun s hs q => ⟨q1.I (fun _ => by unfold sAt; rw [Bool.eq_false_iff]; intro z; have := Nat.eq_of_beq_eq_true z; omega) |>.trans ((rI_uI_ne (by omega)).trans (rI_uI_ne (by omega))), q1.J (fun _ => by unfold sAt; rw [Bool.eq_false_iff]; intro z; have := Nat.eq_of_beq_eq_true z; omega)⟩) ⟨hs3, hn4, (q1.1 88 1 rfl).1, (q1.1 88 2 rfl).1, fun i hi => hz i (by omega)⟩
theorem c_miss00 {d : Nat} {h : Hp} {so n : Nat} {vs : Nat → Int64} {Q : Po} (ct : CT 0 (some (so, n, vs)) h) (k : Q (.int 0) h) : wpC (d + 1) true 102 [.ref 88] h Q := by
  have hn4 := ct.2.1; have hs3 := ct.1
  refine go_in rfl ?_
  refine exf_go 2 (show Go d true 102 4 [.ref 88] [.int (rI h 88 2)] h Q from ?_)
  rw [show (rI h 88 2 : Int32) = nI n from ct.2.2.2.1]
  refine exf_go 2 (show (¬ (nI n) = (-1) → Go d true 102 12 [.ref 88] [] h Q) ∧ (¬ (¬ (nI n) = (-1)) → Go d true 102 8 [.ref 88] [] h Q) from ⟨fun c1 => ?_, fun c1 => ?_⟩)
  · skip
    refine exf_go 2 (show ((0 : Int32) = 0 ∨ (0 : Int32) = 1) ∧ Q (.int 0) h from ⟨(by first | exact Or.inl rfl | exact Or.inr rfl | assumption), ?_⟩)
    exact k
  · skip
    exact absurd (ng_eq (by omega) (by decide)) c1
theorem c_miss10 {d : Nat} {h : Hp} {Q : Po} (ct : CT 0 none h) (k : Q (.int 1) h) : wpC (d + 1) true 102 [.ref 88] h Q := by
  refine go_in rfl ?_
  refine exf_go 2 (show Go d true 102 4 [.ref 88] [.int (rI h 88 2)] h Q from ?_)
  rw [show (rI h 88 2 : Int32) = (-1) from ct]
  refine exf_go 2 (show (¬ ((-1) : Int32) = (-1) → Go d true 102 12 [.ref 88] [] h Q) ∧ (¬ (¬ ((-1) : Int32) = (-1)) → Go d true 102 8 [.ref 88] [] h Q) from ⟨fun c1 => ?_, fun c1 => ?_⟩)
  · skip
    exact absurd c1 (by decide)
  · skip
    refine exf_go 3 (show ((1 : Int32) = 0 ∨ (1 : Int32) = 1) ∧ Q (.int 1) h from ⟨(by first | exact Or.inl rfl | exact Or.inr rfl | assumption), ?_⟩)
    exact k
theorem c_tat0 {d : Nat} {h : Hp} {so n : Nat} {vs : Nat → Int64} {i : Nat} {Q : Po} (ct : CT 0 (some (so, n, vs)) h) (hi : i < n) (k : Q (.long (vs i)) h) : wpC (d + 1) true 104 [.ref 88, .int (nI i)] h Q := by
  have hn4 := ct.2.1; have hs3 := ct.1
  refine go_in rfl ?_
  refine exf_go 2 (show ((nI i) < 0 → Go d true 104 21 [.ref 88, .int (nI i)] [] h Q) ∧ (¬ ((nI i) < 0) → Go d true 104 4 [.ref 88, .int (nI i)] [] h Q) from ⟨fun c1 => ?_, fun c1 => ?_⟩)
  · skip
    have c1 : i < 0 := (nI_ltI (a := i) (b := 0) (by omega) (by omega)).mp c1
    refine exf_go 2 (show Q (.long 0) h from ?_)
    first | (exfalso; omega) | exact k
  · skip
    have c1 : ¬ i < 0 := fun q => c1 ((nI_ltI (a := i) (b := 0) (by omega) (by omega)).mpr q)
    refine exf_go 3 (show Go d true 104 9 [.ref 88, .int (nI i)] [.int (rI h 88 2), .int (nI i)] h Q from ?_)
    rw [show (rI h 88 2 : Int32) = nI n from ct.2.2.2.1]
    refine exf_go 1 (show ((nI n) ≤ (nI i) → Go d true 104 21 [.ref 88, .int (nI i)] [] h Q) ∧ (¬ ((nI n) ≤ (nI i)) → Go d true 104 12 [.ref 88, .int (nI i)] [] h Q) from ⟨fun c2 => ?_, fun c2 => ?_⟩)
    · skip
      have c2 : n ≤ i := (nI_leI (a := n) (b := i) (by omega) (by omega)).mp c2
      refine exf_go 2 (show Q (.long 0) h from ?_)
      first | (exfalso; omega) | exact k
    · skip
      have c2 : ¬ n ≤ i := fun q => c2 ((nI_leI (a := n) (b := i) (by omega) (by omega)).mpr q)
      refine exf_go 4 (show vp_in (nI i) 40 ∧ (Go d true 104 18 [.ref 88, .int (nI i)] [.long (rJ h 89 ((nI i).toNatClampNeg))] h Q) from ⟨(vp_in_nI (by omega) (by omega)), ?_⟩)
      rw [show (rJ h 89 ((nI i).toNatClampNeg) : Int64) = vs i from by rw [nI_clamp (by omega)]; exact ct.2.2.2.2 _ (by omega)]
      refine exf_go 2 (show Q (.long (vs i)) h from ?_)
      first | (exfalso; omega) | exact k
theorem c_cut0 {d : Nat} {h : Hp} {so n : Nat} {vs : Nat → Int64} {x : Int64} {Q : Po} (ct : CT 0 (some (so, n, vs)) h) (k : Q (.long (cutV so x)) h) : wpC (d + 1) true 110 [.ref 88, .long x] h Q := by
  have hn4 := ct.2.1; have hs3 := ct.1
  refine go_in rfl ?_
  refine exf_go 2 (show Go d true 110 4 [.ref 88, .long x, mk_] [.int (rI h 88 1)] h Q from ?_)
  rw [show (rI h 88 1 : Int32) = nI so from ct.2.2.1]
  refine exf_go 1 (show ((nI so).toInt < 0 ∨ 2 < (nI so).toInt → Go d true 110 46 [.ref 88, .long x, mk_] [] h Q) ∧ ((nI so).toInt = 0 → Go d true 110 32 [.ref 88, .long x, mk_] [] h Q) ∧ ((nI so).toInt = 1 → Go d true 110 37 [.ref 88, .long x, mk_] [] h Q) ∧ ((nI so).toInt = 2 → Go d true 110 42 [.ref 88, .long x, mk_] [] h Q) ∧ True from ⟨fun c1 => ?_, fun c1 => ?_, fun c1 => ?_, fun c1 => ?_, trivial⟩)
  · skip
    have cy : ¬ so = 0 ∧ ¬ so = 1 ∧ ¬ so = 2 := by rw [nI_toInt (by omega)] at c1; omega
    refine exf_go 2 (show Q (.long x) h from ?_)
    rw [cutV] at k; first | (rw [if_pos (by omega)] at k; exact k) | (rw [if_neg (by omega), if_pos (by omega)] at k; exact k) | (rw [if_neg (by omega), if_neg (by omega), if_pos (by omega)] at k; exact k) | (rw [if_neg (by omega), if_neg (by omega), if_neg (by omega)] at k; exact k)
  · skip
    have cy : so = 0 := by rw [nI_toInt (by omega)] at c1; omega
    refine exf_go 5 (show Q (.long x.toInt32.toInt8.toInt32.toInt64) h from ?_)
    rw [cutV] at k; first | (rw [if_pos (by omega)] at k; exact k) | (rw [if_neg (by omega), if_pos (by omega)] at k; exact k) | (rw [if_neg (by omega), if_neg (by omega), if_pos (by omega)] at k; exact k) | (rw [if_neg (by omega), if_neg (by omega), if_neg (by omega)] at k; exact k)
  · skip
    have cy : so = 1 := by rw [nI_toInt (by omega)] at c1; omega
    refine exf_go 5 (show Q (.long x.toInt32.toInt16.toInt32.toInt64) h from ?_)
    rw [cutV] at k; first | (rw [if_pos (by omega)] at k; exact k) | (rw [if_neg (by omega), if_pos (by omega)] at k; exact k) | (rw [if_neg (by omega), if_neg (by omega), if_pos (by omega)] at k; exact k) | (rw [if_neg (by omega), if_neg (by omega), if_neg (by omega)] at k; exact k)
  · skip
    have cy : so = 2 := by rw [nI_toInt (by omega)] at c1; omega
    refine exf_go 4 (show Q (.long x.toInt32.toInt64) h from ?_)
    rw [cutV] at k; first | (rw [if_pos (by omega)] at k; exact k) | (rw [if_neg (by omega), if_pos (by omega)] at k; exact k) | (rw [if_neg (by omega), if_neg (by omega), if_pos (by omega)] at k; exact k) | (rw [if_neg (by omega), if_neg (by omega), if_neg (by omega)] at k; exact k)
theorem c_put0 {d : Nat} {h : Hp} {so n : Nat} {vs : Nat → Int64} {i : Nat} {x : Int64} {Q : Po} (ct : CT 0 (some (so, n, vs)) h) (hi : i < n) (k : Q mk_ (uJ h 89 i (cutV so x))) : wpC (d + 2) true 105 [.ref 88, .int (nI i), .long x] h Q := by
  have hn4 := ct.2.1; have hs3 := ct.1
  refine go_in rfl ?_
  refine exf_go 2 (show ((nI i) < 0 → Go (d + 1) true 105 23 [.ref 88, .int (nI i), .long x, mk_] [] h Q) ∧ (¬ ((nI i) < 0) → Go (d + 1) true 105 4 [.ref 88, .int (nI i), .long x, mk_] [] h Q) from ⟨fun c1 => ?_, fun c1 => ?_⟩)
  · skip
    have c1 : i < 0 := (nI_ltI (a := i) (b := 0) (by omega) (by omega)).mp c1
    refine exf_go 1 (show Q (mk_) h from ?_)
    first | (exfalso; omega) | (rw [nI_clamp (by omega)]; exact k)
  · skip
    have c1 : ¬ i < 0 := fun q => c1 ((nI_ltI (a := i) (b := 0) (by omega) (by omega)).mpr q)
    refine exf_go 3 (show Go (d + 1) true 105 9 [.ref 88, .int (nI i), .long x, mk_] [.int (rI h 88 2), .int (nI i)] h Q from ?_)
    rw [show (rI h 88 2 : Int32) = nI n from ct.2.2.2.1]
    refine exf_go 1 (show ((nI n) ≤ (nI i) → Go (d + 1) true 105 23 [.ref 88, .int (nI i), .long x, mk_] [] h Q) ∧ (¬ ((nI n) ≤ (nI i)) → Go (d + 1) true 105 12 [.ref 88, .int (nI i), .long x, mk_] [] h Q) from ⟨fun c2 => ?_, fun c2 => ?_⟩)
    · skip
      have c2 : n ≤ i := (nI_leI (a := n) (b := i) (by omega) (by omega)).mp c2
      refine exf_go 1 (show Q (mk_) h from ?_)
      first | (exfalso; omega) | (rw [nI_clamp (by omega)]; exact k)
    · skip
      have c2 : ¬ n ≤ i := fun q => c2 ((nI_leI (a := n) (b := i) (by omega) (by omega)).mpr q)
      refine exf_go 6 (show wpC (d + 1) true 110 [.ref 88, .long x] h (fun r h' => Go (d + 1) true 105 22 [.ref 88, .int (nI i), .long x, mk_] [r, .int (nI i), .ref 89] h' Q) from ?_)
      refine c_cut0 ct ?_
      show Go (d + 1) true 105 22 [.ref 88, .int (nI i), .long x, mk_] [.long (cutV so x), .int (nI i), .ref 89] h Q
      refine exf_go 2 (show vp_in (nI i) 40 ∧ Q (mk_) (uJ h 89 ((nI i).toNatClampNeg) (cutV so x)) from ⟨(vp_in_nI (by omega) (by omega)), ?_⟩)
      first | (exfalso; omega) | (rw [nI_clamp (by omega)]; exact k)
theorem c_fillL1 {d : Nat} {h : Hp} {Q : Po} (k : ∀ h1, Fq (sAt 91) h h1 → (∀ i, i < 40 → rJ h1 91 i = 0) → Q mk_ h1) : wpC (d + 1) true 317 [.ref 91, .long 0] h Q := by
  refine go_in rfl ?_
  refine exf_go 4 (show Go d true 317 4 [.ref 91, .long 0, mk_, .int 0, mk_] [.int (nI 40)] h Q from ?_)
  rw [show (nI 40 : Int32) = nI 40 from rfl]
  refine exf_go 1 (show Go d true 317 6 [.ref 91, .long 0, mk_, .int 0, .int (nI 40)] [] h Q from ?_)
  have L6 : ∀ (k6 : Nat) (j : Nat) (h1 : Hp), (40 - j) < k6 → (j ≤ 40) → (Fq (sAt 91) h h1) → (∀ i, i < j → rJ h1 91 i = 0) → Go d true 317 6 [.ref 91, .long 0, mk_, .int (nI j), .int (nI 40)] [] h1 Q := by
    intro k6
    induction k6 with
    | zero => intro j h1 hk; exact absurd hk (Nat.not_lt_zero _)
    | succ k6 ih6 =>
      intro j h1 hk hj q1 hv
      refine exf_go 3 (show ((nI 40) ≤ (nI j) → Go d true 317 22 [.ref 91, .long 0, mk_, .int (nI j), .int (nI 40)] [] h1 Q) ∧ (¬ ((nI 40) ≤ (nI j)) → Go d true 317 12 [.ref 91, .long 0, mk_, .int (nI j), .int (nI 40)] [] h1 Q) from ⟨fun c1 => ?_, fun c1 => ?_⟩)
      · skip
        have c1 : 40 ≤ j := (nI_leI (a := 40) (b := j) (by omega) (by omega)).mp c1
        refine exf_go 1 (show Q (mk_) h1 from ?_)
        exact k h1 q1 (fun i hi => hv i (by omega))
      · skip
        have c1 : ¬ 40 ≤ j := fun q => c1 ((nI_leI (a := 40) (b := j) (by omega) (by omega)).mpr q)
        refine exf_go 5 (show vp_in (nI j) 40 ∧ (Go d true 317 19 [.ref 91, .long 0, mk_, .int ((nI j) + 1), .int (nI 40)] [] (uJ h1 91 ((nI j).toNatClampNeg) 0) Q) from ⟨(vp_in_nI (by omega) (by omega)), ?_⟩)
        rw [show ((nI j) + 1 : Int32) = nI (j + 1) from nI_add j 1]
        refine exf_go 1 (show Go d true 317 6 [.ref 91, .long 0, mk_, .int (nI (j + 1)), .int (nI 40)] [] (uJ h1 91 ((nI j).toNatClampNeg) 0) Q from ?_)
        exact ih6 (j + 1) _ (by omega) (by omega) (q1.uJ' _ _ _ rfl) (fun i hi => by rw [nI_clamp (by omega)]; exact (Decidable.em (i = j)).elim (fun e => by rw [e, rJ_uJ_eq]) (fun e => by rw [rJ_uJ_at e]; exact hv i (by omega)))
  exact L6 (40 + 1) 0 h (by omega) (by omega) Fq.rfl' (fun i hi => absurd hi (Nat.not_lt_zero _))
theorem c_lay1 {d : Nat} {h : Hp} {so n : Nat} {Q : Po} (hs3 : so ≤ 3) (hn4 : n ≤ 40) (k : ∀ h1, Fq sTr h h1 → (∀ s, s < 4 → s ≠ 1 → rI h1 (88 + 2 * s) = rI h (88 + 2 * s) ∧ rJ h1 (89 + 2 * s) = rJ h (89 + 2 * s)) → CT 1 (some (so, n, fun _ => 0)) h1 → Q mk_ h1) : wpC (d + 2) true 103 [.ref 90, .int (nI so), .int (nI n)] h Q := by
  refine go_in rfl ?_
  refine exf_go 10 (show wpC (d + 1) true 317 [.ref 91, .long 0] (uI (uI h 90 1 (nI so)) 90 2 (nI n)) (fun _ h' => Go (d + 1) true 103 18 [.ref 90, .int (nI so), .int (nI n)] [] h' Q) from ?_)
  refine c_fillL1 (fun h1 q1 hz => ?_)
  show Go (d + 1) true 103 18 [.ref 90, .int (nI so), .int (nI n)] [] h1 Q
  refine exf_go 1 (show Q (mk_) h1 from ?_)
  exact k h1 ((((Fq.uI' Fq.rfl' _ _ _ rfl).uI' _ _ _ rfl).tr (q1.mono (sAt_s (fun _ => rfl))))) (fun s hs q => ⟨q1.I (fun _ => by unfold sAt; rw [Bool.eq_false_iff]; intro z; have := Nat.eq_of_beq_eq_true z; omega) |>.trans ((rI_uI_ne (by omega)).trans (rI_uI_ne (by omega))), q1.J (fun _ => by unfold sAt; rw [Bool.eq_false_iff]; intro z; have := Nat.eq_of_beq_eq_true z; omega)⟩) ⟨hs3, hn4, (q1.1 90 1 rfl).1, (q1.1 90 2 rfl).1, fun i hi => hz i (by omega)⟩
theorem c_miss01 {d : Nat} {h : Hp} {so n : Nat} {vs : Nat → Int64} {Q : Po} (ct : CT 1 (some (so, n, vs)) h) (k : Q (.int 0) h) : wpC (d + 1) true 102 [.ref 90] h Q := by
  have hn4 := ct.2.1; have hs3 := ct.1
  refine go_in rfl ?_
  refine exf_go 2 (show Go d true 102 4 [.ref 90] [.int (rI h 90 2)] h Q from ?_)
  rw [show (rI h 90 2 : Int32) = nI n from ct.2.2.2.1]
  refine exf_go 2 (show (¬ (nI n) = (-1) → Go d true 102 12 [.ref 90] [] h Q) ∧ (¬ (¬ (nI n) = (-1)) → Go d true 102 8 [.ref 90] [] h Q) from ⟨fun c1 => ?_, fun c1 => ?_⟩)
  · skip
    refine exf_go 2 (show ((0 : Int32) = 0 ∨ (0 : Int32) = 1) ∧ Q (.int 0) h from ⟨(by first | exact Or.inl rfl | exact Or.inr rfl | assumption), ?_⟩)
    exact k
  · skip
    exact absurd (ng_eq (by omega) (by decide)) c1
theorem c_miss11 {d : Nat} {h : Hp} {Q : Po} (ct : CT 1 none h) (k : Q (.int 1) h) : wpC (d + 1) true 102 [.ref 90] h Q := by
  refine go_in rfl ?_
  refine exf_go 2 (show Go d true 102 4 [.ref 90] [.int (rI h 90 2)] h Q from ?_)
  rw [show (rI h 90 2 : Int32) = (-1) from ct]
  refine exf_go 2 (show (¬ ((-1) : Int32) = (-1) → Go d true 102 12 [.ref 90] [] h Q) ∧ (¬ (¬ ((-1) : Int32) = (-1)) → Go d true 102 8 [.ref 90] [] h Q) from ⟨fun c1 => ?_, fun c1 => ?_⟩)
  · skip
    exact absurd c1 (by decide)
  · skip
    refine exf_go 3 (show ((1 : Int32) = 0 ∨ (1 : Int32) = 1) ∧ Q (.int 1) h from ⟨(by first | exact Or.inl rfl | exact Or.inr rfl | assumption), ?_⟩)
    exact k
theorem c_tat1 {d : Nat} {h : Hp} {so n : Nat} {vs : Nat → Int64} {i : Nat} {Q : Po} (ct : CT 1 (some (so, n, vs)) h) (hi : i < n) (k : Q (.long (vs i)) h) : wpC (d + 1) true 104 [.ref 90, .int (nI i)] h Q := by
  have hn4 := ct.2.1; have hs3 := ct.1
  refine go_in rfl ?_
  refine exf_go 2 (show ((nI i) < 0 → Go d true 104 21 [.ref 90, .int (nI i)] [] h Q) ∧ (¬ ((nI i) < 0) → Go d true 104 4 [.ref 90, .int (nI i)] [] h Q) from ⟨fun c1 => ?_, fun c1 => ?_⟩)
  · skip
    have c1 : i < 0 := (nI_ltI (a := i) (b := 0) (by omega) (by omega)).mp c1
    refine exf_go 2 (show Q (.long 0) h from ?_)
    first | (exfalso; omega) | exact k
  · skip
    have c1 : ¬ i < 0 := fun q => c1 ((nI_ltI (a := i) (b := 0) (by omega) (by omega)).mpr q)
    refine exf_go 3 (show Go d true 104 9 [.ref 90, .int (nI i)] [.int (rI h 90 2), .int (nI i)] h Q from ?_)
    rw [show (rI h 90 2 : Int32) = nI n from ct.2.2.2.1]
    refine exf_go 1 (show ((nI n) ≤ (nI i) → Go d true 104 21 [.ref 90, .int (nI i)] [] h Q) ∧ (¬ ((nI n) ≤ (nI i)) → Go d true 104 12 [.ref 90, .int (nI i)] [] h Q) from ⟨fun c2 => ?_, fun c2 => ?_⟩)
    · skip
      have c2 : n ≤ i := (nI_leI (a := n) (b := i) (by omega) (by omega)).mp c2
      refine exf_go 2 (show Q (.long 0) h from ?_)
      first | (exfalso; omega) | exact k
    · skip
      have c2 : ¬ n ≤ i := fun q => c2 ((nI_leI (a := n) (b := i) (by omega) (by omega)).mpr q)
      refine exf_go 4 (show vp_in (nI i) 40 ∧ (Go d true 104 18 [.ref 90, .int (nI i)] [.long (rJ h 91 ((nI i).toNatClampNeg))] h Q) from ⟨(vp_in_nI (by omega) (by omega)), ?_⟩)
      rw [show (rJ h 91 ((nI i).toNatClampNeg) : Int64) = vs i from by rw [nI_clamp (by omega)]; exact ct.2.2.2.2 _ (by omega)]
      refine exf_go 2 (show Q (.long (vs i)) h from ?_)
      first | (exfalso; omega) | exact k
theorem c_cut1 {d : Nat} {h : Hp} {so n : Nat} {vs : Nat → Int64} {x : Int64} {Q : Po} (ct : CT 1 (some (so, n, vs)) h) (k : Q (.long (cutV so x)) h) : wpC (d + 1) true 110 [.ref 90, .long x] h Q := by
  have hn4 := ct.2.1; have hs3 := ct.1
  refine go_in rfl ?_
  refine exf_go 2 (show Go d true 110 4 [.ref 90, .long x, mk_] [.int (rI h 90 1)] h Q from ?_)
  rw [show (rI h 90 1 : Int32) = nI so from ct.2.2.1]
  refine exf_go 1 (show ((nI so).toInt < 0 ∨ 2 < (nI so).toInt → Go d true 110 46 [.ref 90, .long x, mk_] [] h Q) ∧ ((nI so).toInt = 0 → Go d true 110 32 [.ref 90, .long x, mk_] [] h Q) ∧ ((nI so).toInt = 1 → Go d true 110 37 [.ref 90, .long x, mk_] [] h Q) ∧ ((nI so).toInt = 2 → Go d true 110 42 [.ref 90, .long x, mk_] [] h Q) ∧ True from ⟨fun c1 => ?_, fun c1 => ?_, fun c1 => ?_, fun c1 => ?_, trivial⟩)
  · skip
    have cy : ¬ so = 0 ∧ ¬ so = 1 ∧ ¬ so = 2 := by rw [nI_toInt (by omega)] at c1; omega
    refine exf_go 2 (show Q (.long x) h from ?_)
    rw [cutV] at k; first | (rw [if_pos (by omega)] at k; exact k) | (rw [if_neg (by omega), if_pos (by omega)] at k; exact k) | (rw [if_neg (by omega), if_neg (by omega), if_pos (by omega)] at k; exact k) | (rw [if_neg (by omega), if_neg (by omega), if_neg (by omega)] at k; exact k)
  · skip
    have cy : so = 0 := by rw [nI_toInt (by omega)] at c1; omega
    refine exf_go 5 (show Q (.long x.toInt32.toInt8.toInt32.toInt64) h from ?_)
    rw [cutV] at k; first | (rw [if_pos (by omega)] at k; exact k) | (rw [if_neg (by omega), if_pos (by omega)] at k; exact k) | (rw [if_neg (by omega), if_neg (by omega), if_pos (by omega)] at k; exact k) | (rw [if_neg (by omega), if_neg (by omega), if_neg (by omega)] at k; exact k)
  · skip
    have cy : so = 1 := by rw [nI_toInt (by omega)] at c1; omega
    refine exf_go 5 (show Q (.long x.toInt32.toInt16.toInt32.toInt64) h from ?_)
    rw [cutV] at k; first | (rw [if_pos (by omega)] at k; exact k) | (rw [if_neg (by omega), if_pos (by omega)] at k; exact k) | (rw [if_neg (by omega), if_neg (by omega), if_pos (by omega)] at k; exact k) | (rw [if_neg (by omega), if_neg (by omega), if_neg (by omega)] at k; exact k)
  · skip
    have cy : so = 2 := by rw [nI_toInt (by omega)] at c1; omega
    refine exf_go 4 (show Q (.long x.toInt32.toInt64) h from ?_)
    rw [cutV] at k; first | (rw [if_pos (by omega)] at k; exact k) | (rw [if_neg (by omega), if_pos (by omega)] at k; exact k) | (rw [if_neg (by omega), if_neg (by omega), if_pos (by omega)] at k; exact k) | (rw [if_neg (by omega), if_neg (by omega), if_neg (by omega)] at k; exact k)
theorem c_put1 {d : Nat} {h : Hp} {so n : Nat} {vs : Nat → Int64} {i : Nat} {x : Int64} {Q : Po} (ct : CT 1 (some (so, n, vs)) h) (hi : i < n) (k : Q mk_ (uJ h 91 i (cutV so x))) : wpC (d + 2) true 105 [.ref 90, .int (nI i), .long x] h Q := by
  have hn4 := ct.2.1; have hs3 := ct.1
  refine go_in rfl ?_
  refine exf_go 2 (show ((nI i) < 0 → Go (d + 1) true 105 23 [.ref 90, .int (nI i), .long x, mk_] [] h Q) ∧ (¬ ((nI i) < 0) → Go (d + 1) true 105 4 [.ref 90, .int (nI i), .long x, mk_] [] h Q) from ⟨fun c1 => ?_, fun c1 => ?_⟩)
  · skip
    have c1 : i < 0 := (nI_ltI (a := i) (b := 0) (by omega) (by omega)).mp c1
    refine exf_go 1 (show Q (mk_) h from ?_)
    first | (exfalso; omega) | (rw [nI_clamp (by omega)]; exact k)
  · skip
    have c1 : ¬ i < 0 := fun q => c1 ((nI_ltI (a := i) (b := 0) (by omega) (by omega)).mpr q)
    refine exf_go 3 (show Go (d + 1) true 105 9 [.ref 90, .int (nI i), .long x, mk_] [.int (rI h 90 2), .int (nI i)] h Q from ?_)
    rw [show (rI h 90 2 : Int32) = nI n from ct.2.2.2.1]
    refine exf_go 1 (show ((nI n) ≤ (nI i) → Go (d + 1) true 105 23 [.ref 90, .int (nI i), .long x, mk_] [] h Q) ∧ (¬ ((nI n) ≤ (nI i)) → Go (d + 1) true 105 12 [.ref 90, .int (nI i), .long x, mk_] [] h Q) from ⟨fun c2 => ?_, fun c2 => ?_⟩)
    · skip
      have c2 : n ≤ i := (nI_leI (a := n) (b := i) (by omega) (by omega)).mp c2
      refine exf_go 1 (show Q (mk_) h from ?_)
      first | (exfalso; omega) | (rw [nI_clamp (by omega)]; exact k)
    · skip
      have c2 : ¬ n ≤ i := fun q => c2 ((nI_leI (a := n) (b := i) (by omega) (by omega)).mpr q)
      refine exf_go 6 (show wpC (d + 1) true 110 [.ref 90, .long x] h (fun r h' => Go (d + 1) true 105 22 [.ref 90, .int (nI i), .long x, mk_] [r, .int (nI i), .ref 91] h' Q) from ?_)
      refine c_cut1 ct ?_
      show Go (d + 1) true 105 22 [.ref 90, .int (nI i), .long x, mk_] [.long (cutV so x), .int (nI i), .ref 91] h Q
      refine exf_go 2 (show vp_in (nI i) 40 ∧ Q (mk_) (uJ h 91 ((nI i).toNatClampNeg) (cutV so x)) from ⟨(vp_in_nI (by omega) (by omega)), ?_⟩)
      first | (exfalso; omega) | (rw [nI_clamp (by omega)]; exact k)
theorem c_fillL2 {d : Nat} {h : Hp} {Q : Po} (k : ∀ h1, Fq (sAt 93) h h1 → (∀ i, i < 40 → rJ h1 93 i = 0) → Q mk_ h1) : wpC (d + 1) true 317 [.ref 93, .long 0] h Q := by
  refine go_in rfl ?_
  refine exf_go 4 (show Go d true 317 4 [.ref 93, .long 0, mk_, .int 0, mk_] [.int (nI 40)] h Q from ?_)
  rw [show (nI 40 : Int32) = nI 40 from rfl]
  refine exf_go 1 (show Go d true 317 6 [.ref 93, .long 0, mk_, .int 0, .int (nI 40)] [] h Q from ?_)
  have L6 : ∀ (k6 : Nat) (j : Nat) (h1 : Hp), (40 - j) < k6 → (j ≤ 40) → (Fq (sAt 93) h h1) → (∀ i, i < j → rJ h1 93 i = 0) → Go d true 317 6 [.ref 93, .long 0, mk_, .int (nI j), .int (nI 40)] [] h1 Q := by
    intro k6
    induction k6 with
    | zero => intro j h1 hk; exact absurd hk (Nat.not_lt_zero _)
    | succ k6 ih6 =>
      intro j h1 hk hj q1 hv
      refine exf_go 3 (show ((nI 40) ≤ (nI j) → Go d true 317 22 [.ref 93, .long 0, mk_, .int (nI j), .int (nI 40)] [] h1 Q) ∧ (¬ ((nI 40) ≤ (nI j)) → Go d true 317 12 [.ref 93, .long 0, mk_, .int (nI j), .int (nI 40)] [] h1 Q) from ⟨fun c1 => ?_, fun c1 => ?_⟩)
      · skip
        have c1 : 40 ≤ j := (nI_leI (a := 40) (b := j) (by omega) (by omega)).mp c1
        refine exf_go 1 (show Q (mk_) h1 from ?_)
        exact k h1 q1 (fun i hi => hv i (by omega))
      · skip
        have c1 : ¬ 40 ≤ j := fun q => c1 ((nI_leI (a := 40) (b := j) (by omega) (by omega)).mpr q)
        refine exf_go 5 (show vp_in (nI j) 40 ∧ (Go d true 317 19 [.ref 93, .long 0, mk_, .int ((nI j) + 1), .int (nI 40)] [] (uJ h1 93 ((nI j).toNatClampNeg) 0) Q) from ⟨(vp_in_nI (by omega) (by omega)), ?_⟩)
        rw [show ((nI j) + 1 : Int32) = nI (j + 1) from nI_add j 1]
        refine exf_go 1 (show Go d true 317 6 [.ref 93, .long 0, mk_, .int (nI (j + 1)), .int (nI 40)] [] (uJ h1 93 ((nI j).toNatClampNeg) 0) Q from ?_)
        exact ih6 (j + 1) _ (by omega) (by omega) (q1.uJ' _ _ _ rfl) (fun i hi => by rw [nI_clamp (by omega)]; exact (Decidable.em (i = j)).elim (fun e => by rw [e, rJ_uJ_eq]) (fun e => by rw [rJ_uJ_at e]; exact hv i (by omega)))
  exact L6 (40 + 1) 0 h (by omega) (by omega) Fq.rfl' (fun i hi => absurd hi (Nat.not_lt_zero _))
theorem c_lay2 {d : Nat} {h : Hp} {so n : Nat} {Q : Po} (hs3 : so ≤ 3) (hn4 : n ≤ 40) (k : ∀ h1, Fq sTr h h1 → (∀ s, s < 4 → s ≠ 2 → rI h1 (88 + 2 * s) = rI h (88 + 2 * s) ∧ rJ h1 (89 + 2 * s) = rJ h (89 + 2 * s)) → CT 2 (some (so, n, fun _ => 0)) h1 → Q mk_ h1) : wpC (d + 2) true 103 [.ref 92, .int (nI so), .int (nI n)] h Q := by
  refine go_in rfl ?_
  refine exf_go 10 (show wpC (d + 1) true 317 [.ref 93, .long 0] (uI (uI h 92 1 (nI so)) 92 2 (nI n)) (fun _ h' => Go (d + 1) true 103 18 [.ref 92, .int (nI so), .int (nI n)] [] h' Q) from ?_)
  refine c_fillL2 (fun h1 q1 hz => ?_)
  show Go (d + 1) true 103 18 [.ref 92, .int (nI so), .int (nI n)] [] h1 Q
  refine exf_go 1 (show Q (mk_) h1 from ?_)
  exact k h1 ((((Fq.uI' Fq.rfl' _ _ _ rfl).uI' _ _ _ rfl).tr (q1.mono (sAt_s (fun _ => rfl))))) (fun s hs q => ⟨q1.I (fun _ => by unfold sAt; rw [Bool.eq_false_iff]; intro z; have := Nat.eq_of_beq_eq_true z; omega) |>.trans ((rI_uI_ne (by omega)).trans (rI_uI_ne (by omega))), q1.J (fun _ => by unfold sAt; rw [Bool.eq_false_iff]; intro z; have := Nat.eq_of_beq_eq_true z; omega)⟩) ⟨hs3, hn4, (q1.1 92 1 rfl).1, (q1.1 92 2 rfl).1, fun i hi => hz i (by omega)⟩
theorem c_miss02 {d : Nat} {h : Hp} {so n : Nat} {vs : Nat → Int64} {Q : Po} (ct : CT 2 (some (so, n, vs)) h) (k : Q (.int 0) h) : wpC (d + 1) true 102 [.ref 92] h Q := by
  have hn4 := ct.2.1; have hs3 := ct.1
  refine go_in rfl ?_
  refine exf_go 2 (show Go d true 102 4 [.ref 92] [.int (rI h 92 2)] h Q from ?_)
  rw [show (rI h 92 2 : Int32) = nI n from ct.2.2.2.1]
  refine exf_go 2 (show (¬ (nI n) = (-1) → Go d true 102 12 [.ref 92] [] h Q) ∧ (¬ (¬ (nI n) = (-1)) → Go d true 102 8 [.ref 92] [] h Q) from ⟨fun c1 => ?_, fun c1 => ?_⟩)
  · skip
    refine exf_go 2 (show ((0 : Int32) = 0 ∨ (0 : Int32) = 1) ∧ Q (.int 0) h from ⟨(by first | exact Or.inl rfl | exact Or.inr rfl | assumption), ?_⟩)
    exact k
  · skip
    exact absurd (ng_eq (by omega) (by decide)) c1
theorem c_miss12 {d : Nat} {h : Hp} {Q : Po} (ct : CT 2 none h) (k : Q (.int 1) h) : wpC (d + 1) true 102 [.ref 92] h Q := by
  refine go_in rfl ?_
  refine exf_go 2 (show Go d true 102 4 [.ref 92] [.int (rI h 92 2)] h Q from ?_)
  rw [show (rI h 92 2 : Int32) = (-1) from ct]
  refine exf_go 2 (show (¬ ((-1) : Int32) = (-1) → Go d true 102 12 [.ref 92] [] h Q) ∧ (¬ (¬ ((-1) : Int32) = (-1)) → Go d true 102 8 [.ref 92] [] h Q) from ⟨fun c1 => ?_, fun c1 => ?_⟩)
  · skip
    exact absurd c1 (by decide)
  · skip
    refine exf_go 3 (show ((1 : Int32) = 0 ∨ (1 : Int32) = 1) ∧ Q (.int 1) h from ⟨(by first | exact Or.inl rfl | exact Or.inr rfl | assumption), ?_⟩)
    exact k
theorem c_tat2 {d : Nat} {h : Hp} {so n : Nat} {vs : Nat → Int64} {i : Nat} {Q : Po} (ct : CT 2 (some (so, n, vs)) h) (hi : i < n) (k : Q (.long (vs i)) h) : wpC (d + 1) true 104 [.ref 92, .int (nI i)] h Q := by
  have hn4 := ct.2.1; have hs3 := ct.1
  refine go_in rfl ?_
  refine exf_go 2 (show ((nI i) < 0 → Go d true 104 21 [.ref 92, .int (nI i)] [] h Q) ∧ (¬ ((nI i) < 0) → Go d true 104 4 [.ref 92, .int (nI i)] [] h Q) from ⟨fun c1 => ?_, fun c1 => ?_⟩)
  · skip
    have c1 : i < 0 := (nI_ltI (a := i) (b := 0) (by omega) (by omega)).mp c1
    refine exf_go 2 (show Q (.long 0) h from ?_)
    first | (exfalso; omega) | exact k
  · skip
    have c1 : ¬ i < 0 := fun q => c1 ((nI_ltI (a := i) (b := 0) (by omega) (by omega)).mpr q)
    refine exf_go 3 (show Go d true 104 9 [.ref 92, .int (nI i)] [.int (rI h 92 2), .int (nI i)] h Q from ?_)
    rw [show (rI h 92 2 : Int32) = nI n from ct.2.2.2.1]
    refine exf_go 1 (show ((nI n) ≤ (nI i) → Go d true 104 21 [.ref 92, .int (nI i)] [] h Q) ∧ (¬ ((nI n) ≤ (nI i)) → Go d true 104 12 [.ref 92, .int (nI i)] [] h Q) from ⟨fun c2 => ?_, fun c2 => ?_⟩)
    · skip
      have c2 : n ≤ i := (nI_leI (a := n) (b := i) (by omega) (by omega)).mp c2
      refine exf_go 2 (show Q (.long 0) h from ?_)
      first | (exfalso; omega) | exact k
    · skip
      have c2 : ¬ n ≤ i := fun q => c2 ((nI_leI (a := n) (b := i) (by omega) (by omega)).mpr q)
      refine exf_go 4 (show vp_in (nI i) 40 ∧ (Go d true 104 18 [.ref 92, .int (nI i)] [.long (rJ h 93 ((nI i).toNatClampNeg))] h Q) from ⟨(vp_in_nI (by omega) (by omega)), ?_⟩)
      rw [show (rJ h 93 ((nI i).toNatClampNeg) : Int64) = vs i from by rw [nI_clamp (by omega)]; exact ct.2.2.2.2 _ (by omega)]
      refine exf_go 2 (show Q (.long (vs i)) h from ?_)
      first | (exfalso; omega) | exact k
theorem c_cut2 {d : Nat} {h : Hp} {so n : Nat} {vs : Nat → Int64} {x : Int64} {Q : Po} (ct : CT 2 (some (so, n, vs)) h) (k : Q (.long (cutV so x)) h) : wpC (d + 1) true 110 [.ref 92, .long x] h Q := by
  have hn4 := ct.2.1; have hs3 := ct.1
  refine go_in rfl ?_
  refine exf_go 2 (show Go d true 110 4 [.ref 92, .long x, mk_] [.int (rI h 92 1)] h Q from ?_)
  rw [show (rI h 92 1 : Int32) = nI so from ct.2.2.1]
  refine exf_go 1 (show ((nI so).toInt < 0 ∨ 2 < (nI so).toInt → Go d true 110 46 [.ref 92, .long x, mk_] [] h Q) ∧ ((nI so).toInt = 0 → Go d true 110 32 [.ref 92, .long x, mk_] [] h Q) ∧ ((nI so).toInt = 1 → Go d true 110 37 [.ref 92, .long x, mk_] [] h Q) ∧ ((nI so).toInt = 2 → Go d true 110 42 [.ref 92, .long x, mk_] [] h Q) ∧ True from ⟨fun c1 => ?_, fun c1 => ?_, fun c1 => ?_, fun c1 => ?_, trivial⟩)
  · skip
    have cy : ¬ so = 0 ∧ ¬ so = 1 ∧ ¬ so = 2 := by rw [nI_toInt (by omega)] at c1; omega
    refine exf_go 2 (show Q (.long x) h from ?_)
    rw [cutV] at k; first | (rw [if_pos (by omega)] at k; exact k) | (rw [if_neg (by omega), if_pos (by omega)] at k; exact k) | (rw [if_neg (by omega), if_neg (by omega), if_pos (by omega)] at k; exact k) | (rw [if_neg (by omega), if_neg (by omega), if_neg (by omega)] at k; exact k)
  · skip
    have cy : so = 0 := by rw [nI_toInt (by omega)] at c1; omega
    refine exf_go 5 (show Q (.long x.toInt32.toInt8.toInt32.toInt64) h from ?_)
    rw [cutV] at k; first | (rw [if_pos (by omega)] at k; exact k) | (rw [if_neg (by omega), if_pos (by omega)] at k; exact k) | (rw [if_neg (by omega), if_neg (by omega), if_pos (by omega)] at k; exact k) | (rw [if_neg (by omega), if_neg (by omega), if_neg (by omega)] at k; exact k)
  · skip
    have cy : so = 1 := by rw [nI_toInt (by omega)] at c1; omega
    refine exf_go 5 (show Q (.long x.toInt32.toInt16.toInt32.toInt64) h from ?_)
    rw [cutV] at k; first | (rw [if_pos (by omega)] at k; exact k) | (rw [if_neg (by omega), if_pos (by omega)] at k; exact k) | (rw [if_neg (by omega), if_neg (by omega), if_pos (by omega)] at k; exact k) | (rw [if_neg (by omega), if_neg (by omega), if_neg (by omega)] at k; exact k)
  · skip
    have cy : so = 2 := by rw [nI_toInt (by omega)] at c1; omega
    refine exf_go 4 (show Q (.long x.toInt32.toInt64) h from ?_)
    rw [cutV] at k; first | (rw [if_pos (by omega)] at k; exact k) | (rw [if_neg (by omega), if_pos (by omega)] at k; exact k) | (rw [if_neg (by omega), if_neg (by omega), if_pos (by omega)] at k; exact k) | (rw [if_neg (by omega), if_neg (by omega), if_neg (by omega)] at k; exact k)
theorem c_put2 {d : Nat} {h : Hp} {so n : Nat} {vs : Nat → Int64} {i : Nat} {x : Int64} {Q : Po} (ct : CT 2 (some (so, n, vs)) h) (hi : i < n) (k : Q mk_ (uJ h 93 i (cutV so x))) : wpC (d + 2) true 105 [.ref 92, .int (nI i), .long x] h Q := by
  have hn4 := ct.2.1; have hs3 := ct.1
  refine go_in rfl ?_
  refine exf_go 2 (show ((nI i) < 0 → Go (d + 1) true 105 23 [.ref 92, .int (nI i), .long x, mk_] [] h Q) ∧ (¬ ((nI i) < 0) → Go (d + 1) true 105 4 [.ref 92, .int (nI i), .long x, mk_] [] h Q) from ⟨fun c1 => ?_, fun c1 => ?_⟩)
  · skip
    have c1 : i < 0 := (nI_ltI (a := i) (b := 0) (by omega) (by omega)).mp c1
    refine exf_go 1 (show Q (mk_) h from ?_)
    first | (exfalso; omega) | (rw [nI_clamp (by omega)]; exact k)
  · skip
    have c1 : ¬ i < 0 := fun q => c1 ((nI_ltI (a := i) (b := 0) (by omega) (by omega)).mpr q)
    refine exf_go 3 (show Go (d + 1) true 105 9 [.ref 92, .int (nI i), .long x, mk_] [.int (rI h 92 2), .int (nI i)] h Q from ?_)
    rw [show (rI h 92 2 : Int32) = nI n from ct.2.2.2.1]
    refine exf_go 1 (show ((nI n) ≤ (nI i) → Go (d + 1) true 105 23 [.ref 92, .int (nI i), .long x, mk_] [] h Q) ∧ (¬ ((nI n) ≤ (nI i)) → Go (d + 1) true 105 12 [.ref 92, .int (nI i), .long x, mk_] [] h Q) from ⟨fun c2 => ?_, fun c2 => ?_⟩)
    · skip
      have c2 : n ≤ i := (nI_leI (a := n) (b := i) (by omega) (by omega)).mp c2
      refine exf_go 1 (show Q (mk_) h from ?_)
      first | (exfalso; omega) | (rw [nI_clamp (by omega)]; exact k)
    · skip
      have c2 : ¬ n ≤ i := fun q => c2 ((nI_leI (a := n) (b := i) (by omega) (by omega)).mpr q)
      refine exf_go 6 (show wpC (d + 1) true 110 [.ref 92, .long x] h (fun r h' => Go (d + 1) true 105 22 [.ref 92, .int (nI i), .long x, mk_] [r, .int (nI i), .ref 93] h' Q) from ?_)
      refine c_cut2 ct ?_
      show Go (d + 1) true 105 22 [.ref 92, .int (nI i), .long x, mk_] [.long (cutV so x), .int (nI i), .ref 93] h Q
      refine exf_go 2 (show vp_in (nI i) 40 ∧ Q (mk_) (uJ h 93 ((nI i).toNatClampNeg) (cutV so x)) from ⟨(vp_in_nI (by omega) (by omega)), ?_⟩)
      first | (exfalso; omega) | (rw [nI_clamp (by omega)]; exact k)
theorem c_fillL3 {d : Nat} {h : Hp} {Q : Po} (k : ∀ h1, Fq (sAt 95) h h1 → (∀ i, i < 40 → rJ h1 95 i = 0) → Q mk_ h1) : wpC (d + 1) true 317 [.ref 95, .long 0] h Q := by
  refine go_in rfl ?_
  refine exf_go 4 (show Go d true 317 4 [.ref 95, .long 0, mk_, .int 0, mk_] [.int (nI 40)] h Q from ?_)
  rw [show (nI 40 : Int32) = nI 40 from rfl]
  refine exf_go 1 (show Go d true 317 6 [.ref 95, .long 0, mk_, .int 0, .int (nI 40)] [] h Q from ?_)
  have L6 : ∀ (k6 : Nat) (j : Nat) (h1 : Hp), (40 - j) < k6 → (j ≤ 40) → (Fq (sAt 95) h h1) → (∀ i, i < j → rJ h1 95 i = 0) → Go d true 317 6 [.ref 95, .long 0, mk_, .int (nI j), .int (nI 40)] [] h1 Q := by
    intro k6
    induction k6 with
    | zero => intro j h1 hk; exact absurd hk (Nat.not_lt_zero _)
    | succ k6 ih6 =>
      intro j h1 hk hj q1 hv
      refine exf_go 3 (show ((nI 40) ≤ (nI j) → Go d true 317 22 [.ref 95, .long 0, mk_, .int (nI j), .int (nI 40)] [] h1 Q) ∧ (¬ ((nI 40) ≤ (nI j)) → Go d true 317 12 [.ref 95, .long 0, mk_, .int (nI j), .int (nI 40)] [] h1 Q) from ⟨fun c1 => ?_, fun c1 => ?_⟩)
      · skip
        have c1 : 40 ≤ j := (nI_leI (a := 40) (b := j) (by omega) (by omega)).mp c1
        refine exf_go 1 (show Q (mk_) h1 from ?_)
        exact k h1 q1 (fun i hi => hv i (by omega))
      · skip
        have c1 : ¬ 40 ≤ j := fun q => c1 ((nI_leI (a := 40) (b := j) (by omega) (by omega)).mpr q)
        refine exf_go 5 (show vp_in (nI j) 40 ∧ (Go d true 317 19 [.ref 95, .long 0, mk_, .int ((nI j) + 1), .int (nI 40)] [] (uJ h1 95 ((nI j).toNatClampNeg) 0) Q) from ⟨(vp_in_nI (by omega) (by omega)), ?_⟩)
        rw [show ((nI j) + 1 : Int32) = nI (j + 1) from nI_add j 1]
        refine exf_go 1 (show Go d true 317 6 [.ref 95, .long 0, mk_, .int (nI (j + 1)), .int (nI 40)] [] (uJ h1 95 ((nI j).toNatClampNeg) 0) Q from ?_)
        exact ih6 (j + 1) _ (by omega) (by omega) (q1.uJ' _ _ _ rfl) (fun i hi => by rw [nI_clamp (by omega)]; exact (Decidable.em (i = j)).elim (fun e => by rw [e, rJ_uJ_eq]) (fun e => by rw [rJ_uJ_at e]; exact hv i (by omega)))
  exact L6 (40 + 1) 0 h (by omega) (by omega) Fq.rfl' (fun i hi => absurd hi (Nat.not_lt_zero _))
theorem c_lay3 {d : Nat} {h : Hp} {so n : Nat} {Q : Po} (hs3 : so ≤ 3) (hn4 : n ≤ 40) (k : ∀ h1, Fq sTr h h1 → (∀ s, s < 4 → s ≠ 3 → rI h1 (88 + 2 * s) = rI h (88 + 2 * s) ∧ rJ h1 (89 + 2 * s) = rJ h (89 + 2 * s)) → CT 3 (some (so, n, fun _ => 0)) h1 → Q mk_ h1) : wpC (d + 2) true 103 [.ref 94, .int (nI so), .int (nI n)] h Q := by
  refine go_in rfl ?_
  refine exf_go 10 (show wpC (d + 1) true 317 [.ref 95, .long 0] (uI (uI h 94 1 (nI so)) 94 2 (nI n)) (fun _ h' => Go (d + 1) true 103 18 [.ref 94, .int (nI so), .int (nI n)] [] h' Q) from ?_)
  refine c_fillL3 (fun h1 q1 hz => ?_)
  show Go (d + 1) true 103 18 [.ref 94, .int (nI so), .int (nI n)] [] h1 Q
  refine exf_go 1 (show Q (mk_) h1 from ?_)
  exact k h1 ((((Fq.uI' Fq.rfl' _ _ _ rfl).uI' _ _ _ rfl).tr (q1.mono (sAt_s (fun _ => rfl))))) (fun s hs q => ⟨q1.I (fun _ => by unfold sAt; rw [Bool.eq_false_iff]; intro z; have := Nat.eq_of_beq_eq_true z; omega) |>.trans ((rI_uI_ne (by omega)).trans (rI_uI_ne (by omega))), q1.J (fun _ => by unfold sAt; rw [Bool.eq_false_iff]; intro z; have := Nat.eq_of_beq_eq_true z; omega)⟩) ⟨hs3, hn4, (q1.1 94 1 rfl).1, (q1.1 94 2 rfl).1, fun i hi => hz i (by omega)⟩
theorem c_miss03 {d : Nat} {h : Hp} {so n : Nat} {vs : Nat → Int64} {Q : Po} (ct : CT 3 (some (so, n, vs)) h) (k : Q (.int 0) h) : wpC (d + 1) true 102 [.ref 94] h Q := by
  have hn4 := ct.2.1; have hs3 := ct.1
  refine go_in rfl ?_
  refine exf_go 2 (show Go d true 102 4 [.ref 94] [.int (rI h 94 2)] h Q from ?_)
  rw [show (rI h 94 2 : Int32) = nI n from ct.2.2.2.1]
  refine exf_go 2 (show (¬ (nI n) = (-1) → Go d true 102 12 [.ref 94] [] h Q) ∧ (¬ (¬ (nI n) = (-1)) → Go d true 102 8 [.ref 94] [] h Q) from ⟨fun c1 => ?_, fun c1 => ?_⟩)
  · skip
    refine exf_go 2 (show ((0 : Int32) = 0 ∨ (0 : Int32) = 1) ∧ Q (.int 0) h from ⟨(by first | exact Or.inl rfl | exact Or.inr rfl | assumption), ?_⟩)
    exact k
  · skip
    exact absurd (ng_eq (by omega) (by decide)) c1
theorem c_miss13 {d : Nat} {h : Hp} {Q : Po} (ct : CT 3 none h) (k : Q (.int 1) h) : wpC (d + 1) true 102 [.ref 94] h Q := by
  refine go_in rfl ?_
  refine exf_go 2 (show Go d true 102 4 [.ref 94] [.int (rI h 94 2)] h Q from ?_)
  rw [show (rI h 94 2 : Int32) = (-1) from ct]
  refine exf_go 2 (show (¬ ((-1) : Int32) = (-1) → Go d true 102 12 [.ref 94] [] h Q) ∧ (¬ (¬ ((-1) : Int32) = (-1)) → Go d true 102 8 [.ref 94] [] h Q) from ⟨fun c1 => ?_, fun c1 => ?_⟩)
  · skip
    exact absurd c1 (by decide)
  · skip
    refine exf_go 3 (show ((1 : Int32) = 0 ∨ (1 : Int32) = 1) ∧ Q (.int 1) h from ⟨(by first | exact Or.inl rfl | exact Or.inr rfl | assumption), ?_⟩)
    exact k
theorem c_tat3 {d : Nat} {h : Hp} {so n : Nat} {vs : Nat → Int64} {i : Nat} {Q : Po} (ct : CT 3 (some (so, n, vs)) h) (hi : i < n) (k : Q (.long (vs i)) h) : wpC (d + 1) true 104 [.ref 94, .int (nI i)] h Q := by
  have hn4 := ct.2.1; have hs3 := ct.1
  refine go_in rfl ?_
  refine exf_go 2 (show ((nI i) < 0 → Go d true 104 21 [.ref 94, .int (nI i)] [] h Q) ∧ (¬ ((nI i) < 0) → Go d true 104 4 [.ref 94, .int (nI i)] [] h Q) from ⟨fun c1 => ?_, fun c1 => ?_⟩)
  · skip
    have c1 : i < 0 := (nI_ltI (a := i) (b := 0) (by omega) (by omega)).mp c1
    refine exf_go 2 (show Q (.long 0) h from ?_)
    first | (exfalso; omega) | exact k
  · skip
    have c1 : ¬ i < 0 := fun q => c1 ((nI_ltI (a := i) (b := 0) (by omega) (by omega)).mpr q)
    refine exf_go 3 (show Go d true 104 9 [.ref 94, .int (nI i)] [.int (rI h 94 2), .int (nI i)] h Q from ?_)
    rw [show (rI h 94 2 : Int32) = nI n from ct.2.2.2.1]
    refine exf_go 1 (show ((nI n) ≤ (nI i) → Go d true 104 21 [.ref 94, .int (nI i)] [] h Q) ∧ (¬ ((nI n) ≤ (nI i)) → Go d true 104 12 [.ref 94, .int (nI i)] [] h Q) from ⟨fun c2 => ?_, fun c2 => ?_⟩)
    · skip
      have c2 : n ≤ i := (nI_leI (a := n) (b := i) (by omega) (by omega)).mp c2
      refine exf_go 2 (show Q (.long 0) h from ?_)
      first | (exfalso; omega) | exact k
    · skip
      have c2 : ¬ n ≤ i := fun q => c2 ((nI_leI (a := n) (b := i) (by omega) (by omega)).mpr q)
      refine exf_go 4 (show vp_in (nI i) 40 ∧ (Go d true 104 18 [.ref 94, .int (nI i)] [.long (rJ h 95 ((nI i).toNatClampNeg))] h Q) from ⟨(vp_in_nI (by omega) (by omega)), ?_⟩)
      rw [show (rJ h 95 ((nI i).toNatClampNeg) : Int64) = vs i from by rw [nI_clamp (by omega)]; exact ct.2.2.2.2 _ (by omega)]
      refine exf_go 2 (show Q (.long (vs i)) h from ?_)
      first | (exfalso; omega) | exact k
theorem c_cut3 {d : Nat} {h : Hp} {so n : Nat} {vs : Nat → Int64} {x : Int64} {Q : Po} (ct : CT 3 (some (so, n, vs)) h) (k : Q (.long (cutV so x)) h) : wpC (d + 1) true 110 [.ref 94, .long x] h Q := by
  have hn4 := ct.2.1; have hs3 := ct.1
  refine go_in rfl ?_
  refine exf_go 2 (show Go d true 110 4 [.ref 94, .long x, mk_] [.int (rI h 94 1)] h Q from ?_)
  rw [show (rI h 94 1 : Int32) = nI so from ct.2.2.1]
  refine exf_go 1 (show ((nI so).toInt < 0 ∨ 2 < (nI so).toInt → Go d true 110 46 [.ref 94, .long x, mk_] [] h Q) ∧ ((nI so).toInt = 0 → Go d true 110 32 [.ref 94, .long x, mk_] [] h Q) ∧ ((nI so).toInt = 1 → Go d true 110 37 [.ref 94, .long x, mk_] [] h Q) ∧ ((nI so).toInt = 2 → Go d true 110 42 [.ref 94, .long x, mk_] [] h Q) ∧ True from ⟨fun c1 => ?_, fun c1 => ?_, fun c1 => ?_, fun c1 => ?_, trivial⟩)
  · skip
    have cy : ¬ so = 0 ∧ ¬ so = 1 ∧ ¬ so = 2 := by rw [nI_toInt (by omega)] at c1; omega
    refine exf_go 2 (show Q (.long x) h from ?_)
    rw [cutV] at k; first | (rw [if_pos (by omega)] at k; exact k) | (rw [if_neg (by omega), if_pos (by omega)] at k; exact k) | (rw [if_neg (by omega), if_neg (by omega), if_pos (by omega)] at k; exact k) | (rw [if_neg (by omega), if_neg (by omega), if_neg (by omega)] at k; exact k)
  · skip
    have cy : so = 0 := by rw [nI_toInt (by omega)] at c1; omega
    refine exf_go 5 (show Q (.long x.toInt32.toInt8.toInt32.toInt64) h from ?_)
    rw [cutV] at k; first | (rw [if_pos (by omega)] at k; exact k) | (rw [if_neg (by omega), if_pos (by omega)] at k; exact k) | (rw [if_neg (by omega), if_neg (by omega), if_pos (by omega)] at k; exact k) | (rw [if_neg (by omega), if_neg (by omega), if_neg (by omega)] at k; exact k)
  · skip
    have cy : so = 1 := by rw [nI_toInt (by omega)] at c1; omega
    refine exf_go 5 (show Q (.long x.toInt32.toInt16.toInt32.toInt64) h from ?_)
    rw [cutV] at k; first | (rw [if_pos (by omega)] at k; exact k) | (rw [if_neg (by omega), if_pos (by omega)] at k; exact k) | (rw [if_neg (by omega), if_neg (by omega), if_pos (by omega)] at k; exact k) | (rw [if_neg (by omega), if_neg (by omega), if_neg (by omega)] at k; exact k)
  · skip
    have cy : so = 2 := by rw [nI_toInt (by omega)] at c1; omega
    refine exf_go 4 (show Q (.long x.toInt32.toInt64) h from ?_)
    rw [cutV] at k; first | (rw [if_pos (by omega)] at k; exact k) | (rw [if_neg (by omega), if_pos (by omega)] at k; exact k) | (rw [if_neg (by omega), if_neg (by omega), if_pos (by omega)] at k; exact k) | (rw [if_neg (by omega), if_neg (by omega), if_neg (by omega)] at k; exact k)
theorem c_put3 {d : Nat} {h : Hp} {so n : Nat} {vs : Nat → Int64} {i : Nat} {x : Int64} {Q : Po} (ct : CT 3 (some (so, n, vs)) h) (hi : i < n) (k : Q mk_ (uJ h 95 i (cutV so x))) : wpC (d + 2) true 105 [.ref 94, .int (nI i), .long x] h Q := by
  have hn4 := ct.2.1; have hs3 := ct.1
  refine go_in rfl ?_
  refine exf_go 2 (show ((nI i) < 0 → Go (d + 1) true 105 23 [.ref 94, .int (nI i), .long x, mk_] [] h Q) ∧ (¬ ((nI i) < 0) → Go (d + 1) true 105 4 [.ref 94, .int (nI i), .long x, mk_] [] h Q) from ⟨fun c1 => ?_, fun c1 => ?_⟩)
  · skip
    have c1 : i < 0 := (nI_ltI (a := i) (b := 0) (by omega) (by omega)).mp c1
    refine exf_go 1 (show Q (mk_) h from ?_)
    first | (exfalso; omega) | (rw [nI_clamp (by omega)]; exact k)
  · skip
    have c1 : ¬ i < 0 := fun q => c1 ((nI_ltI (a := i) (b := 0) (by omega) (by omega)).mpr q)
    refine exf_go 3 (show Go (d + 1) true 105 9 [.ref 94, .int (nI i), .long x, mk_] [.int (rI h 94 2), .int (nI i)] h Q from ?_)
    rw [show (rI h 94 2 : Int32) = nI n from ct.2.2.2.1]
    refine exf_go 1 (show ((nI n) ≤ (nI i) → Go (d + 1) true 105 23 [.ref 94, .int (nI i), .long x, mk_] [] h Q) ∧ (¬ ((nI n) ≤ (nI i)) → Go (d + 1) true 105 12 [.ref 94, .int (nI i), .long x, mk_] [] h Q) from ⟨fun c2 => ?_, fun c2 => ?_⟩)
    · skip
      have c2 : n ≤ i := (nI_leI (a := n) (b := i) (by omega) (by omega)).mp c2
      refine exf_go 1 (show Q (mk_) h from ?_)
      first | (exfalso; omega) | (rw [nI_clamp (by omega)]; exact k)
    · skip
      have c2 : ¬ n ≤ i := fun q => c2 ((nI_leI (a := n) (b := i) (by omega) (by omega)).mpr q)
      refine exf_go 6 (show wpC (d + 1) true 110 [.ref 94, .long x] h (fun r h' => Go (d + 1) true 105 22 [.ref 94, .int (nI i), .long x, mk_] [r, .int (nI i), .ref 95] h' Q) from ?_)
      refine c_cut3 ct ?_
      show Go (d + 1) true 105 22 [.ref 94, .int (nI i), .long x, mk_] [.long (cutV so x), .int (nI i), .ref 95] h Q
      refine exf_go 2 (show vp_in (nI i) 40 ∧ Q (mk_) (uJ h 95 ((nI i).toNatClampNeg) (cutV so x)) from ⟨(vp_in_nI (by omega) (by omega)), ?_⟩)
      first | (exfalso; omega) | (rw [nI_clamp (by omega)]; exact k)
