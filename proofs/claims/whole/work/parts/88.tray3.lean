/-! What a tray holds. -/
/-- x is among the first n of v -/
def tld (v : Nat → Int64) (x : Int64) : Nat → Bool
  | 0 => false
  | n + 1 => tld v x n || decide (v n = x)
theorem tld_iff (v : Nat → Int64) (x : Int64) : ∀ n, tld v x n = true ↔ ∃ i, i < n ∧ v i = x
  | 0 => ⟨fun h => by simp [tld] at h, fun ⟨i, h, _⟩ => absurd h (Nat.not_lt_zero _)⟩
  | n + 1 => by
    rw [tld, Bool.or_eq_true, tld_iff v x n, decide_eq_true_eq]
    constructor
    · rintro (⟨i, h, e⟩ | e)
      · exact ⟨i, by omega, e⟩
      · exact ⟨n, by omega, e⟩
    · rintro ⟨i, h, e⟩
      by_cases q : i = n
      · subst q; exact Or.inr e
      · exact Or.inl ⟨i, by omega, e⟩
theorem tld_no {v : Nat → Int64} {x : Int64} {n : Nat} (h : tld v x n = false) {i : Nat} (hi : i < n) : v i ≠ x := fun q => by
  have := (tld_iff v x n).mpr ⟨i, hi, q⟩
  rw [h] at this
  exact Bool.noConfusion this
/-- none ahead of k is like it -/
def frB (v : Nat → Int64) (k : Nat) : Bool := !(tld v (v k) k)
def unl (v : Nat → Int64) (n : Nat) : Nat := cntN (frB v) n
/-- all of the first n are places among N -/
def awB (v : Nat → Int64) (N : Nat) : Nat → Bool
  | 0 => true
  | n + 1 => awB v N n && (ixL (v n) N).isSome
theorem aw_no {v : Nat → Int64} {N i : Nat} (h : ixL (v i) N = none) : ∀ n, i < n → awB v N n = false
  | 0, hi => absurd hi (Nat.not_lt_zero _)
  | n + 1, hi => by
    rw [awB]
    by_cases q : i = n
    · subst q; rw [h, Option.isSome_none, Bool.and_false]
    · rw [aw_no h n (by omega), Bool.false_and]
theorem aw_at {v : Nat → Int64} {N : Nat} (hN : N < 2 ^ 63) : ∀ n, awB v N n = true → ∀ i, i < n → ∃ j, ixL (v i) N = some j ∧ v i = lN j ∧ j < N
  | 0, _, i, hi => absurd hi (Nat.not_lt_zero _)
  | n + 1, h, i, hi => by
    rw [awB, Bool.and_eq_true] at h
    by_cases q : i = n
    · subst q
      cases e : ixL (v i) N with
      | none => rw [e] at h; exact absurd h.2 (by decide)
      | some j =>
        have e2 := e
        unfold ixL at e2
        split at e2
        · cases e2
        · rename_i q
          obtain ⟨j2, z1, z2, z3⟩ := il_in hN (fun z => q (Or.inl z)) (fun z => q (Or.inr z))
          rw [e] at z1
          cases z1
          exact ⟨j, rfl, z2, z3⟩
    · exact aw_at hN n h.1 i (by omega)
theorem c_fp0 {d : Nat} {h : Hp} {so n : Nat} {vs : Nat → Int64} {x : Int64} {Q : Po} (ct : CT 0 (some (so, n, vs)) h) (k : ∀ i, i ≤ n → tld vs x i = false → (i < n → vs i = x) → Q (.int (nI i)) h) : wpC (d + 1) true 109 [.ref 88, .long x] h Q := by
  have hn4 := ct.2.1; have hs3 := ct.1
  refine go_in rfl ?_
  refine exf_go 2 (show Go d true 109 2 [.ref 88, .long x, mk_, .int 0] [] h Q from ?_)
  have L2 : ∀ (k2 : Nat) (i : Nat), (n - i) < k2 → (i ≤ n) → (tld vs x i = false) → Go d true 109 2 [.ref 88, .long x, mk_, .int (nI i)] [] h Q := by
    intro k2
    induction k2 with
    | zero => intro i hk; exact absurd hk (Nat.not_lt_zero _)
    | succ k2 ih2 =>
      intro i hk hi ht
      refine exf_go 3 (show Go d true 109 7 [.ref 88, .long x, mk_, .int (nI i)] [.int (rI h 88 2), .int (nI i)] h Q from ?_)
      rw [show (rI h 88 2 : Int32) = nI n from ct.2.2.2.1]
      refine exf_go 1 (show ((nI n) ≤ (nI i) → Go d true 109 27 [.ref 88, .long x, mk_, .int (nI i)] [] h Q) ∧ (¬ ((nI n) ≤ (nI i)) → Go d true 109 10 [.ref 88, .long x, mk_, .int (nI i)] [] h Q) from ⟨fun c1 => ?_, fun c1 => ?_⟩)
      · skip
        have c1 : n ≤ i := (nI_leI (a := n) (b := i) (by omega) (by omega)).mp c1
        refine exf_go 2 (show Q (.int (nI i)) h from ?_)
        first | exact k i (by omega) ht (fun _ => by assumption) | exact k i (by omega) ht (fun z => absurd z (by omega))
      · skip
        have c1 : ¬ n ≤ i := fun q => c1 ((nI_leI (a := n) (b := i) (by omega) (by omega)).mpr q)
        refine exf_go 4 (show vp_in (nI i) 40 ∧ (Go d true 109 16 [.ref 88, .long x, mk_, .int (nI i)] [.long (rJ h 89 ((nI i).toNatClampNeg))] h Q) from ⟨(vp_in_nI (by omega) (by omega)), ?_⟩)
        rw [show (rJ h 89 ((nI i).toNatClampNeg) : Int64) = vs i from by rw [nI_clamp (by omega)]; exact ct.2.2.2.2 _ (by omega)]
        refine exf_go 3 (show ((lg_cmp (vs i) x) = 0 → Go d true 109 27 [.ref 88, .long x, mk_, .int (nI i)] [] h Q) ∧ (¬ ((lg_cmp (vs i) x) = 0) → Go d true 109 21 [.ref 88, .long x, mk_, .int (nI i)] [] h Q) from ⟨fun c2 => ?_, fun c2 => ?_⟩)
        · skip
          have c2 : (vs i) = x := (lg_cmp_eq _ _).mp c2
          refine exf_go 2 (show Q (.int (nI i)) h from ?_)
          first | exact k i (by omega) ht (fun _ => by assumption) | exact k i (by omega) ht (fun z => absurd z (by omega))
        · skip
          have c2 : ¬ ((vs i) = x) := fun q => c2 ((lg_cmp_eq _ _).mpr q)
          refine exf_go 1 (show Go d true 109 24 [.ref 88, .long x, mk_, .int ((nI i) + 1)] [] h Q from ?_)
          rw [show ((nI i) + 1 : Int32) = nI (i + 1) from nI_add i 1]
          refine exf_go 1 (show Go d true 109 2 [.ref 88, .long x, mk_, .int (nI (i + 1))] [] h Q from ?_)
          exact ih2 (i + 1) (by omega) (by omega) (by rw [tld, ht, decide_eq_false (by assumption)]; rfl)
  exact L2 (n + 1) 0 (by omega) (by omega) rfl
theorem c_has0 {d : Nat} {h : Hp} {so n : Nat} {vs : Nat → Int64} {x : Int64} {Q : Po} (ct : CT 0 (some (so, n, vs)) h) (k1 : tld vs x n = true → Q (.int 1) h) (k0 : tld vs x n = false → Q (.int 0) h) : wpC (d + 2) true 107 [.ref 88, .long x] h Q := by
  have hn4 := ct.2.1; have hs3 := ct.1
  refine go_in rfl ?_
  refine exf_go 3 (show wpC (d + 1) true 109 [.ref 88, .long x] h (fun r h' => Go (d + 1) true 107 5 [.ref 88, .long x, mk_] [r] h' Q) from ?_)
  refine c_fp0 ct (x := x) (fun i hi ht hx => ?_)
  show Go (d + 1) true 107 5 [.ref 88, .long x, mk_] [.int (nI i)] h Q
  refine exf_go 2 (show Go (d + 1) true 107 9 [.ref 88, .long x, mk_] [.int (rI h 88 2), .int (nI i)] h Q from ?_)
  rw [show (rI h 88 2 : Int32) = nI n from ct.2.2.2.1]
  refine exf_go 1 (show ((nI n) ≤ (nI i) → Go (d + 1) true 107 16 [.ref 88, .long x, mk_] [] h Q) ∧ (¬ ((nI n) ≤ (nI i)) → Go (d + 1) true 107 12 [.ref 88, .long x, mk_] [] h Q) from ⟨fun c1 => ?_, fun c1 => ?_⟩)
  · skip
    have c1 : n ≤ i := (nI_leI (a := n) (b := i) (by omega) (by omega)).mp c1
    refine exf_go 2 (show ((0 : Int32) = 0 ∨ (0 : Int32) = 1) ∧ Q (.int 0) h from ⟨(by first | exact Or.inl rfl | exact Or.inr rfl | assumption), ?_⟩)
    exact k0 (by rw [← show i = n from by omega]; exact ht)
  · skip
    have c1 : ¬ n ≤ i := fun q => c1 ((nI_leI (a := n) (b := i) (by omega) (by omega)).mpr q)
    refine exf_go 3 (show ((1 : Int32) = 0 ∨ (1 : Int32) = 1) ∧ Q (.int 1) h from ⟨(by first | exact Or.inl rfl | exact Or.inr rfl | assumption), ?_⟩)
    exact k1 ((tld_iff vs x n).mpr ⟨i, by omega, hx (by omega)⟩)
theorem c_unl0 {d : Nat} {h : Hp} {so n : Nat} {vs : Nat → Int64} {Q : Po} (ct : CT 0 (some (so, n, vs)) h) (k : Q (.int (nI (unl vs n))) h) : wpC (d + 2) true 108 [.ref 88] h Q := by
  have hn4 := ct.2.1; have hs3 := ct.1
  refine go_in rfl ?_
  refine exf_go 4 (show Go (d + 1) true 108 4 [.ref 88, .int 0, .int 0] [] h Q from ?_)
  have L4 : ∀ (k4 : Nat) (j s : Nat), (n - j) < k4 → (j ≤ n) → (s = cntN (frB vs) j) → Go (d + 1) true 108 4 [.ref 88, .int (nI s), .int (nI j)] [] h Q := by
    intro k4
    induction k4 with
    | zero => intro j s hk; exact absurd hk (Nat.not_lt_zero _)
    | succ k4 ih4 =>
      intro j s hk hj hs
      have hcl := cntN_le (frB vs) j
      refine exf_go 3 (show Go (d + 1) true 108 9 [.ref 88, .int (nI s), .int (nI j)] [.int (rI h 88 2), .int (nI j)] h Q from ?_)
      rw [show (rI h 88 2 : Int32) = nI n from ct.2.2.2.1]
      refine exf_go 1 (show ((nI n) ≤ (nI j) → Go (d + 1) true 108 35 [.ref 88, .int (nI s), .int (nI j)] [] h Q) ∧ (¬ ((nI n) ≤ (nI j)) → Go (d + 1) true 108 12 [.ref 88, .int (nI s), .int (nI j)] [] h Q) from ⟨fun c1 => ?_, fun c1 => ?_⟩)
      · skip
        have c1 : n ≤ j := (nI_leI (a := n) (b := j) (by omega) (by omega)).mp c1
        refine exf_go 2 (show Q (.int (nI s)) h from ?_)
        rw [unl, ← show j = n from by omega, ← hs] at k; exact k
      · skip
        have c1 : ¬ n ≤ j := fun q => c1 ((nI_leI (a := n) (b := j) (by omega) (by omega)).mpr q)
        refine exf_go 5 (show vp_in (nI j) 40 ∧ (Go (d + 1) true 108 19 [.ref 88, .int (nI s), .int (nI j)] [.long (rJ h 89 ((nI j).toNatClampNeg)), .ref 88] h Q) from ⟨(vp_in_nI (by omega) (by omega)), ?_⟩)
        rw [show (rJ h 89 ((nI j).toNatClampNeg) : Int64) = vs j from by rw [nI_clamp (by omega)]; exact ct.2.2.2.2 _ (by omega)]
        refine exf_go 1 (show wpC (d + 1) true 109 [.ref 88, .long (vs j)] h (fun r h' => Go (d + 1) true 108 22 [.ref 88, .int (nI s), .int (nI j)] [r] h' Q) from ?_)
        refine c_fp0 ct (x := vs j) (fun i hi ht hx => ?_)
        show Go (d + 1) true 108 22 [.ref 88, .int (nI s), .int (nI j)] [.int (nI i)] h Q
        refine exf_go 2 (show (¬ (nI i) = (nI j) → Go (d + 1) true 108 29 [.ref 88, .int (nI s), .int (nI j)] [] h Q) ∧ (¬ (¬ (nI i) = (nI j)) → Go (d + 1) true 108 26 [.ref 88, .int (nI s), .int (nI j)] [] h Q) from ⟨fun c2 => ?_, fun c2 => ?_⟩)
        · skip
          have c2 : ¬ i = j := fun q => c2 ((nI_eq (a := i) (b := j) (by omega) (by omega)).mpr q)
          refine exf_go 1 (show Go (d + 1) true 108 32 [.ref 88, .int (nI s), .int ((nI j) + 1)] [] h Q from ?_)
          rw [show ((nI j) + 1 : Int32) = nI (j + 1) from nI_add j 1]
          refine exf_go 1 (show Go (d + 1) true 108 4 [.ref 88, .int (nI s), .int (nI (j + 1))] [] h Q from ?_)
          exact ih4 (j + 1) s (by omega) (by omega) (cn_n hs (by unfold frB; rw [show tld vs (vs j) j = true from (tld_iff _ _ _).mpr ⟨i, Nat.lt_of_le_of_ne (Nat.le_of_not_lt (fun q => tld_no ht q rfl)) (by omega), hx (by have := Nat.le_of_not_lt (fun q => tld_no ht q rfl); omega)⟩]; rfl))
        · skip
          have c2 : i = j := (nI_eq (a := i) (b := j) (by omega) (by omega)).mp (Classical.not_not.mp c2)
          refine exf_go 1 (show Go (d + 1) true 108 29 [.ref 88, .int ((nI s) + 1), .int (nI j)] [] h Q from ?_)
          rw [show ((nI s) + 1 : Int32) = nI (s + 1) from nI_add s 1]
          refine exf_go 1 (show Go (d + 1) true 108 32 [.ref 88, .int (nI (s + 1)), .int ((nI j) + 1)] [] h Q from ?_)
          rw [show ((nI j) + 1 : Int32) = nI (j + 1) from nI_add j 1]
          refine exf_go 1 (show Go (d + 1) true 108 4 [.ref 88, .int (nI (s + 1)), .int (nI (j + 1))] [] h Q from ?_)
          exact ih4 (j + 1) (s + 1) (by omega) (by omega) (cn_y hs (by unfold frB; rw [show tld vs (vs j) j = false from by rw [show i = j from by omega] at ht; exact ht]; rfl))
  exact L4 (n + 1) 0 0 (by omega) (by omega) rfl
theorem lt_ge {x : Int64} {N : Nat} (hN : N < 2 ^ 31) (h : ¬ x ≤ lN N) : lN (N + 1) ≤ x := by
  rw [Int64.le_iff_toInt_le, pk_lT (by omega)] at h ⊢
  omega
theorem aw_some {x : Int64} {N : Nat} (hN : N < 2 ^ 31) (h : ¬ x < 0) (h2 : x ≤ lN N) : (ixL x (N + 1)).isSome = true := by
  obtain ⟨j, e, _⟩ := il_in (n := N + 1) (by omega) h (fun q => by
    rw [Int64.le_iff_toInt_le, pk_lT (by omega)] at h2 q
    omega)
  rw [e]; rfl
theorem c_aw0 {d : Nat} {h : Hp} {so n : Nat} {vs : Nat → Int64} {N : Nat} {Q : Po} (ct : CT 0 (some (so, n, vs)) h) (hN : N < 2 ^ 31) (k1 : awB vs (N + 1) n = true → Q (.int 1) h) (k0 : awB vs (N + 1) n = false → Q (.int 0) h) : wpC (d + 1) true 106 [.ref 88, .int (nI N)] h Q := by
  have hn4 := ct.2.1; have hs3 := ct.1
  refine go_in rfl ?_
  refine exf_go 2 (show Go d true 106 2 [.ref 88, .int (nI N), .int 0] [] h Q from ?_)
  have L2 : ∀ (k2 : Nat) (i : Nat), (n - i) < k2 → (i ≤ n) → (awB vs (N + 1) i = true) → Go d true 106 2 [.ref 88, .int (nI N), .int (nI i)] [] h Q := by
    intro k2
    induction k2 with
    | zero => intro i hk; exact absurd hk (Nat.not_lt_zero _)
    | succ k2 ih2 =>
      intro i hk hi ha
      refine exf_go 3 (show Go d true 106 7 [.ref 88, .int (nI N), .int (nI i)] [.int (rI h 88 2), .int (nI i)] h Q from ?_)
      rw [show (rI h 88 2 : Int32) = nI n from ct.2.2.2.1]
      refine exf_go 1 (show ((nI n) ≤ (nI i) → Go d true 106 41 [.ref 88, .int (nI N), .int (nI i)] [] h Q) ∧ (¬ ((nI n) ≤ (nI i)) → Go d true 106 10 [.ref 88, .int (nI N), .int (nI i)] [] h Q) from ⟨fun c1 => ?_, fun c1 => ?_⟩)
      · skip
        have c1 : n ≤ i := (nI_leI (a := n) (b := i) (by omega) (by omega)).mp c1
        refine exf_go 2 (show ((1 : Int32) = 0 ∨ (1 : Int32) = 1) ∧ Q (.int 1) h from ⟨(by first | exact Or.inl rfl | exact Or.inr rfl | assumption), ?_⟩)
        exact k1 (by rw [← show i = n from by omega]; exact ha)
      · skip
        have c1 : ¬ n ≤ i := fun q => c1 ((nI_leI (a := n) (b := i) (by omega) (by omega)).mpr q)
        refine exf_go 4 (show vp_in (nI i) 40 ∧ (Go d true 106 16 [.ref 88, .int (nI N), .int (nI i)] [.long (rJ h 89 ((nI i).toNatClampNeg))] h Q) from ⟨(vp_in_nI (by omega) (by omega)), ?_⟩)
        rw [show (rJ h 89 ((nI i).toNatClampNeg) : Int64) = vs i from by rw [nI_clamp (by omega)]; exact ct.2.2.2.2 _ (by omega)]
        refine exf_go 3 (show ((lg_cmp (vs i) 0) < 0 → Go d true 106 33 [.ref 88, .int (nI N), .int (nI i)] [] h Q) ∧ (¬ ((lg_cmp (vs i) 0) < 0) → Go d true 106 21 [.ref 88, .int (nI N), .int (nI i)] [] h Q) from ⟨fun c2 => ?_, fun c2 => ?_⟩)
        · skip
          have c2 : (vs i) < 0 := (lg_cmp_lt _ _).mp c2
          refine exf_go 2 (show ((0 : Int32) = 0 ∨ (0 : Int32) = 1) ∧ Q (.int 0) h from ⟨(by first | exact Or.inl rfl | exact Or.inr rfl | assumption), ?_⟩)
          first | exact k0 (aw_no (i := i) (il_neg (by assumption)) n (by omega)) | exact k0 (aw_no (i := i) (il_ge (lt_ge hN (by assumption))) n (by omega))
        · skip
          have c2 : ¬ ((vs i) < 0) := fun q => c2 ((lg_cmp_lt _ _).mpr q)
          refine exf_go 4 (show vp_in (nI i) 40 ∧ (Go d true 106 27 [.ref 88, .int (nI N), .int (nI i)] [.long (rJ h 89 ((nI i).toNatClampNeg))] h Q) from ⟨(vp_in_nI (by omega) (by omega)), ?_⟩)
          rw [show (rJ h 89 ((nI i).toNatClampNeg) : Int64) = vs i from by rw [nI_clamp (by omega)]; exact ct.2.2.2.2 _ (by omega)]
          refine exf_go 2 (show Go d true 106 29 [.ref 88, .int (nI N), .int (nI i)] [.long ((nI N).toInt64), .long (vs i)] h Q from ?_)
          rw [show ((nI N).toInt64 : Int64) = lN N from nI_l (n := N) (by omega)]
          refine exf_go 2 (show ((lg_cmp (vs i) (lN N)) ≤ 0 → Go d true 106 35 [.ref 88, .int (nI N), .int (nI i)] [] h Q) ∧ (¬ ((lg_cmp (vs i) (lN N)) ≤ 0) → Go d true 106 33 [.ref 88, .int (nI N), .int (nI i)] [] h Q) from ⟨fun c3 => ?_, fun c3 => ?_⟩)
          · skip
            have c3 : (vs i) ≤ (lN N) := (lg_cmp_le _ _).mp c3
            refine exf_go 1 (show Go d true 106 38 [.ref 88, .int (nI N), .int ((nI i) + 1)] [] h Q from ?_)
            rw [show ((nI i) + 1 : Int32) = nI (i + 1) from nI_add i 1]
            refine exf_go 1 (show Go d true 106 2 [.ref 88, .int (nI N), .int (nI (i + 1))] [] h Q from ?_)
            exact ih2 (i + 1) (by omega) (by omega) (by rw [awB, ha, aw_some (by omega) c2 c3]; rfl)
          · skip
            have c3 : ¬ ((vs i) ≤ (lN N)) := fun q => c3 ((lg_cmp_le _ _).mpr q)
            refine exf_go 2 (show ((0 : Int32) = 0 ∨ (0 : Int32) = 1) ∧ Q (.int 0) h from ⟨(by first | exact Or.inl rfl | exact Or.inr rfl | assumption), ?_⟩)
            first | exact k0 (aw_no (i := i) (il_neg (by assumption)) n (by omega)) | exact k0 (aw_no (i := i) (il_ge (lt_ge hN (by assumption))) n (by omega))
  exact L2 (n + 1) 0 (by omega) (by omega) rfl
theorem c_fp1 {d : Nat} {h : Hp} {so n : Nat} {vs : Nat → Int64} {x : Int64} {Q : Po} (ct : CT 1 (some (so, n, vs)) h) (k : ∀ i, i ≤ n → tld vs x i = false → (i < n → vs i = x) → Q (.int (nI i)) h) : wpC (d + 1) true 109 [.ref 90, .long x] h Q := by
  have hn4 := ct.2.1; have hs3 := ct.1
  refine go_in rfl ?_
  refine exf_go 2 (show Go d true 109 2 [.ref 90, .long x, mk_, .int 0] [] h Q from ?_)
  have L2 : ∀ (k2 : Nat) (i : Nat), (n - i) < k2 → (i ≤ n) → (tld vs x i = false) → Go d true 109 2 [.ref 90, .long x, mk_, .int (nI i)] [] h Q := by
    intro k2
    induction k2 with
    | zero => intro i hk; exact absurd hk (Nat.not_lt_zero _)
    | succ k2 ih2 =>
      intro i hk hi ht
      refine exf_go 3 (show Go d true 109 7 [.ref 90, .long x, mk_, .int (nI i)] [.int (rI h 90 2), .int (nI i)] h Q from ?_)
      rw [show (rI h 90 2 : Int32) = nI n from ct.2.2.2.1]
      refine exf_go 1 (show ((nI n) ≤ (nI i) → Go d true 109 27 [.ref 90, .long x, mk_, .int (nI i)] [] h Q) ∧ (¬ ((nI n) ≤ (nI i)) → Go d true 109 10 [.ref 90, .long x, mk_, .int (nI i)] [] h Q) from ⟨fun c1 => ?_, fun c1 => ?_⟩)
      · skip
        have c1 : n ≤ i := (nI_leI (a := n) (b := i) (by omega) (by omega)).mp c1
        refine exf_go 2 (show Q (.int (nI i)) h from ?_)
        first | exact k i (by omega) ht (fun _ => by assumption) | exact k i (by omega) ht (fun z => absurd z (by omega))
      · skip
        have c1 : ¬ n ≤ i := fun q => c1 ((nI_leI (a := n) (b := i) (by omega) (by omega)).mpr q)
        refine exf_go 4 (show vp_in (nI i) 40 ∧ (Go d true 109 16 [.ref 90, .long x, mk_, .int (nI i)] [.long (rJ h 91 ((nI i).toNatClampNeg))] h Q) from ⟨(vp_in_nI (by omega) (by omega)), ?_⟩)
        rw [show (rJ h 91 ((nI i).toNatClampNeg) : Int64) = vs i from by rw [nI_clamp (by omega)]; exact ct.2.2.2.2 _ (by omega)]
        refine exf_go 3 (show ((lg_cmp (vs i) x) = 0 → Go d true 109 27 [.ref 90, .long x, mk_, .int (nI i)] [] h Q) ∧ (¬ ((lg_cmp (vs i) x) = 0) → Go d true 109 21 [.ref 90, .long x, mk_, .int (nI i)] [] h Q) from ⟨fun c2 => ?_, fun c2 => ?_⟩)
        · skip
          have c2 : (vs i) = x := (lg_cmp_eq _ _).mp c2
          refine exf_go 2 (show Q (.int (nI i)) h from ?_)
          first | exact k i (by omega) ht (fun _ => by assumption) | exact k i (by omega) ht (fun z => absurd z (by omega))
        · skip
          have c2 : ¬ ((vs i) = x) := fun q => c2 ((lg_cmp_eq _ _).mpr q)
          refine exf_go 1 (show Go d true 109 24 [.ref 90, .long x, mk_, .int ((nI i) + 1)] [] h Q from ?_)
          rw [show ((nI i) + 1 : Int32) = nI (i + 1) from nI_add i 1]
          refine exf_go 1 (show Go d true 109 2 [.ref 90, .long x, mk_, .int (nI (i + 1))] [] h Q from ?_)
          exact ih2 (i + 1) (by omega) (by omega) (by rw [tld, ht, decide_eq_false (by assumption)]; rfl)
  exact L2 (n + 1) 0 (by omega) (by omega) rfl
theorem c_has1 {d : Nat} {h : Hp} {so n : Nat} {vs : Nat → Int64} {x : Int64} {Q : Po} (ct : CT 1 (some (so, n, vs)) h) (k1 : tld vs x n = true → Q (.int 1) h) (k0 : tld vs x n = false → Q (.int 0) h) : wpC (d + 2) true 107 [.ref 90, .long x] h Q := by
  have hn4 := ct.2.1; have hs3 := ct.1
  refine go_in rfl ?_
  refine exf_go 3 (show wpC (d + 1) true 109 [.ref 90, .long x] h (fun r h' => Go (d + 1) true 107 5 [.ref 90, .long x, mk_] [r] h' Q) from ?_)
  refine c_fp1 ct (x := x) (fun i hi ht hx => ?_)
  show Go (d + 1) true 107 5 [.ref 90, .long x, mk_] [.int (nI i)] h Q
  refine exf_go 2 (show Go (d + 1) true 107 9 [.ref 90, .long x, mk_] [.int (rI h 90 2), .int (nI i)] h Q from ?_)
  rw [show (rI h 90 2 : Int32) = nI n from ct.2.2.2.1]
  refine exf_go 1 (show ((nI n) ≤ (nI i) → Go (d + 1) true 107 16 [.ref 90, .long x, mk_] [] h Q) ∧ (¬ ((nI n) ≤ (nI i)) → Go (d + 1) true 107 12 [.ref 90, .long x, mk_] [] h Q) from ⟨fun c1 => ?_, fun c1 => ?_⟩)
  · skip
    have c1 : n ≤ i := (nI_leI (a := n) (b := i) (by omega) (by omega)).mp c1
    refine exf_go 2 (show ((0 : Int32) = 0 ∨ (0 : Int32) = 1) ∧ Q (.int 0) h from ⟨(by first | exact Or.inl rfl | exact Or.inr rfl | assumption), ?_⟩)
    exact k0 (by rw [← show i = n from by omega]; exact ht)
  · skip
    have c1 : ¬ n ≤ i := fun q => c1 ((nI_leI (a := n) (b := i) (by omega) (by omega)).mpr q)
    refine exf_go 3 (show ((1 : Int32) = 0 ∨ (1 : Int32) = 1) ∧ Q (.int 1) h from ⟨(by first | exact Or.inl rfl | exact Or.inr rfl | assumption), ?_⟩)
    exact k1 ((tld_iff vs x n).mpr ⟨i, by omega, hx (by omega)⟩)
theorem c_unl1 {d : Nat} {h : Hp} {so n : Nat} {vs : Nat → Int64} {Q : Po} (ct : CT 1 (some (so, n, vs)) h) (k : Q (.int (nI (unl vs n))) h) : wpC (d + 2) true 108 [.ref 90] h Q := by
  have hn4 := ct.2.1; have hs3 := ct.1
  refine go_in rfl ?_
  refine exf_go 4 (show Go (d + 1) true 108 4 [.ref 90, .int 0, .int 0] [] h Q from ?_)
  have L4 : ∀ (k4 : Nat) (j s : Nat), (n - j) < k4 → (j ≤ n) → (s = cntN (frB vs) j) → Go (d + 1) true 108 4 [.ref 90, .int (nI s), .int (nI j)] [] h Q := by
    intro k4
    induction k4 with
    | zero => intro j s hk; exact absurd hk (Nat.not_lt_zero _)
    | succ k4 ih4 =>
      intro j s hk hj hs
      have hcl := cntN_le (frB vs) j
      refine exf_go 3 (show Go (d + 1) true 108 9 [.ref 90, .int (nI s), .int (nI j)] [.int (rI h 90 2), .int (nI j)] h Q from ?_)
      rw [show (rI h 90 2 : Int32) = nI n from ct.2.2.2.1]
      refine exf_go 1 (show ((nI n) ≤ (nI j) → Go (d + 1) true 108 35 [.ref 90, .int (nI s), .int (nI j)] [] h Q) ∧ (¬ ((nI n) ≤ (nI j)) → Go (d + 1) true 108 12 [.ref 90, .int (nI s), .int (nI j)] [] h Q) from ⟨fun c1 => ?_, fun c1 => ?_⟩)
      · skip
        have c1 : n ≤ j := (nI_leI (a := n) (b := j) (by omega) (by omega)).mp c1
        refine exf_go 2 (show Q (.int (nI s)) h from ?_)
        rw [unl, ← show j = n from by omega, ← hs] at k; exact k
      · skip
        have c1 : ¬ n ≤ j := fun q => c1 ((nI_leI (a := n) (b := j) (by omega) (by omega)).mpr q)
        refine exf_go 5 (show vp_in (nI j) 40 ∧ (Go (d + 1) true 108 19 [.ref 90, .int (nI s), .int (nI j)] [.long (rJ h 91 ((nI j).toNatClampNeg)), .ref 90] h Q) from ⟨(vp_in_nI (by omega) (by omega)), ?_⟩)
        rw [show (rJ h 91 ((nI j).toNatClampNeg) : Int64) = vs j from by rw [nI_clamp (by omega)]; exact ct.2.2.2.2 _ (by omega)]
        refine exf_go 1 (show wpC (d + 1) true 109 [.ref 90, .long (vs j)] h (fun r h' => Go (d + 1) true 108 22 [.ref 90, .int (nI s), .int (nI j)] [r] h' Q) from ?_)
        refine c_fp1 ct (x := vs j) (fun i hi ht hx => ?_)
        show Go (d + 1) true 108 22 [.ref 90, .int (nI s), .int (nI j)] [.int (nI i)] h Q
        refine exf_go 2 (show (¬ (nI i) = (nI j) → Go (d + 1) true 108 29 [.ref 90, .int (nI s), .int (nI j)] [] h Q) ∧ (¬ (¬ (nI i) = (nI j)) → Go (d + 1) true 108 26 [.ref 90, .int (nI s), .int (nI j)] [] h Q) from ⟨fun c2 => ?_, fun c2 => ?_⟩)
        · skip
          have c2 : ¬ i = j := fun q => c2 ((nI_eq (a := i) (b := j) (by omega) (by omega)).mpr q)
          refine exf_go 1 (show Go (d + 1) true 108 32 [.ref 90, .int (nI s), .int ((nI j) + 1)] [] h Q from ?_)
          rw [show ((nI j) + 1 : Int32) = nI (j + 1) from nI_add j 1]
          refine exf_go 1 (show Go (d + 1) true 108 4 [.ref 90, .int (nI s), .int (nI (j + 1))] [] h Q from ?_)
          exact ih4 (j + 1) s (by omega) (by omega) (cn_n hs (by unfold frB; rw [show tld vs (vs j) j = true from (tld_iff _ _ _).mpr ⟨i, Nat.lt_of_le_of_ne (Nat.le_of_not_lt (fun q => tld_no ht q rfl)) (by omega), hx (by have := Nat.le_of_not_lt (fun q => tld_no ht q rfl); omega)⟩]; rfl))
        · skip
          have c2 : i = j := (nI_eq (a := i) (b := j) (by omega) (by omega)).mp (Classical.not_not.mp c2)
          refine exf_go 1 (show Go (d + 1) true 108 29 [.ref 90, .int ((nI s) + 1), .int (nI j)] [] h Q from ?_)
          rw [show ((nI s) + 1 : Int32) = nI (s + 1) from nI_add s 1]
          refine exf_go 1 (show Go (d + 1) true 108 32 [.ref 90, .int (nI (s + 1)), .int ((nI j) + 1)] [] h Q from ?_)
          rw [show ((nI j) + 1 : Int32) = nI (j + 1) from nI_add j 1]
          refine exf_go 1 (show Go (d + 1) true 108 4 [.ref 90, .int (nI (s + 1)), .int (nI (j + 1))] [] h Q from ?_)
          exact ih4 (j + 1) (s + 1) (by omega) (by omega) (cn_y hs (by unfold frB; rw [show tld vs (vs j) j = false from by rw [show i = j from by omega] at ht; exact ht]; rfl))
  exact L4 (n + 1) 0 0 (by omega) (by omega) rfl
theorem c_aw1 {d : Nat} {h : Hp} {so n : Nat} {vs : Nat → Int64} {N : Nat} {Q : Po} (ct : CT 1 (some (so, n, vs)) h) (hN : N < 2 ^ 31) (k1 : awB vs (N + 1) n = true → Q (.int 1) h) (k0 : awB vs (N + 1) n = false → Q (.int 0) h) : wpC (d + 1) true 106 [.ref 90, .int (nI N)] h Q := by
  have hn4 := ct.2.1; have hs3 := ct.1
  refine go_in rfl ?_
  refine exf_go 2 (show Go d true 106 2 [.ref 90, .int (nI N), .int 0] [] h Q from ?_)
  have L2 : ∀ (k2 : Nat) (i : Nat), (n - i) < k2 → (i ≤ n) → (awB vs (N + 1) i = true) → Go d true 106 2 [.ref 90, .int (nI N), .int (nI i)] [] h Q := by
    intro k2
    induction k2 with
    | zero => intro i hk; exact absurd hk (Nat.not_lt_zero _)
    | succ k2 ih2 =>
      intro i hk hi ha
      refine exf_go 3 (show Go d true 106 7 [.ref 90, .int (nI N), .int (nI i)] [.int (rI h 90 2), .int (nI i)] h Q from ?_)
      rw [show (rI h 90 2 : Int32) = nI n from ct.2.2.2.1]
      refine exf_go 1 (show ((nI n) ≤ (nI i) → Go d true 106 41 [.ref 90, .int (nI N), .int (nI i)] [] h Q) ∧ (¬ ((nI n) ≤ (nI i)) → Go d true 106 10 [.ref 90, .int (nI N), .int (nI i)] [] h Q) from ⟨fun c1 => ?_, fun c1 => ?_⟩)
      · skip
        have c1 : n ≤ i := (nI_leI (a := n) (b := i) (by omega) (by omega)).mp c1
        refine exf_go 2 (show ((1 : Int32) = 0 ∨ (1 : Int32) = 1) ∧ Q (.int 1) h from ⟨(by first | exact Or.inl rfl | exact Or.inr rfl | assumption), ?_⟩)
        exact k1 (by rw [← show i = n from by omega]; exact ha)
      · skip
        have c1 : ¬ n ≤ i := fun q => c1 ((nI_leI (a := n) (b := i) (by omega) (by omega)).mpr q)
        refine exf_go 4 (show vp_in (nI i) 40 ∧ (Go d true 106 16 [.ref 90, .int (nI N), .int (nI i)] [.long (rJ h 91 ((nI i).toNatClampNeg))] h Q) from ⟨(vp_in_nI (by omega) (by omega)), ?_⟩)
        rw [show (rJ h 91 ((nI i).toNatClampNeg) : Int64) = vs i from by rw [nI_clamp (by omega)]; exact ct.2.2.2.2 _ (by omega)]
        refine exf_go 3 (show ((lg_cmp (vs i) 0) < 0 → Go d true 106 33 [.ref 90, .int (nI N), .int (nI i)] [] h Q) ∧ (¬ ((lg_cmp (vs i) 0) < 0) → Go d true 106 21 [.ref 90, .int (nI N), .int (nI i)] [] h Q) from ⟨fun c2 => ?_, fun c2 => ?_⟩)
        · skip
          have c2 : (vs i) < 0 := (lg_cmp_lt _ _).mp c2
          refine exf_go 2 (show ((0 : Int32) = 0 ∨ (0 : Int32) = 1) ∧ Q (.int 0) h from ⟨(by first | exact Or.inl rfl | exact Or.inr rfl | assumption), ?_⟩)
          first | exact k0 (aw_no (i := i) (il_neg (by assumption)) n (by omega)) | exact k0 (aw_no (i := i) (il_ge (lt_ge hN (by assumption))) n (by omega))
        · skip
          have c2 : ¬ ((vs i) < 0) := fun q => c2 ((lg_cmp_lt _ _).mpr q)
          refine exf_go 4 (show vp_in (nI i) 40 ∧ (Go d true 106 27 [.ref 90, .int (nI N), .int (nI i)] [.long (rJ h 91 ((nI i).toNatClampNeg))] h Q) from ⟨(vp_in_nI (by omega) (by omega)), ?_⟩)
          rw [show (rJ h 91 ((nI i).toNatClampNeg) : Int64) = vs i from by rw [nI_clamp (by omega)]; exact ct.2.2.2.2 _ (by omega)]
          refine exf_go 2 (show Go d true 106 29 [.ref 90, .int (nI N), .int (nI i)] [.long ((nI N).toInt64), .long (vs i)] h Q from ?_)
          rw [show ((nI N).toInt64 : Int64) = lN N from nI_l (n := N) (by omega)]
          refine exf_go 2 (show ((lg_cmp (vs i) (lN N)) ≤ 0 → Go d true 106 35 [.ref 90, .int (nI N), .int (nI i)] [] h Q) ∧ (¬ ((lg_cmp (vs i) (lN N)) ≤ 0) → Go d true 106 33 [.ref 90, .int (nI N), .int (nI i)] [] h Q) from ⟨fun c3 => ?_, fun c3 => ?_⟩)
          · skip
            have c3 : (vs i) ≤ (lN N) := (lg_cmp_le _ _).mp c3
            refine exf_go 1 (show Go d true 106 38 [.ref 90, .int (nI N), .int ((nI i) + 1)] [] h Q from ?_)
            rw [show ((nI i) + 1 : Int32) = nI (i + 1) from nI_add i 1]
            refine exf_go 1 (show Go d true 106 2 [.ref 90, .int (nI N), .int (nI (i + 1))] [] h Q from ?_)
            exact ih2 (i + 1) (by omega) (by omega) (by rw [awB, ha, aw_some (by omega) c2 c3]; rfl)
          · skip
            have c3 : ¬ ((vs i) ≤ (lN N)) := fun q => c3 ((lg_cmp_le _ _).mpr q)
            refine exf_go 2 (show ((0 : Int32) = 0 ∨ (0 : Int32) = 1) ∧ Q (.int 0) h from ⟨(by first | exact Or.inl rfl | exact Or.inr rfl | assumption), ?_⟩)
            first | exact k0 (aw_no (i := i) (il_neg (by assumption)) n (by omega)) | exact k0 (aw_no (i := i) (il_ge (lt_ge hN (by assumption))) n (by omega))
  exact L2 (n + 1) 0 (by omega) (by omega) rfl
theorem c_fp2 {d : Nat} {h : Hp} {so n : Nat} {vs : Nat → Int64} {x : Int64} {Q : Po} (ct : CT 2 (some (so, n, vs)) h) (k : ∀ i, i ≤ n → tld vs x i = false → (i < n → vs i = x) → Q (.int (nI i)) h) : wpC (d + 1) true 109 [.ref 92, .long x] h Q := by
  have hn4 := ct.2.1; have hs3 := ct.1
  refine go_in rfl ?_
  refine exf_go 2 (show Go d true 109 2 [.ref 92, .long x, mk_, .int 0] [] h Q from ?_)
  have L2 : ∀ (k2 : Nat) (i : Nat), (n - i) < k2 → (i ≤ n) → (tld vs x i = false) → Go d true 109 2 [.ref 92, .long x, mk_, .int (nI i)] [] h Q := by
    intro k2
    induction k2 with
    | zero => intro i hk; exact absurd hk (Nat.not_lt_zero _)
    | succ k2 ih2 =>
      intro i hk hi ht
      refine exf_go 3 (show Go d true 109 7 [.ref 92, .long x, mk_, .int (nI i)] [.int (rI h 92 2), .int (nI i)] h Q from ?_)
      rw [show (rI h 92 2 : Int32) = nI n from ct.2.2.2.1]
      refine exf_go 1 (show ((nI n) ≤ (nI i) → Go d true 109 27 [.ref 92, .long x, mk_, .int (nI i)] [] h Q) ∧ (¬ ((nI n) ≤ (nI i)) → Go d true 109 10 [.ref 92, .long x, mk_, .int (nI i)] [] h Q) from ⟨fun c1 => ?_, fun c1 => ?_⟩)
      · skip
        have c1 : n ≤ i := (nI_leI (a := n) (b := i) (by omega) (by omega)).mp c1
        refine exf_go 2 (show Q (.int (nI i)) h from ?_)
        first | exact k i (by omega) ht (fun _ => by assumption) | exact k i (by omega) ht (fun z => absurd z (by omega))
      · skip
        have c1 : ¬ n ≤ i := fun q => c1 ((nI_leI (a := n) (b := i) (by omega) (by omega)).mpr q)
        refine exf_go 4 (show vp_in (nI i) 40 ∧ (Go d true 109 16 [.ref 92, .long x, mk_, .int (nI i)] [.long (rJ h 93 ((nI i).toNatClampNeg))] h Q) from ⟨(vp_in_nI (by omega) (by omega)), ?_⟩)
        rw [show (rJ h 93 ((nI i).toNatClampNeg) : Int64) = vs i from by rw [nI_clamp (by omega)]; exact ct.2.2.2.2 _ (by omega)]
        refine exf_go 3 (show ((lg_cmp (vs i) x) = 0 → Go d true 109 27 [.ref 92, .long x, mk_, .int (nI i)] [] h Q) ∧ (¬ ((lg_cmp (vs i) x) = 0) → Go d true 109 21 [.ref 92, .long x, mk_, .int (nI i)] [] h Q) from ⟨fun c2 => ?_, fun c2 => ?_⟩)
        · skip
          have c2 : (vs i) = x := (lg_cmp_eq _ _).mp c2
          refine exf_go 2 (show Q (.int (nI i)) h from ?_)
          first | exact k i (by omega) ht (fun _ => by assumption) | exact k i (by omega) ht (fun z => absurd z (by omega))
        · skip
          have c2 : ¬ ((vs i) = x) := fun q => c2 ((lg_cmp_eq _ _).mpr q)
          refine exf_go 1 (show Go d true 109 24 [.ref 92, .long x, mk_, .int ((nI i) + 1)] [] h Q from ?_)
          rw [show ((nI i) + 1 : Int32) = nI (i + 1) from nI_add i 1]
          refine exf_go 1 (show Go d true 109 2 [.ref 92, .long x, mk_, .int (nI (i + 1))] [] h Q from ?_)
          exact ih2 (i + 1) (by omega) (by omega) (by rw [tld, ht, decide_eq_false (by assumption)]; rfl)
  exact L2 (n + 1) 0 (by omega) (by omega) rfl
theorem c_has2 {d : Nat} {h : Hp} {so n : Nat} {vs : Nat → Int64} {x : Int64} {Q : Po} (ct : CT 2 (some (so, n, vs)) h) (k1 : tld vs x n = true → Q (.int 1) h) (k0 : tld vs x n = false → Q (.int 0) h) : wpC (d + 2) true 107 [.ref 92, .long x] h Q := by
  have hn4 := ct.2.1; have hs3 := ct.1
  refine go_in rfl ?_
  refine exf_go 3 (show wpC (d + 1) true 109 [.ref 92, .long x] h (fun r h' => Go (d + 1) true 107 5 [.ref 92, .long x, mk_] [r] h' Q) from ?_)
  refine c_fp2 ct (x := x) (fun i hi ht hx => ?_)
  show Go (d + 1) true 107 5 [.ref 92, .long x, mk_] [.int (nI i)] h Q
  refine exf_go 2 (show Go (d + 1) true 107 9 [.ref 92, .long x, mk_] [.int (rI h 92 2), .int (nI i)] h Q from ?_)
  rw [show (rI h 92 2 : Int32) = nI n from ct.2.2.2.1]
  refine exf_go 1 (show ((nI n) ≤ (nI i) → Go (d + 1) true 107 16 [.ref 92, .long x, mk_] [] h Q) ∧ (¬ ((nI n) ≤ (nI i)) → Go (d + 1) true 107 12 [.ref 92, .long x, mk_] [] h Q) from ⟨fun c1 => ?_, fun c1 => ?_⟩)
  · skip
    have c1 : n ≤ i := (nI_leI (a := n) (b := i) (by omega) (by omega)).mp c1
    refine exf_go 2 (show ((0 : Int32) = 0 ∨ (0 : Int32) = 1) ∧ Q (.int 0) h from ⟨(by first | exact Or.inl rfl | exact Or.inr rfl | assumption), ?_⟩)
    exact k0 (by rw [← show i = n from by omega]; exact ht)
  · skip
    have c1 : ¬ n ≤ i := fun q => c1 ((nI_leI (a := n) (b := i) (by omega) (by omega)).mpr q)
    refine exf_go 3 (show ((1 : Int32) = 0 ∨ (1 : Int32) = 1) ∧ Q (.int 1) h from ⟨(by first | exact Or.inl rfl | exact Or.inr rfl | assumption), ?_⟩)
    exact k1 ((tld_iff vs x n).mpr ⟨i, by omega, hx (by omega)⟩)
theorem c_unl2 {d : Nat} {h : Hp} {so n : Nat} {vs : Nat → Int64} {Q : Po} (ct : CT 2 (some (so, n, vs)) h) (k : Q (.int (nI (unl vs n))) h) : wpC (d + 2) true 108 [.ref 92] h Q := by
  have hn4 := ct.2.1; have hs3 := ct.1
  refine go_in rfl ?_
  refine exf_go 4 (show Go (d + 1) true 108 4 [.ref 92, .int 0, .int 0] [] h Q from ?_)
  have L4 : ∀ (k4 : Nat) (j s : Nat), (n - j) < k4 → (j ≤ n) → (s = cntN (frB vs) j) → Go (d + 1) true 108 4 [.ref 92, .int (nI s), .int (nI j)] [] h Q := by
    intro k4
    induction k4 with
    | zero => intro j s hk; exact absurd hk (Nat.not_lt_zero _)
    | succ k4 ih4 =>
      intro j s hk hj hs
      have hcl := cntN_le (frB vs) j
      refine exf_go 3 (show Go (d + 1) true 108 9 [.ref 92, .int (nI s), .int (nI j)] [.int (rI h 92 2), .int (nI j)] h Q from ?_)
      rw [show (rI h 92 2 : Int32) = nI n from ct.2.2.2.1]
      refine exf_go 1 (show ((nI n) ≤ (nI j) → Go (d + 1) true 108 35 [.ref 92, .int (nI s), .int (nI j)] [] h Q) ∧ (¬ ((nI n) ≤ (nI j)) → Go (d + 1) true 108 12 [.ref 92, .int (nI s), .int (nI j)] [] h Q) from ⟨fun c1 => ?_, fun c1 => ?_⟩)
      · skip
        have c1 : n ≤ j := (nI_leI (a := n) (b := j) (by omega) (by omega)).mp c1
        refine exf_go 2 (show Q (.int (nI s)) h from ?_)
        rw [unl, ← show j = n from by omega, ← hs] at k; exact k
      · skip
        have c1 : ¬ n ≤ j := fun q => c1 ((nI_leI (a := n) (b := j) (by omega) (by omega)).mpr q)
        refine exf_go 5 (show vp_in (nI j) 40 ∧ (Go (d + 1) true 108 19 [.ref 92, .int (nI s), .int (nI j)] [.long (rJ h 93 ((nI j).toNatClampNeg)), .ref 92] h Q) from ⟨(vp_in_nI (by omega) (by omega)), ?_⟩)
        rw [show (rJ h 93 ((nI j).toNatClampNeg) : Int64) = vs j from by rw [nI_clamp (by omega)]; exact ct.2.2.2.2 _ (by omega)]
        refine exf_go 1 (show wpC (d + 1) true 109 [.ref 92, .long (vs j)] h (fun r h' => Go (d + 1) true 108 22 [.ref 92, .int (nI s), .int (nI j)] [r] h' Q) from ?_)
        refine c_fp2 ct (x := vs j) (fun i hi ht hx => ?_)
        show Go (d + 1) true 108 22 [.ref 92, .int (nI s), .int (nI j)] [.int (nI i)] h Q
        refine exf_go 2 (show (¬ (nI i) = (nI j) → Go (d + 1) true 108 29 [.ref 92, .int (nI s), .int (nI j)] [] h Q) ∧ (¬ (¬ (nI i) = (nI j)) → Go (d + 1) true 108 26 [.ref 92, .int (nI s), .int (nI j)] [] h Q) from ⟨fun c2 => ?_, fun c2 => ?_⟩)
        · skip
          have c2 : ¬ i = j := fun q => c2 ((nI_eq (a := i) (b := j) (by omega) (by omega)).mpr q)
          refine exf_go 1 (show Go (d + 1) true 108 32 [.ref 92, .int (nI s), .int ((nI j) + 1)] [] h Q from ?_)
          rw [show ((nI j) + 1 : Int32) = nI (j + 1) from nI_add j 1]
          refine exf_go 1 (show Go (d + 1) true 108 4 [.ref 92, .int (nI s), .int (nI (j + 1))] [] h Q from ?_)
          exact ih4 (j + 1) s (by omega) (by omega) (cn_n hs (by unfold frB; rw [show tld vs (vs j) j = true from (tld_iff _ _ _).mpr ⟨i, Nat.lt_of_le_of_ne (Nat.le_of_not_lt (fun q => tld_no ht q rfl)) (by omega), hx (by have := Nat.le_of_not_lt (fun q => tld_no ht q rfl); omega)⟩]; rfl))
        · skip
          have c2 : i = j := (nI_eq (a := i) (b := j) (by omega) (by omega)).mp (Classical.not_not.mp c2)
          refine exf_go 1 (show Go (d + 1) true 108 29 [.ref 92, .int ((nI s) + 1), .int (nI j)] [] h Q from ?_)
          rw [show ((nI s) + 1 : Int32) = nI (s + 1) from nI_add s 1]
          refine exf_go 1 (show Go (d + 1) true 108 32 [.ref 92, .int (nI (s + 1)), .int ((nI j) + 1)] [] h Q from ?_)
          rw [show ((nI j) + 1 : Int32) = nI (j + 1) from nI_add j 1]
          refine exf_go 1 (show Go (d + 1) true 108 4 [.ref 92, .int (nI (s + 1)), .int (nI (j + 1))] [] h Q from ?_)
          exact ih4 (j + 1) (s + 1) (by omega) (by omega) (cn_y hs (by unfold frB; rw [show tld vs (vs j) j = false from by rw [show i = j from by omega] at ht; exact ht]; rfl))
  exact L4 (n + 1) 0 0 (by omega) (by omega) rfl
theorem c_aw2 {d : Nat} {h : Hp} {so n : Nat} {vs : Nat → Int64} {N : Nat} {Q : Po} (ct : CT 2 (some (so, n, vs)) h) (hN : N < 2 ^ 31) (k1 : awB vs (N + 1) n = true → Q (.int 1) h) (k0 : awB vs (N + 1) n = false → Q (.int 0) h) : wpC (d + 1) true 106 [.ref 92, .int (nI N)] h Q := by
  have hn4 := ct.2.1; have hs3 := ct.1
  refine go_in rfl ?_
  refine exf_go 2 (show Go d true 106 2 [.ref 92, .int (nI N), .int 0] [] h Q from ?_)
  have L2 : ∀ (k2 : Nat) (i : Nat), (n - i) < k2 → (i ≤ n) → (awB vs (N + 1) i = true) → Go d true 106 2 [.ref 92, .int (nI N), .int (nI i)] [] h Q := by
    intro k2
    induction k2 with
    | zero => intro i hk; exact absurd hk (Nat.not_lt_zero _)
    | succ k2 ih2 =>
      intro i hk hi ha
      refine exf_go 3 (show Go d true 106 7 [.ref 92, .int (nI N), .int (nI i)] [.int (rI h 92 2), .int (nI i)] h Q from ?_)
      rw [show (rI h 92 2 : Int32) = nI n from ct.2.2.2.1]
      refine exf_go 1 (show ((nI n) ≤ (nI i) → Go d true 106 41 [.ref 92, .int (nI N), .int (nI i)] [] h Q) ∧ (¬ ((nI n) ≤ (nI i)) → Go d true 106 10 [.ref 92, .int (nI N), .int (nI i)] [] h Q) from ⟨fun c1 => ?_, fun c1 => ?_⟩)
      · skip
        have c1 : n ≤ i := (nI_leI (a := n) (b := i) (by omega) (by omega)).mp c1
        refine exf_go 2 (show ((1 : Int32) = 0 ∨ (1 : Int32) = 1) ∧ Q (.int 1) h from ⟨(by first | exact Or.inl rfl | exact Or.inr rfl | assumption), ?_⟩)
        exact k1 (by rw [← show i = n from by omega]; exact ha)
      · skip
        have c1 : ¬ n ≤ i := fun q => c1 ((nI_leI (a := n) (b := i) (by omega) (by omega)).mpr q)
        refine exf_go 4 (show vp_in (nI i) 40 ∧ (Go d true 106 16 [.ref 92, .int (nI N), .int (nI i)] [.long (rJ h 93 ((nI i).toNatClampNeg))] h Q) from ⟨(vp_in_nI (by omega) (by omega)), ?_⟩)
        rw [show (rJ h 93 ((nI i).toNatClampNeg) : Int64) = vs i from by rw [nI_clamp (by omega)]; exact ct.2.2.2.2 _ (by omega)]
        refine exf_go 3 (show ((lg_cmp (vs i) 0) < 0 → Go d true 106 33 [.ref 92, .int (nI N), .int (nI i)] [] h Q) ∧ (¬ ((lg_cmp (vs i) 0) < 0) → Go d true 106 21 [.ref 92, .int (nI N), .int (nI i)] [] h Q) from ⟨fun c2 => ?_, fun c2 => ?_⟩)
        · skip
          have c2 : (vs i) < 0 := (lg_cmp_lt _ _).mp c2
          refine exf_go 2 (show ((0 : Int32) = 0 ∨ (0 : Int32) = 1) ∧ Q (.int 0) h from ⟨(by first | exact Or.inl rfl | exact Or.inr rfl | assumption), ?_⟩)
          first | exact k0 (aw_no (i := i) (il_neg (by assumption)) n (by omega)) | exact k0 (aw_no (i := i) (il_ge (lt_ge hN (by assumption))) n (by omega))
        · skip
          have c2 : ¬ ((vs i) < 0) := fun q => c2 ((lg_cmp_lt _ _).mpr q)
          refine exf_go 4 (show vp_in (nI i) 40 ∧ (Go d true 106 27 [.ref 92, .int (nI N), .int (nI i)] [.long (rJ h 93 ((nI i).toNatClampNeg))] h Q) from ⟨(vp_in_nI (by omega) (by omega)), ?_⟩)
          rw [show (rJ h 93 ((nI i).toNatClampNeg) : Int64) = vs i from by rw [nI_clamp (by omega)]; exact ct.2.2.2.2 _ (by omega)]
          refine exf_go 2 (show Go d true 106 29 [.ref 92, .int (nI N), .int (nI i)] [.long ((nI N).toInt64), .long (vs i)] h Q from ?_)
          rw [show ((nI N).toInt64 : Int64) = lN N from nI_l (n := N) (by omega)]
          refine exf_go 2 (show ((lg_cmp (vs i) (lN N)) ≤ 0 → Go d true 106 35 [.ref 92, .int (nI N), .int (nI i)] [] h Q) ∧ (¬ ((lg_cmp (vs i) (lN N)) ≤ 0) → Go d true 106 33 [.ref 92, .int (nI N), .int (nI i)] [] h Q) from ⟨fun c3 => ?_, fun c3 => ?_⟩)
          · skip
            have c3 : (vs i) ≤ (lN N) := (lg_cmp_le _ _).mp c3
            refine exf_go 1 (show Go d true 106 38 [.ref 92, .int (nI N), .int ((nI i) + 1)] [] h Q from ?_)
            rw [show ((nI i) + 1 : Int32) = nI (i + 1) from nI_add i 1]
            refine exf_go 1 (show Go d true 106 2 [.ref 92, .int (nI N), .int (nI (i + 1))] [] h Q from ?_)
            exact ih2 (i + 1) (by omega) (by omega) (by rw [awB, ha, aw_some (by omega) c2 c3]; rfl)
          · skip
            have c3 : ¬ ((vs i) ≤ (lN N)) := fun q => c3 ((lg_cmp_le _ _).mpr q)
            refine exf_go 2 (show ((0 : Int32) = 0 ∨ (0 : Int32) = 1) ∧ Q (.int 0) h from ⟨(by first | exact Or.inl rfl | exact Or.inr rfl | assumption), ?_⟩)
            first | exact k0 (aw_no (i := i) (il_neg (by assumption)) n (by omega)) | exact k0 (aw_no (i := i) (il_ge (lt_ge hN (by assumption))) n (by omega))
  exact L2 (n + 1) 0 (by omega) (by omega) rfl
theorem c_fp3 {d : Nat} {h : Hp} {so n : Nat} {vs : Nat → Int64} {x : Int64} {Q : Po} (ct : CT 3 (some (so, n, vs)) h) (k : ∀ i, i ≤ n → tld vs x i = false → (i < n → vs i = x) → Q (.int (nI i)) h) : wpC (d + 1) true 109 [.ref 94, .long x] h Q := by
  have hn4 := ct.2.1; have hs3 := ct.1
  refine go_in rfl ?_
  refine exf_go 2 (show Go d true 109 2 [.ref 94, .long x, mk_, .int 0] [] h Q from ?_)
  have L2 : ∀ (k2 : Nat) (i : Nat), (n - i) < k2 → (i ≤ n) → (tld vs x i = false) → Go d true 109 2 [.ref 94, .long x, mk_, .int (nI i)] [] h Q := by
    intro k2
    induction k2 with
    | zero => intro i hk; exact absurd hk (Nat.not_lt_zero _)
    | succ k2 ih2 =>
      intro i hk hi ht
      refine exf_go 3 (show Go d true 109 7 [.ref 94, .long x, mk_, .int (nI i)] [.int (rI h 94 2), .int (nI i)] h Q from ?_)
      rw [show (rI h 94 2 : Int32) = nI n from ct.2.2.2.1]
      refine exf_go 1 (show ((nI n) ≤ (nI i) → Go d true 109 27 [.ref 94, .long x, mk_, .int (nI i)] [] h Q) ∧ (¬ ((nI n) ≤ (nI i)) → Go d true 109 10 [.ref 94, .long x, mk_, .int (nI i)] [] h Q) from ⟨fun c1 => ?_, fun c1 => ?_⟩)
      · skip
        have c1 : n ≤ i := (nI_leI (a := n) (b := i) (by omega) (by omega)).mp c1
        refine exf_go 2 (show Q (.int (nI i)) h from ?_)
        first | exact k i (by omega) ht (fun _ => by assumption) | exact k i (by omega) ht (fun z => absurd z (by omega))
      · skip
        have c1 : ¬ n ≤ i := fun q => c1 ((nI_leI (a := n) (b := i) (by omega) (by omega)).mpr q)
        refine exf_go 4 (show vp_in (nI i) 40 ∧ (Go d true 109 16 [.ref 94, .long x, mk_, .int (nI i)] [.long (rJ h 95 ((nI i).toNatClampNeg))] h Q) from ⟨(vp_in_nI (by omega) (by omega)), ?_⟩)
        rw [show (rJ h 95 ((nI i).toNatClampNeg) : Int64) = vs i from by rw [nI_clamp (by omega)]; exact ct.2.2.2.2 _ (by omega)]
        refine exf_go 3 (show ((lg_cmp (vs i) x) = 0 → Go d true 109 27 [.ref 94, .long x, mk_, .int (nI i)] [] h Q) ∧ (¬ ((lg_cmp (vs i) x) = 0) → Go d true 109 21 [.ref 94, .long x, mk_, .int (nI i)] [] h Q) from ⟨fun c2 => ?_, fun c2 => ?_⟩)
        · skip
          have c2 : (vs i) = x := (lg_cmp_eq _ _).mp c2
          refine exf_go 2 (show Q (.int (nI i)) h from ?_)
          first | exact k i (by omega) ht (fun _ => by assumption) | exact k i (by omega) ht (fun z => absurd z (by omega))
        · skip
          have c2 : ¬ ((vs i) = x) := fun q => c2 ((lg_cmp_eq _ _).mpr q)
          refine exf_go 1 (show Go d true 109 24 [.ref 94, .long x, mk_, .int ((nI i) + 1)] [] h Q from ?_)
          rw [show ((nI i) + 1 : Int32) = nI (i + 1) from nI_add i 1]
          refine exf_go 1 (show Go d true 109 2 [.ref 94, .long x, mk_, .int (nI (i + 1))] [] h Q from ?_)
          exact ih2 (i + 1) (by omega) (by omega) (by rw [tld, ht, decide_eq_false (by assumption)]; rfl)
  exact L2 (n + 1) 0 (by omega) (by omega) rfl
theorem c_has3 {d : Nat} {h : Hp} {so n : Nat} {vs : Nat → Int64} {x : Int64} {Q : Po} (ct : CT 3 (some (so, n, vs)) h) (k1 : tld vs x n = true → Q (.int 1) h) (k0 : tld vs x n = false → Q (.int 0) h) : wpC (d + 2) true 107 [.ref 94, .long x] h Q := by
  have hn4 := ct.2.1; have hs3 := ct.1
  refine go_in rfl ?_
  refine exf_go 3 (show wpC (d + 1) true 109 [.ref 94, .long x] h (fun r h' => Go (d + 1) true 107 5 [.ref 94, .long x, mk_] [r] h' Q) from ?_)
  refine c_fp3 ct (x := x) (fun i hi ht hx => ?_)
  show Go (d + 1) true 107 5 [.ref 94, .long x, mk_] [.int (nI i)] h Q
  refine exf_go 2 (show Go (d + 1) true 107 9 [.ref 94, .long x, mk_] [.int (rI h 94 2), .int (nI i)] h Q from ?_)
  rw [show (rI h 94 2 : Int32) = nI n from ct.2.2.2.1]
  refine exf_go 1 (show ((nI n) ≤ (nI i) → Go (d + 1) true 107 16 [.ref 94, .long x, mk_] [] h Q) ∧ (¬ ((nI n) ≤ (nI i)) → Go (d + 1) true 107 12 [.ref 94, .long x, mk_] [] h Q) from ⟨fun c1 => ?_, fun c1 => ?_⟩)
  · skip
    have c1 : n ≤ i := (nI_leI (a := n) (b := i) (by omega) (by omega)).mp c1
    refine exf_go 2 (show ((0 : Int32) = 0 ∨ (0 : Int32) = 1) ∧ Q (.int 0) h from ⟨(by first | exact Or.inl rfl | exact Or.inr rfl | assumption), ?_⟩)
    exact k0 (by rw [← show i = n from by omega]; exact ht)
  · skip
    have c1 : ¬ n ≤ i := fun q => c1 ((nI_leI (a := n) (b := i) (by omega) (by omega)).mpr q)
    refine exf_go 3 (show ((1 : Int32) = 0 ∨ (1 : Int32) = 1) ∧ Q (.int 1) h from ⟨(by first | exact Or.inl rfl | exact Or.inr rfl | assumption), ?_⟩)
    exact k1 ((tld_iff vs x n).mpr ⟨i, by omega, hx (by omega)⟩)
theorem c_unl3 {d : Nat} {h : Hp} {so n : Nat} {vs : Nat → Int64} {Q : Po} (ct : CT 3 (some (so, n, vs)) h) (k : Q (.int (nI (unl vs n))) h) : wpC (d + 2) true 108 [.ref 94] h Q := by
  have hn4 := ct.2.1; have hs3 := ct.1
  refine go_in rfl ?_
  refine exf_go 4 (show Go (d + 1) true 108 4 [.ref 94, .int 0, .int 0] [] h Q from ?_)
  have L4 : ∀ (k4 : Nat) (j s : Nat), (n - j) < k4 → (j ≤ n) → (s = cntN (frB vs) j) → Go (d + 1) true 108 4 [.ref 94, .int (nI s), .int (nI j)] [] h Q := by
    intro k4
    induction k4 with
    | zero => intro j s hk; exact absurd hk (Nat.not_lt_zero _)
    | succ k4 ih4 =>
      intro j s hk hj hs
      have hcl := cntN_le (frB vs) j
      refine exf_go 3 (show Go (d + 1) true 108 9 [.ref 94, .int (nI s), .int (nI j)] [.int (rI h 94 2), .int (nI j)] h Q from ?_)
      rw [show (rI h 94 2 : Int32) = nI n from ct.2.2.2.1]
      refine exf_go 1 (show ((nI n) ≤ (nI j) → Go (d + 1) true 108 35 [.ref 94, .int (nI s), .int (nI j)] [] h Q) ∧ (¬ ((nI n) ≤ (nI j)) → Go (d + 1) true 108 12 [.ref 94, .int (nI s), .int (nI j)] [] h Q) from ⟨fun c1 => ?_, fun c1 => ?_⟩)
      · skip
        have c1 : n ≤ j := (nI_leI (a := n) (b := j) (by omega) (by omega)).mp c1
        refine exf_go 2 (show Q (.int (nI s)) h from ?_)
        rw [unl, ← show j = n from by omega, ← hs] at k; exact k
      · skip
        have c1 : ¬ n ≤ j := fun q => c1 ((nI_leI (a := n) (b := j) (by omega) (by omega)).mpr q)
        refine exf_go 5 (show vp_in (nI j) 40 ∧ (Go (d + 1) true 108 19 [.ref 94, .int (nI s), .int (nI j)] [.long (rJ h 95 ((nI j).toNatClampNeg)), .ref 94] h Q) from ⟨(vp_in_nI (by omega) (by omega)), ?_⟩)
        rw [show (rJ h 95 ((nI j).toNatClampNeg) : Int64) = vs j from by rw [nI_clamp (by omega)]; exact ct.2.2.2.2 _ (by omega)]
        refine exf_go 1 (show wpC (d + 1) true 109 [.ref 94, .long (vs j)] h (fun r h' => Go (d + 1) true 108 22 [.ref 94, .int (nI s), .int (nI j)] [r] h' Q) from ?_)
        refine c_fp3 ct (x := vs j) (fun i hi ht hx => ?_)
        show Go (d + 1) true 108 22 [.ref 94, .int (nI s), .int (nI j)] [.int (nI i)] h Q
        refine exf_go 2 (show (¬ (nI i) = (nI j) → Go (d + 1) true 108 29 [.ref 94, .int (nI s), .int (nI j)] [] h Q) ∧ (¬ (¬ (nI i) = (nI j)) → Go (d + 1) true 108 26 [.ref 94, .int (nI s), .int (nI j)] [] h Q) from ⟨fun c2 => ?_, fun c2 => ?_⟩)
        · skip
          have c2 : ¬ i = j := fun q => c2 ((nI_eq (a := i) (b := j) (by omega) (by omega)).mpr q)
          refine exf_go 1 (show Go (d + 1) true 108 32 [.ref 94, .int (nI s), .int ((nI j) + 1)] [] h Q from ?_)
          rw [show ((nI j) + 1 : Int32) = nI (j + 1) from nI_add j 1]
          refine exf_go 1 (show Go (d + 1) true 108 4 [.ref 94, .int (nI s), .int (nI (j + 1))] [] h Q from ?_)
          exact ih4 (j + 1) s (by omega) (by omega) (cn_n hs (by unfold frB; rw [show tld vs (vs j) j = true from (tld_iff _ _ _).mpr ⟨i, Nat.lt_of_le_of_ne (Nat.le_of_not_lt (fun q => tld_no ht q rfl)) (by omega), hx (by have := Nat.le_of_not_lt (fun q => tld_no ht q rfl); omega)⟩]; rfl))
        · skip
          have c2 : i = j := (nI_eq (a := i) (b := j) (by omega) (by omega)).mp (Classical.not_not.mp c2)
          refine exf_go 1 (show Go (d + 1) true 108 29 [.ref 94, .int ((nI s) + 1), .int (nI j)] [] h Q from ?_)
          rw [show ((nI s) + 1 : Int32) = nI (s + 1) from nI_add s 1]
          refine exf_go 1 (show Go (d + 1) true 108 32 [.ref 94, .int (nI (s + 1)), .int ((nI j) + 1)] [] h Q from ?_)
          rw [show ((nI j) + 1 : Int32) = nI (j + 1) from nI_add j 1]
          refine exf_go 1 (show Go (d + 1) true 108 4 [.ref 94, .int (nI (s + 1)), .int (nI (j + 1))] [] h Q from ?_)
          exact ih4 (j + 1) (s + 1) (by omega) (by omega) (cn_y hs (by unfold frB; rw [show tld vs (vs j) j = false from by rw [show i = j from by omega] at ht; exact ht]; rfl))
  exact L4 (n + 1) 0 0 (by omega) (by omega) rfl
theorem c_aw3 {d : Nat} {h : Hp} {so n : Nat} {vs : Nat → Int64} {N : Nat} {Q : Po} (ct : CT 3 (some (so, n, vs)) h) (hN : N < 2 ^ 31) (k1 : awB vs (N + 1) n = true → Q (.int 1) h) (k0 : awB vs (N + 1) n = false → Q (.int 0) h) : wpC (d + 1) true 106 [.ref 94, .int (nI N)] h Q := by
  have hn4 := ct.2.1; have hs3 := ct.1
  refine go_in rfl ?_
  refine exf_go 2 (show Go d true 106 2 [.ref 94, .int (nI N), .int 0] [] h Q from ?_)
  have L2 : ∀ (k2 : Nat) (i : Nat), (n - i) < k2 → (i ≤ n) → (awB vs (N + 1) i = true) → Go d true 106 2 [.ref 94, .int (nI N), .int (nI i)] [] h Q := by
    intro k2
    induction k2 with
    | zero => intro i hk; exact absurd hk (Nat.not_lt_zero _)
    | succ k2 ih2 =>
      intro i hk hi ha
      refine exf_go 3 (show Go d true 106 7 [.ref 94, .int (nI N), .int (nI i)] [.int (rI h 94 2), .int (nI i)] h Q from ?_)
      rw [show (rI h 94 2 : Int32) = nI n from ct.2.2.2.1]
      refine exf_go 1 (show ((nI n) ≤ (nI i) → Go d true 106 41 [.ref 94, .int (nI N), .int (nI i)] [] h Q) ∧ (¬ ((nI n) ≤ (nI i)) → Go d true 106 10 [.ref 94, .int (nI N), .int (nI i)] [] h Q) from ⟨fun c1 => ?_, fun c1 => ?_⟩)
      · skip
        have c1 : n ≤ i := (nI_leI (a := n) (b := i) (by omega) (by omega)).mp c1
        refine exf_go 2 (show ((1 : Int32) = 0 ∨ (1 : Int32) = 1) ∧ Q (.int 1) h from ⟨(by first | exact Or.inl rfl | exact Or.inr rfl | assumption), ?_⟩)
        exact k1 (by rw [← show i = n from by omega]; exact ha)
      · skip
        have c1 : ¬ n ≤ i := fun q => c1 ((nI_leI (a := n) (b := i) (by omega) (by omega)).mpr q)
        refine exf_go 4 (show vp_in (nI i) 40 ∧ (Go d true 106 16 [.ref 94, .int (nI N), .int (nI i)] [.long (rJ h 95 ((nI i).toNatClampNeg))] h Q) from ⟨(vp_in_nI (by omega) (by omega)), ?_⟩)
        rw [show (rJ h 95 ((nI i).toNatClampNeg) : Int64) = vs i from by rw [nI_clamp (by omega)]; exact ct.2.2.2.2 _ (by omega)]
        refine exf_go 3 (show ((lg_cmp (vs i) 0) < 0 → Go d true 106 33 [.ref 94, .int (nI N), .int (nI i)] [] h Q) ∧ (¬ ((lg_cmp (vs i) 0) < 0) → Go d true 106 21 [.ref 94, .int (nI N), .int (nI i)] [] h Q) from ⟨fun c2 => ?_, fun c2 => ?_⟩)
        · skip
          have c2 : (vs i) < 0 := (lg_cmp_lt _ _).mp c2
          refine exf_go 2 (show ((0 : Int32) = 0 ∨ (0 : Int32) = 1) ∧ Q (.int 0) h from ⟨(by first | exact Or.inl rfl | exact Or.inr rfl | assumption), ?_⟩)
          first | exact k0 (aw_no (i := i) (il_neg (by assumption)) n (by omega)) | exact k0 (aw_no (i := i) (il_ge (lt_ge hN (by assumption))) n (by omega))
        · skip
          have c2 : ¬ ((vs i) < 0) := fun q => c2 ((lg_cmp_lt _ _).mpr q)
          refine exf_go 4 (show vp_in (nI i) 40 ∧ (Go d true 106 27 [.ref 94, .int (nI N), .int (nI i)] [.long (rJ h 95 ((nI i).toNatClampNeg))] h Q) from ⟨(vp_in_nI (by omega) (by omega)), ?_⟩)
          rw [show (rJ h 95 ((nI i).toNatClampNeg) : Int64) = vs i from by rw [nI_clamp (by omega)]; exact ct.2.2.2.2 _ (by omega)]
          refine exf_go 2 (show Go d true 106 29 [.ref 94, .int (nI N), .int (nI i)] [.long ((nI N).toInt64), .long (vs i)] h Q from ?_)
          rw [show ((nI N).toInt64 : Int64) = lN N from nI_l (n := N) (by omega)]
          refine exf_go 2 (show ((lg_cmp (vs i) (lN N)) ≤ 0 → Go d true 106 35 [.ref 94, .int (nI N), .int (nI i)] [] h Q) ∧ (¬ ((lg_cmp (vs i) (lN N)) ≤ 0) → Go d true 106 33 [.ref 94, .int (nI N), .int (nI i)] [] h Q) from ⟨fun c3 => ?_, fun c3 => ?_⟩)
          · skip
            have c3 : (vs i) ≤ (lN N) := (lg_cmp_le _ _).mp c3
            refine exf_go 1 (show Go d true 106 38 [.ref 94, .int (nI N), .int ((nI i) + 1)] [] h Q from ?_)
            rw [show ((nI i) + 1 : Int32) = nI (i + 1) from nI_add i 1]
            refine exf_go 1 (show Go d true 106 2 [.ref 94, .int (nI N), .int (nI (i + 1))] [] h Q from ?_)
            exact ih2 (i + 1) (by omega) (by omega) (by rw [awB, ha, aw_some (by omega) c2 c3]; rfl)
          · skip
            have c3 : ¬ ((vs i) ≤ (lN N)) := fun q => c3 ((lg_cmp_le _ _).mpr q)
            refine exf_go 2 (show ((0 : Int32) = 0 ∨ (0 : Int32) = 1) ∧ Q (.int 0) h from ⟨(by first | exact Or.inl rfl | exact Or.inr rfl | assumption), ?_⟩)
            first | exact k0 (aw_no (i := i) (il_neg (by assumption)) n (by omega)) | exact k0 (aw_no (i := i) (il_ge (lt_ge hN (by assumption))) n (by omega))
  exact L2 (n + 1) 0 (by omega) (by omega) rfl
