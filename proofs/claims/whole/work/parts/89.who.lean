/-! Who would have tried so: the class. -/
def wE (g : ShG) (kn n : Nat) : Bool := decide (0 < wtK g kn (sH g n))
theorem clsE_0 {g : ShG} {l : LkG} (kn : Nat) : clsE g l kn 0 = wE g kn := funext fun n => by unfold clsE wE; rw [Nat.and_zero, decide_eq_true rfl, Bool.and_true]
def bgT (g : ShG) (vs : Nat → Int64) (n kn : Nat) : Nat → Bool
  | 0 => true
  | k + 1 => bgT g vs n kn k && tld vs (lN (ordE (wE g kn) g kn k)) n
def bgw (g : ShG) (vs : Nat → Int64) (n kn : Nat) : Bool := decide (unl vs n ≤ cntN (wE g kn) (tot g)) && bgT g vs n kn (unl vs n)
theorem bt_no {g : ShG} {vs : Nat → Int64} {n kn k : Nat} (h : bgT g vs n kn k = false) : ∀ j, bgT g vs n kn (k + j) = false
  | 0 => h
  | j + 1 => by rw [← Nat.add_assoc, bgT, bt_no h j, Bool.false_and]
theorem bt_end {g : ShG} {vs : Nat → Int64} {n kn k u : Nat} (h : bgT g vs n kn k = false) (hk : k ≤ u) : bgT g vs n kn u = false := by
  have := bt_no h (u - k)
  rwa [show k + (u - k) = u from by omega] at this
def whoB (g : ShG) (vs : Nat → Int64) (n : Nat) : Nat → Nat
  | 0 => 0
  | m + 1 => if bgw g vs n (sK g m) = true then whoB g vs n m ||| 2 ^ m else whoB g vs n m
def fWho (g : ShG) (tr : Nat → TrG) (x : Int32) : Int32 := match ixN x 4 with
  | none => -2
  | some t => match tr t with
    | none => -6
    | some (_, n, vs) => if n < 1 ∨ 6 < n then -4 else if awB vs (tot g) n = true then nI (whoB g vs n (sM g)) else -3
theorem c_bgw0 {d : Nat} {h : Hp} {g : ShG} {kn so n : Nat} {vs : Nat → Int64} {Q : Po} (cs : CS 31 g h) (rk : RKd (wE g kn) g kn h) (ct : CT 0 (some (so, n, vs)) h) (k1 : bgw g vs n kn = true → Q (.int 1) h) (k0 : bgw g vs n kn = false → Q (.int 0) h) : wpC (d + 3) true 181 [.ref 10, .ref 88] h Q := by
  have hN := tot_b cs.1
  have hn4 := ct.2.1
  have hcc := cntN_le (wE g kn) (tot g)
  refine go_in rfl ?_
  refine exf_go 2 (show wpC (d + 2) true 108 [.ref 88] h (fun r h' => Go (d + 2) true 181 4 [.ref 10, .ref 88, mk_, mk_] [r] h' Q) from ?_)
  refine c_unl0 ct ?_
  have hul : unl vs n ≤ n := cntN_le _ n
  show Go (d + 2) true 181 4 [.ref 10, .ref 88, mk_, mk_] [.int (nI (unl vs n))] h Q
  refine exf_go 4 (show Go (d + 2) true 181 12 [.ref 10, .ref 88, .int (nI (unl vs n)), mk_] [.int (rI h 71 1)] h Q from ?_)
  rw [show (rI h 71 1 : Int32) = nI (cntN (wE g kn) (tot g)) from rk.1]
  refine exf_go 2 (show ((nI (unl vs n)) ≤ (nI (cntN (wE g kn) (tot g))) → Go (d + 2) true 181 18 [.ref 10, .ref 88, .int (nI (unl vs n)), mk_] [] h Q) ∧ (¬ ((nI (unl vs n)) ≤ (nI (cntN (wE g kn) (tot g)))) → Go (d + 2) true 181 16 [.ref 10, .ref 88, .int (nI (unl vs n)), mk_] [] h Q) from ⟨fun c1 => ?_, fun c1 => ?_⟩)
  · skip
    have c1 : (unl vs n) ≤ (cntN (wE g kn) (tot g)) := (nI_leI (a := (unl vs n)) (b := (cntN (wE g kn) (tot g))) (by omega) (by omega)).mp c1
    refine exf_go 2 (show Go (d + 2) true 181 20 [.ref 10, .ref 88, .int (nI (unl vs n)), .int 0] [] h Q from ?_)
    have L20 : ∀ (k20 : Nat) (i : Nat), (unl vs n - i) < k20 → (i ≤ unl vs n) → (bgT g vs n kn i = true) → Go (d + 2) true 181 20 [.ref 10, .ref 88, .int (nI (unl vs n)), .int (nI i)] [] h Q := by
      intro k20
      induction k20 with
      | zero => intro i hk; exact absurd hk (Nat.not_lt_zero _)
      | succ k20 ih20 =>
        intro i hk hi hb
        refine exf_go 3 (show ((nI (unl vs n)) ≤ (nI i) → Go (d + 2) true 181 49 [.ref 10, .ref 88, .int (nI (unl vs n)), .int (nI i)] [] h Q) ∧ (¬ ((nI (unl vs n)) ≤ (nI i)) → Go (d + 2) true 181 25 [.ref 10, .ref 88, .int (nI (unl vs n)), .int (nI i)] [] h Q) from ⟨fun c2 => ?_, fun c2 => ?_⟩)
        · skip
          have c2 : (unl vs n) ≤ i := (nI_leI (a := (unl vs n)) (b := i) (by omega) (by omega)).mp c2
          refine exf_go 2 (show ((1 : Int32) = 0 ∨ (1 : Int32) = 1) ∧ Q (.int 1) h from ⟨(by first | exact Or.inl rfl | exact Or.inr rfl | assumption), ?_⟩)
          exact k1 (by unfold bgw; rw [decide_eq_true (by omega), ← show i = unl vs n from by omega, hb]; rfl)
        · skip
          have c2 : ¬ (unl vs n) ≤ i := fun q => c2 ((nI_leI (a := (unl vs n)) (b := i) (by omega) (by omega)).mpr q)
          refine exf_go 5 (show wpC (d + 2) true 49 [.ref 71, .int (nI i)] h (fun r h' => Go (d + 2) true 181 34 [.ref 10, .ref 88, .int (nI (unl vs n)), .int (nI i)] [r, .ref 88] h' Q) from ?_)
          refine c_atI cs.1 rk (j := i) (by omega) ?_
          have hoi := ordE_in (E := wE g kn) (g := g) (kn := kn) (k := i) (by omega)
          show Go (d + 2) true 181 34 [.ref 10, .ref 88, .int (nI (unl vs n)), .int (nI i)] [.int (nI (ordE (wE g kn) g kn i)), .ref 88] h Q
          refine exf_go 1 (show Go (d + 2) true 181 35 [.ref 10, .ref 88, .int (nI (unl vs n)), .int (nI i)] [.long ((nI (ordE (wE g kn) g kn i)).toInt64), .ref 88] h Q from ?_)
          rw [show ((nI (ordE (wE g kn) g kn i)).toInt64 : Int64) = lN (ordE (wE g kn) g kn i) from nI_l (n := (ordE (wE g kn) g kn i)) (by omega)]
          refine exf_go 1 (show wpC (d + 2) true 107 [.ref 88, .long (lN (ordE (wE g kn) g kn i))] h (fun r h' => Go (d + 2) true 181 38 [.ref 10, .ref 88, .int (nI (unl vs n)), .int (nI i)] [r] h' Q) from ?_)
          refine c_has0 ct (x := lN (ordE (wE g kn) g kn i)) (fun b3 => ?_) (fun b3 => ?_)
          · skip
            show Go (d + 2) true 181 38 [.ref 10, .ref 88, .int (nI (unl vs n)), .int (nI i)] [.int 1] h Q
            refine exf_go 1 (show (¬ (1 : Int32) = 0 → Go (d + 2) true 181 43 [.ref 10, .ref 88, .int (nI (unl vs n)), .int (nI i)] [] h Q) ∧ (¬ (¬ (1 : Int32) = 0) → Go (d + 2) true 181 41 [.ref 10, .ref 88, .int (nI (unl vs n)), .int (nI i)] [] h Q) from ⟨fun c4 => ?_, fun c4 => ?_⟩)
            · skip
              refine exf_go 1 (show Go (d + 2) true 181 46 [.ref 10, .ref 88, .int (nI (unl vs n)), .int ((nI i) + 1)] [] h Q from ?_)
              rw [show ((nI i) + 1 : Int32) = nI (i + 1) from nI_add i 1]
              refine exf_go 1 (show Go (d + 2) true 181 20 [.ref 10, .ref 88, .int (nI (unl vs n)), .int (nI (i + 1))] [] h Q from ?_)
              exact ih20 (i + 1) (by omega) (by omega) (by rw [bgT, hb]; exact (Bool.true_and _).trans (by assumption))
            · skip
              exact absurd (by decide) c4
          · skip
            show Go (d + 2) true 181 38 [.ref 10, .ref 88, .int (nI (unl vs n)), .int (nI i)] [.int 0] h Q
            refine exf_go 1 (show (¬ (0 : Int32) = 0 → Go (d + 2) true 181 43 [.ref 10, .ref 88, .int (nI (unl vs n)), .int (nI i)] [] h Q) ∧ (¬ (¬ (0 : Int32) = 0) → Go (d + 2) true 181 41 [.ref 10, .ref 88, .int (nI (unl vs n)), .int (nI i)] [] h Q) from ⟨fun c5 => ?_, fun c5 => ?_⟩)
            · skip
              exact absurd c5 (by decide)
            · skip
              refine exf_go 2 (show ((0 : Int32) = 0 ∨ (0 : Int32) = 1) ∧ Q (.int 0) h from ⟨(by first | exact Or.inl rfl | exact Or.inr rfl | assumption), ?_⟩)
              exact k0 (by unfold bgw; rw [bt_end (k := i + 1) (by rw [bgT, hb]; exact (Bool.true_and _).trans (by assumption)) (by omega), Bool.and_false])
    exact L20 (unl vs n + 1) 0 (by omega) (by omega) rfl
  · skip
    have c1 : ¬ (unl vs n) ≤ (cntN (wE g kn) (tot g)) := fun q => c1 ((nI_leI (a := (unl vs n)) (b := (cntN (wE g kn) (tot g))) (by omega) (by omega)).mpr q)
    refine exf_go 2 (show ((0 : Int32) = 0 ∨ (0 : Int32) = 1) ∧ Q (.int 0) h from ⟨(by first | exact Or.inl rfl | exact Or.inr rfl | assumption), ?_⟩)
    exact k0 (by unfold bgw; rw [decide_eq_false (by omega)]; rfl)
theorem c_bgw1 {d : Nat} {h : Hp} {g : ShG} {kn so n : Nat} {vs : Nat → Int64} {Q : Po} (cs : CS 31 g h) (rk : RKd (wE g kn) g kn h) (ct : CT 1 (some (so, n, vs)) h) (k1 : bgw g vs n kn = true → Q (.int 1) h) (k0 : bgw g vs n kn = false → Q (.int 0) h) : wpC (d + 3) true 181 [.ref 10, .ref 90] h Q := by
  have hN := tot_b cs.1
  have hn4 := ct.2.1
  have hcc := cntN_le (wE g kn) (tot g)
  refine go_in rfl ?_
  refine exf_go 2 (show wpC (d + 2) true 108 [.ref 90] h (fun r h' => Go (d + 2) true 181 4 [.ref 10, .ref 90, mk_, mk_] [r] h' Q) from ?_)
  refine c_unl1 ct ?_
  have hul : unl vs n ≤ n := cntN_le _ n
  show Go (d + 2) true 181 4 [.ref 10, .ref 90, mk_, mk_] [.int (nI (unl vs n))] h Q
  refine exf_go 4 (show Go (d + 2) true 181 12 [.ref 10, .ref 90, .int (nI (unl vs n)), mk_] [.int (rI h 71 1)] h Q from ?_)
  rw [show (rI h 71 1 : Int32) = nI (cntN (wE g kn) (tot g)) from rk.1]
  refine exf_go 2 (show ((nI (unl vs n)) ≤ (nI (cntN (wE g kn) (tot g))) → Go (d + 2) true 181 18 [.ref 10, .ref 90, .int (nI (unl vs n)), mk_] [] h Q) ∧ (¬ ((nI (unl vs n)) ≤ (nI (cntN (wE g kn) (tot g)))) → Go (d + 2) true 181 16 [.ref 10, .ref 90, .int (nI (unl vs n)), mk_] [] h Q) from ⟨fun c1 => ?_, fun c1 => ?_⟩)
  · skip
    have c1 : (unl vs n) ≤ (cntN (wE g kn) (tot g)) := (nI_leI (a := (unl vs n)) (b := (cntN (wE g kn) (tot g))) (by omega) (by omega)).mp c1
    refine exf_go 2 (show Go (d + 2) true 181 20 [.ref 10, .ref 90, .int (nI (unl vs n)), .int 0] [] h Q from ?_)
    have L20 : ∀ (k20 : Nat) (i : Nat), (unl vs n - i) < k20 → (i ≤ unl vs n) → (bgT g vs n kn i = true) → Go (d + 2) true 181 20 [.ref 10, .ref 90, .int (nI (unl vs n)), .int (nI i)] [] h Q := by
      intro k20
      induction k20 with
      | zero => intro i hk; exact absurd hk (Nat.not_lt_zero _)
      | succ k20 ih20 =>
        intro i hk hi hb
        refine exf_go 3 (show ((nI (unl vs n)) ≤ (nI i) → Go (d + 2) true 181 49 [.ref 10, .ref 90, .int (nI (unl vs n)), .int (nI i)] [] h Q) ∧ (¬ ((nI (unl vs n)) ≤ (nI i)) → Go (d + 2) true 181 25 [.ref 10, .ref 90, .int (nI (unl vs n)), .int (nI i)] [] h Q) from ⟨fun c2 => ?_, fun c2 => ?_⟩)
        · skip
          have c2 : (unl vs n) ≤ i := (nI_leI (a := (unl vs n)) (b := i) (by omega) (by omega)).mp c2
          refine exf_go 2 (show ((1 : Int32) = 0 ∨ (1 : Int32) = 1) ∧ Q (.int 1) h from ⟨(by first | exact Or.inl rfl | exact Or.inr rfl | assumption), ?_⟩)
          exact k1 (by unfold bgw; rw [decide_eq_true (by omega), ← show i = unl vs n from by omega, hb]; rfl)
        · skip
          have c2 : ¬ (unl vs n) ≤ i := fun q => c2 ((nI_leI (a := (unl vs n)) (b := i) (by omega) (by omega)).mpr q)
          refine exf_go 5 (show wpC (d + 2) true 49 [.ref 71, .int (nI i)] h (fun r h' => Go (d + 2) true 181 34 [.ref 10, .ref 90, .int (nI (unl vs n)), .int (nI i)] [r, .ref 90] h' Q) from ?_)
          refine c_atI cs.1 rk (j := i) (by omega) ?_
          have hoi := ordE_in (E := wE g kn) (g := g) (kn := kn) (k := i) (by omega)
          show Go (d + 2) true 181 34 [.ref 10, .ref 90, .int (nI (unl vs n)), .int (nI i)] [.int (nI (ordE (wE g kn) g kn i)), .ref 90] h Q
          refine exf_go 1 (show Go (d + 2) true 181 35 [.ref 10, .ref 90, .int (nI (unl vs n)), .int (nI i)] [.long ((nI (ordE (wE g kn) g kn i)).toInt64), .ref 90] h Q from ?_)
          rw [show ((nI (ordE (wE g kn) g kn i)).toInt64 : Int64) = lN (ordE (wE g kn) g kn i) from nI_l (n := (ordE (wE g kn) g kn i)) (by omega)]
          refine exf_go 1 (show wpC (d + 2) true 107 [.ref 90, .long (lN (ordE (wE g kn) g kn i))] h (fun r h' => Go (d + 2) true 181 38 [.ref 10, .ref 90, .int (nI (unl vs n)), .int (nI i)] [r] h' Q) from ?_)
          refine c_has1 ct (x := lN (ordE (wE g kn) g kn i)) (fun b3 => ?_) (fun b3 => ?_)
          · skip
            show Go (d + 2) true 181 38 [.ref 10, .ref 90, .int (nI (unl vs n)), .int (nI i)] [.int 1] h Q
            refine exf_go 1 (show (¬ (1 : Int32) = 0 → Go (d + 2) true 181 43 [.ref 10, .ref 90, .int (nI (unl vs n)), .int (nI i)] [] h Q) ∧ (¬ (¬ (1 : Int32) = 0) → Go (d + 2) true 181 41 [.ref 10, .ref 90, .int (nI (unl vs n)), .int (nI i)] [] h Q) from ⟨fun c4 => ?_, fun c4 => ?_⟩)
            · skip
              refine exf_go 1 (show Go (d + 2) true 181 46 [.ref 10, .ref 90, .int (nI (unl vs n)), .int ((nI i) + 1)] [] h Q from ?_)
              rw [show ((nI i) + 1 : Int32) = nI (i + 1) from nI_add i 1]
              refine exf_go 1 (show Go (d + 2) true 181 20 [.ref 10, .ref 90, .int (nI (unl vs n)), .int (nI (i + 1))] [] h Q from ?_)
              exact ih20 (i + 1) (by omega) (by omega) (by rw [bgT, hb]; exact (Bool.true_and _).trans (by assumption))
            · skip
              exact absurd (by decide) c4
          · skip
            show Go (d + 2) true 181 38 [.ref 10, .ref 90, .int (nI (unl vs n)), .int (nI i)] [.int 0] h Q
            refine exf_go 1 (show (¬ (0 : Int32) = 0 → Go (d + 2) true 181 43 [.ref 10, .ref 90, .int (nI (unl vs n)), .int (nI i)] [] h Q) ∧ (¬ (¬ (0 : Int32) = 0) → Go (d + 2) true 181 41 [.ref 10, .ref 90, .int (nI (unl vs n)), .int (nI i)] [] h Q) from ⟨fun c5 => ?_, fun c5 => ?_⟩)
            · skip
              exact absurd c5 (by decide)
            · skip
              refine exf_go 2 (show ((0 : Int32) = 0 ∨ (0 : Int32) = 1) ∧ Q (.int 0) h from ⟨(by first | exact Or.inl rfl | exact Or.inr rfl | assumption), ?_⟩)
              exact k0 (by unfold bgw; rw [bt_end (k := i + 1) (by rw [bgT, hb]; exact (Bool.true_and _).trans (by assumption)) (by omega), Bool.and_false])
    exact L20 (unl vs n + 1) 0 (by omega) (by omega) rfl
  · skip
    have c1 : ¬ (unl vs n) ≤ (cntN (wE g kn) (tot g)) := fun q => c1 ((nI_leI (a := (unl vs n)) (b := (cntN (wE g kn) (tot g))) (by omega) (by omega)).mpr q)
    refine exf_go 2 (show ((0 : Int32) = 0 ∨ (0 : Int32) = 1) ∧ Q (.int 0) h from ⟨(by first | exact Or.inl rfl | exact Or.inr rfl | assumption), ?_⟩)
    exact k0 (by unfold bgw; rw [decide_eq_false (by omega)]; rfl)
theorem c_bgw2 {d : Nat} {h : Hp} {g : ShG} {kn so n : Nat} {vs : Nat → Int64} {Q : Po} (cs : CS 31 g h) (rk : RKd (wE g kn) g kn h) (ct : CT 2 (some (so, n, vs)) h) (k1 : bgw g vs n kn = true → Q (.int 1) h) (k0 : bgw g vs n kn = false → Q (.int 0) h) : wpC (d + 3) true 181 [.ref 10, .ref 92] h Q := by
  have hN := tot_b cs.1
  have hn4 := ct.2.1
  have hcc := cntN_le (wE g kn) (tot g)
  refine go_in rfl ?_
  refine exf_go 2 (show wpC (d + 2) true 108 [.ref 92] h (fun r h' => Go (d + 2) true 181 4 [.ref 10, .ref 92, mk_, mk_] [r] h' Q) from ?_)
  refine c_unl2 ct ?_
  have hul : unl vs n ≤ n := cntN_le _ n
  show Go (d + 2) true 181 4 [.ref 10, .ref 92, mk_, mk_] [.int (nI (unl vs n))] h Q
  refine exf_go 4 (show Go (d + 2) true 181 12 [.ref 10, .ref 92, .int (nI (unl vs n)), mk_] [.int (rI h 71 1)] h Q from ?_)
  rw [show (rI h 71 1 : Int32) = nI (cntN (wE g kn) (tot g)) from rk.1]
  refine exf_go 2 (show ((nI (unl vs n)) ≤ (nI (cntN (wE g kn) (tot g))) → Go (d + 2) true 181 18 [.ref 10, .ref 92, .int (nI (unl vs n)), mk_] [] h Q) ∧ (¬ ((nI (unl vs n)) ≤ (nI (cntN (wE g kn) (tot g)))) → Go (d + 2) true 181 16 [.ref 10, .ref 92, .int (nI (unl vs n)), mk_] [] h Q) from ⟨fun c1 => ?_, fun c1 => ?_⟩)
  · skip
    have c1 : (unl vs n) ≤ (cntN (wE g kn) (tot g)) := (nI_leI (a := (unl vs n)) (b := (cntN (wE g kn) (tot g))) (by omega) (by omega)).mp c1
    refine exf_go 2 (show Go (d + 2) true 181 20 [.ref 10, .ref 92, .int (nI (unl vs n)), .int 0] [] h Q from ?_)
    have L20 : ∀ (k20 : Nat) (i : Nat), (unl vs n - i) < k20 → (i ≤ unl vs n) → (bgT g vs n kn i = true) → Go (d + 2) true 181 20 [.ref 10, .ref 92, .int (nI (unl vs n)), .int (nI i)] [] h Q := by
      intro k20
      induction k20 with
      | zero => intro i hk; exact absurd hk (Nat.not_lt_zero _)
      | succ k20 ih20 =>
        intro i hk hi hb
        refine exf_go 3 (show ((nI (unl vs n)) ≤ (nI i) → Go (d + 2) true 181 49 [.ref 10, .ref 92, .int (nI (unl vs n)), .int (nI i)] [] h Q) ∧ (¬ ((nI (unl vs n)) ≤ (nI i)) → Go (d + 2) true 181 25 [.ref 10, .ref 92, .int (nI (unl vs n)), .int (nI i)] [] h Q) from ⟨fun c2 => ?_, fun c2 => ?_⟩)
        · skip
          have c2 : (unl vs n) ≤ i := (nI_leI (a := (unl vs n)) (b := i) (by omega) (by omega)).mp c2
          refine exf_go 2 (show ((1 : Int32) = 0 ∨ (1 : Int32) = 1) ∧ Q (.int 1) h from ⟨(by first | exact Or.inl rfl | exact Or.inr rfl | assumption), ?_⟩)
          exact k1 (by unfold bgw; rw [decide_eq_true (by omega), ← show i = unl vs n from by omega, hb]; rfl)
        · skip
          have c2 : ¬ (unl vs n) ≤ i := fun q => c2 ((nI_leI (a := (unl vs n)) (b := i) (by omega) (by omega)).mpr q)
          refine exf_go 5 (show wpC (d + 2) true 49 [.ref 71, .int (nI i)] h (fun r h' => Go (d + 2) true 181 34 [.ref 10, .ref 92, .int (nI (unl vs n)), .int (nI i)] [r, .ref 92] h' Q) from ?_)
          refine c_atI cs.1 rk (j := i) (by omega) ?_
          have hoi := ordE_in (E := wE g kn) (g := g) (kn := kn) (k := i) (by omega)
          show Go (d + 2) true 181 34 [.ref 10, .ref 92, .int (nI (unl vs n)), .int (nI i)] [.int (nI (ordE (wE g kn) g kn i)), .ref 92] h Q
          refine exf_go 1 (show Go (d + 2) true 181 35 [.ref 10, .ref 92, .int (nI (unl vs n)), .int (nI i)] [.long ((nI (ordE (wE g kn) g kn i)).toInt64), .ref 92] h Q from ?_)
          rw [show ((nI (ordE (wE g kn) g kn i)).toInt64 : Int64) = lN (ordE (wE g kn) g kn i) from nI_l (n := (ordE (wE g kn) g kn i)) (by omega)]
          refine exf_go 1 (show wpC (d + 2) true 107 [.ref 92, .long (lN (ordE (wE g kn) g kn i))] h (fun r h' => Go (d + 2) true 181 38 [.ref 10, .ref 92, .int (nI (unl vs n)), .int (nI i)] [r] h' Q) from ?_)
          refine c_has2 ct (x := lN (ordE (wE g kn) g kn i)) (fun b3 => ?_) (fun b3 => ?_)
          · skip
            show Go (d + 2) true 181 38 [.ref 10, .ref 92, .int (nI (unl vs n)), .int (nI i)] [.int 1] h Q
            refine exf_go 1 (show (¬ (1 : Int32) = 0 → Go (d + 2) true 181 43 [.ref 10, .ref 92, .int (nI (unl vs n)), .int (nI i)] [] h Q) ∧ (¬ (¬ (1 : Int32) = 0) → Go (d + 2) true 181 41 [.ref 10, .ref 92, .int (nI (unl vs n)), .int (nI i)] [] h Q) from ⟨fun c4 => ?_, fun c4 => ?_⟩)
            · skip
              refine exf_go 1 (show Go (d + 2) true 181 46 [.ref 10, .ref 92, .int (nI (unl vs n)), .int ((nI i) + 1)] [] h Q from ?_)
              rw [show ((nI i) + 1 : Int32) = nI (i + 1) from nI_add i 1]
              refine exf_go 1 (show Go (d + 2) true 181 20 [.ref 10, .ref 92, .int (nI (unl vs n)), .int (nI (i + 1))] [] h Q from ?_)
              exact ih20 (i + 1) (by omega) (by omega) (by rw [bgT, hb]; exact (Bool.true_and _).trans (by assumption))
            · skip
              exact absurd (by decide) c4
          · skip
            show Go (d + 2) true 181 38 [.ref 10, .ref 92, .int (nI (unl vs n)), .int (nI i)] [.int 0] h Q
            refine exf_go 1 (show (¬ (0 : Int32) = 0 → Go (d + 2) true 181 43 [.ref 10, .ref 92, .int (nI (unl vs n)), .int (nI i)] [] h Q) ∧ (¬ (¬ (0 : Int32) = 0) → Go (d + 2) true 181 41 [.ref 10, .ref 92, .int (nI (unl vs n)), .int (nI i)] [] h Q) from ⟨fun c5 => ?_, fun c5 => ?_⟩)
            · skip
              exact absurd c5 (by decide)
            · skip
              refine exf_go 2 (show ((0 : Int32) = 0 ∨ (0 : Int32) = 1) ∧ Q (.int 0) h from ⟨(by first | exact Or.inl rfl | exact Or.inr rfl | assumption), ?_⟩)
              exact k0 (by unfold bgw; rw [bt_end (k := i + 1) (by rw [bgT, hb]; exact (Bool.true_and _).trans (by assumption)) (by omega), Bool.and_false])
    exact L20 (unl vs n + 1) 0 (by omega) (by omega) rfl
  · skip
    have c1 : ¬ (unl vs n) ≤ (cntN (wE g kn) (tot g)) := fun q => c1 ((nI_leI (a := (unl vs n)) (b := (cntN (wE g kn) (tot g))) (by omega) (by omega)).mpr q)
    refine exf_go 2 (show ((0 : Int32) = 0 ∨ (0 : Int32) = 1) ∧ Q (.int 0) h from ⟨(by first | exact Or.inl rfl | exact Or.inr rfl | assumption), ?_⟩)
    exact k0 (by unfold bgw; rw [decide_eq_false (by omega)]; rfl)
theorem c_bgw3 {d : Nat} {h : Hp} {g : ShG} {kn so n : Nat} {vs : Nat → Int64} {Q : Po} (cs : CS 31 g h) (rk : RKd (wE g kn) g kn h) (ct : CT 3 (some (so, n, vs)) h) (k1 : bgw g vs n kn = true → Q (.int 1) h) (k0 : bgw g vs n kn = false → Q (.int 0) h) : wpC (d + 3) true 181 [.ref 10, .ref 94] h Q := by
  have hN := tot_b cs.1
  have hn4 := ct.2.1
  have hcc := cntN_le (wE g kn) (tot g)
  refine go_in rfl ?_
  refine exf_go 2 (show wpC (d + 2) true 108 [.ref 94] h (fun r h' => Go (d + 2) true 181 4 [.ref 10, .ref 94, mk_, mk_] [r] h' Q) from ?_)
  refine c_unl3 ct ?_
  have hul : unl vs n ≤ n := cntN_le _ n
  show Go (d + 2) true 181 4 [.ref 10, .ref 94, mk_, mk_] [.int (nI (unl vs n))] h Q
  refine exf_go 4 (show Go (d + 2) true 181 12 [.ref 10, .ref 94, .int (nI (unl vs n)), mk_] [.int (rI h 71 1)] h Q from ?_)
  rw [show (rI h 71 1 : Int32) = nI (cntN (wE g kn) (tot g)) from rk.1]
  refine exf_go 2 (show ((nI (unl vs n)) ≤ (nI (cntN (wE g kn) (tot g))) → Go (d + 2) true 181 18 [.ref 10, .ref 94, .int (nI (unl vs n)), mk_] [] h Q) ∧ (¬ ((nI (unl vs n)) ≤ (nI (cntN (wE g kn) (tot g)))) → Go (d + 2) true 181 16 [.ref 10, .ref 94, .int (nI (unl vs n)), mk_] [] h Q) from ⟨fun c1 => ?_, fun c1 => ?_⟩)
  · skip
    have c1 : (unl vs n) ≤ (cntN (wE g kn) (tot g)) := (nI_leI (a := (unl vs n)) (b := (cntN (wE g kn) (tot g))) (by omega) (by omega)).mp c1
    refine exf_go 2 (show Go (d + 2) true 181 20 [.ref 10, .ref 94, .int (nI (unl vs n)), .int 0] [] h Q from ?_)
    have L20 : ∀ (k20 : Nat) (i : Nat), (unl vs n - i) < k20 → (i ≤ unl vs n) → (bgT g vs n kn i = true) → Go (d + 2) true 181 20 [.ref 10, .ref 94, .int (nI (unl vs n)), .int (nI i)] [] h Q := by
      intro k20
      induction k20 with
      | zero => intro i hk; exact absurd hk (Nat.not_lt_zero _)
      | succ k20 ih20 =>
        intro i hk hi hb
        refine exf_go 3 (show ((nI (unl vs n)) ≤ (nI i) → Go (d + 2) true 181 49 [.ref 10, .ref 94, .int (nI (unl vs n)), .int (nI i)] [] h Q) ∧ (¬ ((nI (unl vs n)) ≤ (nI i)) → Go (d + 2) true 181 25 [.ref 10, .ref 94, .int (nI (unl vs n)), .int (nI i)] [] h Q) from ⟨fun c2 => ?_, fun c2 => ?_⟩)
        · skip
          have c2 : (unl vs n) ≤ i := (nI_leI (a := (unl vs n)) (b := i) (by omega) (by omega)).mp c2
          refine exf_go 2 (show ((1 : Int32) = 0 ∨ (1 : Int32) = 1) ∧ Q (.int 1) h from ⟨(by first | exact Or.inl rfl | exact Or.inr rfl | assumption), ?_⟩)
          exact k1 (by unfold bgw; rw [decide_eq_true (by omega), ← show i = unl vs n from by omega, hb]; rfl)
        · skip
          have c2 : ¬ (unl vs n) ≤ i := fun q => c2 ((nI_leI (a := (unl vs n)) (b := i) (by omega) (by omega)).mpr q)
          refine exf_go 5 (show wpC (d + 2) true 49 [.ref 71, .int (nI i)] h (fun r h' => Go (d + 2) true 181 34 [.ref 10, .ref 94, .int (nI (unl vs n)), .int (nI i)] [r, .ref 94] h' Q) from ?_)
          refine c_atI cs.1 rk (j := i) (by omega) ?_
          have hoi := ordE_in (E := wE g kn) (g := g) (kn := kn) (k := i) (by omega)
          show Go (d + 2) true 181 34 [.ref 10, .ref 94, .int (nI (unl vs n)), .int (nI i)] [.int (nI (ordE (wE g kn) g kn i)), .ref 94] h Q
          refine exf_go 1 (show Go (d + 2) true 181 35 [.ref 10, .ref 94, .int (nI (unl vs n)), .int (nI i)] [.long ((nI (ordE (wE g kn) g kn i)).toInt64), .ref 94] h Q from ?_)
          rw [show ((nI (ordE (wE g kn) g kn i)).toInt64 : Int64) = lN (ordE (wE g kn) g kn i) from nI_l (n := (ordE (wE g kn) g kn i)) (by omega)]
          refine exf_go 1 (show wpC (d + 2) true 107 [.ref 94, .long (lN (ordE (wE g kn) g kn i))] h (fun r h' => Go (d + 2) true 181 38 [.ref 10, .ref 94, .int (nI (unl vs n)), .int (nI i)] [r] h' Q) from ?_)
          refine c_has3 ct (x := lN (ordE (wE g kn) g kn i)) (fun b3 => ?_) (fun b3 => ?_)
          · skip
            show Go (d + 2) true 181 38 [.ref 10, .ref 94, .int (nI (unl vs n)), .int (nI i)] [.int 1] h Q
            refine exf_go 1 (show (¬ (1 : Int32) = 0 → Go (d + 2) true 181 43 [.ref 10, .ref 94, .int (nI (unl vs n)), .int (nI i)] [] h Q) ∧ (¬ (¬ (1 : Int32) = 0) → Go (d + 2) true 181 41 [.ref 10, .ref 94, .int (nI (unl vs n)), .int (nI i)] [] h Q) from ⟨fun c4 => ?_, fun c4 => ?_⟩)
            · skip
              refine exf_go 1 (show Go (d + 2) true 181 46 [.ref 10, .ref 94, .int (nI (unl vs n)), .int ((nI i) + 1)] [] h Q from ?_)
              rw [show ((nI i) + 1 : Int32) = nI (i + 1) from nI_add i 1]
              refine exf_go 1 (show Go (d + 2) true 181 20 [.ref 10, .ref 94, .int (nI (unl vs n)), .int (nI (i + 1))] [] h Q from ?_)
              exact ih20 (i + 1) (by omega) (by omega) (by rw [bgT, hb]; exact (Bool.true_and _).trans (by assumption))
            · skip
              exact absurd (by decide) c4
          · skip
            show Go (d + 2) true 181 38 [.ref 10, .ref 94, .int (nI (unl vs n)), .int (nI i)] [.int 0] h Q
            refine exf_go 1 (show (¬ (0 : Int32) = 0 → Go (d + 2) true 181 43 [.ref 10, .ref 94, .int (nI (unl vs n)), .int (nI i)] [] h Q) ∧ (¬ (¬ (0 : Int32) = 0) → Go (d + 2) true 181 41 [.ref 10, .ref 94, .int (nI (unl vs n)), .int (nI i)] [] h Q) from ⟨fun c5 => ?_, fun c5 => ?_⟩)
            · skip
              exact absurd c5 (by decide)
            · skip
              refine exf_go 2 (show ((0 : Int32) = 0 ∨ (0 : Int32) = 1) ∧ Q (.int 0) h from ⟨(by first | exact Or.inl rfl | exact Or.inr rfl | assumption), ?_⟩)
              exact k0 (by unfold bgw; rw [bt_end (k := i + 1) (by rw [bgT, hb]; exact (Bool.true_and _).trans (by assumption)) (by omega), Bool.and_false])
    exact L20 (unl vs n + 1) 0 (by omega) (by omega) rfl
  · skip
    have c1 : ¬ (unl vs n) ≤ (cntN (wE g kn) (tot g)) := fun q => c1 ((nI_leI (a := (unl vs n)) (b := (cntN (wE g kn) (tot g))) (by omega) (by omega)).mpr q)
    refine exf_go 2 (show ((0 : Int32) = 0 ∨ (0 : Int32) = 1) ∧ Q (.int 0) h from ⟨(by first | exact Or.inl rfl | exact Or.inr rfl | assumption), ?_⟩)
    exact k0 (by unfold bgw; rw [decide_eq_false (by omega)]; rfl)
theorem c_who {d : Nat} {h : Hp} {g : ShG} {l : LkG} {tr : Nat → TrG} {x : Int32} {Q : Po} (wf : WF h) (cs : CS 31 g h) (cl : CL 39 g l h) (ca : CTA tr h) (k : ∀ h1, Gq scC h h1 → Q (.int (fWho g tr x)) h1) : wpC (d + 6) true 146 [.ref 10, .int x] h Q := by
  have hN := tot_b cs.1
  have he := evr_b cs.1
  have h8 := cs.1.2.2.2.1
  have h4 := cs.1.2.2.2.2.2.1
  refine go_in rfl ?_
  refine exf_go 2 (show wpC (d + 5) true 159 [.int x] h (fun r h' => Go (d + 5) true 146 4 [.ref 10, .int x, mk_, mk_, mk_] [r] h' Q) from ?_)
  refine c_isTray (x := x) (fun et etq => ?_) (fun et etq => ?_) (fun et etq => ?_) (fun et etq => ?_) (fun et => ?_)
  · skip
    subst etq
    show Go (d + 5) true 146 4 [.ref 10, .int 0, mk_, mk_, mk_] [.int 1] h Q
    refine exf_go 1 (show (¬ (1 : Int32) = 0 → Go (d + 5) true 146 10 [.ref 10, .int 0, mk_, mk_, mk_] [] h Q) ∧ (¬ (¬ (1 : Int32) = 0) → Go (d + 5) true 146 7 [.ref 10, .int 0, mk_, mk_, mk_] [] h Q) from ⟨fun c1 => ?_, fun c1 => ?_⟩)
    · skip
      refine exf_go 4 (show vp_in (0 : Int32) 4 ∧ (rN h 87 0 = true → Go (d + 5) true 146 16 [.ref 10, .int 0, mk_, mk_, mk_] [.ref 88] h Q) ∧ (rN h 87 0 = false → Go (d + 5) true 146 16 [.ref 10, .int 0, mk_, mk_, mk_] [.null] h Q) from ⟨vp_in_nI (n := 0) (by decide) (by decide), fun c2 => ?_, fun c2 => ?_⟩)
      · skip
        refine exf_go 3 (show wpC (d + 5) true 102 [.ref 88] h (fun r h' => Go (d + 5) true 146 21 [.ref 10, .int 0, .ref 88, mk_, mk_] [r] h' Q) from ?_)
        rcases hq : tr 0 with _ | ⟨so, n, vs⟩
        · skip
          have ct : CT 0 none h := by have := ca 0 (by decide); rw [hq] at this; exact this
          refine c_miss10 ct ?_
          show Go (d + 5) true 146 21 [.ref 10, .int 0, .ref 88, mk_, mk_] [.int 1] h Q
          refine exf_go 1 (show ((1 : Int32) = 0 → Go (d + 5) true 146 27 [.ref 10, .int 0, .ref 88, mk_, mk_] [] h Q) ∧ (¬ ((1 : Int32) = 0) → Go (d + 5) true 146 24 [.ref 10, .int 0, .ref 88, mk_, mk_] [] h Q) from ⟨fun c3 => ?_, fun c3 => ?_⟩)
          · skip
            exact absurd c3 (by decide)
          · skip
            refine exf_go 2 (show Q (.int (-6)) h from ?_)
            simp only [fWho, et, hq] at k; exact k _ Gq.rfl'
        · skip
          have ct : CT 0 (some (so, n, vs)) h := by have := ca 0 (by decide); rw [hq] at this; exact this
          have hn4 := ct.2.1; have hs3 := ct.1
          refine c_miss00 ct ?_
          show Go (d + 5) true 146 21 [.ref 10, .int 0, .ref 88, mk_, mk_] [.int 0] h Q
          refine exf_go 1 (show ((0 : Int32) = 0 → Go (d + 5) true 146 27 [.ref 10, .int 0, .ref 88, mk_, mk_] [] h Q) ∧ (¬ ((0 : Int32) = 0) → Go (d + 5) true 146 24 [.ref 10, .int 0, .ref 88, mk_, mk_] [] h Q) from ⟨fun c4 => ?_, fun c4 => ?_⟩)
          · skip
            refine exf_go 2 (show Go (d + 5) true 146 31 [.ref 10, .int 0, .ref 88, mk_, mk_] [.int (rI h 88 2)] h Q from ?_)
            rw [show (rI h 88 2 : Int32) = nI n from ct.2.2.2.1]
            refine exf_go 2 (show ((nI n) < 1 → Go (d + 5) true 146 44 [.ref 10, .int 0, .ref 88, mk_, mk_] [] h Q) ∧ (¬ ((nI n) < 1) → Go (d + 5) true 146 35 [.ref 10, .int 0, .ref 88, mk_, mk_] [] h Q) from ⟨fun c5 => ?_, fun c5 => ?_⟩)
            · skip
              have c5 : n < 1 := (nI_ltI (a := n) (b := 1) (by omega) (by omega)).mp c5
              refine exf_go 2 (show Q (.int (-4)) h from ?_)
              simp only [fWho, et, hq] at k; rw [if_pos (by omega)] at k; exact k _ Gq.rfl'
            · skip
              have c5 : ¬ n < 1 := fun q => c5 ((nI_ltI (a := n) (b := 1) (by omega) (by omega)).mpr q)
              refine exf_go 2 (show Go (d + 5) true 146 39 [.ref 10, .int 0, .ref 88, mk_, mk_] [.int (rI h 88 2)] h Q from ?_)
              rw [show (rI h 88 2 : Int32) = nI n from ct.2.2.2.1]
              refine exf_go 2 (show ((nI n) ≤ 6 → Go (d + 5) true 146 47 [.ref 10, .int 0, .ref 88, mk_, mk_] [] h Q) ∧ (¬ ((nI n) ≤ 6) → Go (d + 5) true 146 44 [.ref 10, .int 0, .ref 88, mk_, mk_] [] h Q) from ⟨fun c6 => ?_, fun c6 => ?_⟩)
              · skip
                have c6 : n ≤ 6 := (nI_leI (a := n) (b := 6) (by omega) (by omega)).mp c6
                refine exf_go 4 (show Go (d + 5) true 146 55 [.ref 10, .int 0, .ref 88, mk_, mk_] [.int (rI h 31 5), .ref 88] h Q from ?_)
                rw [show (rI h 31 5 : Int32) = nI (tot g) from cs_N cs]
                refine exf_go 2 (show Go (d + 5) true 146 57 [.ref 10, .int 0, .ref 88, mk_, mk_] [.int ((nI (tot g)) - 1), .ref 88] h Q from ?_)
                rw [show ((nI (tot g)) - 1 : Int32) = nI ((tot g) - 1) from pk_sub (a := (tot g)) (b := 1) (by omega)]
                refine exf_go 1 (show wpC (d + 5) true 106 [.ref 88, .int (nI ((tot g) - 1))] h (fun r h' => Go (d + 5) true 146 60 [.ref 10, .int 0, .ref 88, mk_, mk_] [r] h' Q) from ?_)
                refine c_aw0 ct (N := tot g - 1) (by omega) (fun haw => ?_) (fun haw => ?_)
                · skip
                  rw [show tot g - 1 + 1 = tot g from by omega] at haw
                  show Go (d + 5) true 146 60 [.ref 10, .int 0, .ref 88, mk_, mk_] [.int 1] h Q
                  refine exf_go 1 (show (¬ (1 : Int32) = 0 → Go (d + 5) true 146 66 [.ref 10, .int 0, .ref 88, mk_, mk_] [] h Q) ∧ (¬ (¬ (1 : Int32) = 0) → Go (d + 5) true 146 63 [.ref 10, .int 0, .ref 88, mk_, mk_] [] h Q) from ⟨fun c7 => ?_, fun c7 => ?_⟩)
                  · skip
                    refine exf_go 4 (show Go (d + 5) true 146 71 [.ref 10, .int 0, .ref 88, .int 0, .int 0] [] h Q from ?_)
                    have L71 : ∀ (k71 : Nat) (m s : Nat) (h1 : Hp), (sM g - m) < k71 → (m ≤ sM g) → (Gq scC h h1) → (s = whoB g vs n m) → Go (d + 5) true 146 71 [.ref 10, .int 0, .ref 88, .int (nI s), .int (nI m)] [] h1 Q := by
                      intro k71
                      induction k71 with
                      | zero => intro m s h1 hk; exact absurd hk (Nat.not_lt_zero _)
                      | succ k71 ih71 =>
                        intro m s h1 hk hm g1 hs
                        have cs1 := cs_gq cs g1; have cl1 := cl_gq cl g1; have wf1 := g1.2.2.2.1 wf
                        refine exf_go 4 (show Go (d + 5) true 146 80 [.ref 10, .int 0, .ref 88, .int (nI s), .int (nI m)] [.int (rI h1 31 13), .int (nI m)] h1 Q from ?_)
                        rw [show (rI h1 31 13 : Int32) = nI (sM g) from cs_M cs1]
                        refine exf_go 1 (show ((nI (sM g)) ≤ (nI m) → Go (d + 5) true 146 111 [.ref 10, .int 0, .ref 88, .int (nI s), .int (nI m)] [] h1 Q) ∧ (¬ ((nI (sM g)) ≤ (nI m)) → Go (d + 5) true 146 83 [.ref 10, .int 0, .ref 88, .int (nI s), .int (nI m)] [] h1 Q) from ⟨fun c8 => ?_, fun c8 => ?_⟩)
                        · skip
                          have c8 : (sM g) ≤ m := (nI_leI (a := (sM g)) (b := m) (by omega) (by omega)).mp c8
                          refine exf_go 2 (show Q (.int (nI s)) h1 from ?_)
                          simp only [fWho, et, hq] at k; rw [if_neg (by omega), if_pos haw, ← show m = sM g from by omega, ← hs] at k; exact k _ g1
                        · skip
                          have c8 : ¬ (sM g) ≤ m := fun q => c8 ((nI_leI (a := (sM g)) (b := m) (by omega) (by omega)).mpr q)
                          refine exf_go 4 (show wpC (d + 5) true 168 [.ref 10, .int (nI m), .int 0] h1 (fun _ h' => Go (d + 5) true 146 90 [.ref 10, .int 0, .ref 88, .int (nI s), .int (nI m)] [] h' Q) from ?_)
                          refine c_rankMate0 (m := m) wf1 cs1 cl1 (by omega) (fun h2 r2 rk2 => ?_)
                          have p2 := r2.mono scK_C
                          have g2 : Gq scC h h2 := g1.tr p2
                          have cs2 := cs_gq cs g2; have cl2 := cl_gq cl g2; have wf2 := g2.2.2.2.1 wf
                          have hcc := cntN_le (clsE g l (sK g m) 0) (tot g)
                          rw [clsE_0] at rk2
                          have ct2 : CT 0 (some (so, n, vs)) h2 := ct_same ct (g2.I (fun x => scC_tr _ x (by omega) (by omega))) (g2.J (fun x => scC_tr _ x (by omega) (by omega)))
                          show Go (d + 5) true 146 90 [.ref 10, .int 0, .ref 88, .int (nI s), .int (nI m)] [] h2 Q
                          refine exf_go 3 (show wpC (d + 5) true 181 [.ref 10, .ref 88] h2 (fun r h' => Go (d + 5) true 146 95 [.ref 10, .int 0, .ref 88, .int (nI s), .int (nI m)] [r] h' Q) from ?_)
                          refine c_bgw0 cs2 rk2 ct2 (fun b9 => ?_) (fun b9 => ?_)
                          · skip
                            show Go (d + 5) true 146 95 [.ref 10, .int 0, .ref 88, .int (nI s), .int (nI m)] [.int 1] h2 Q
                            refine exf_go 1 (show ((1 : Int32) = 0 → Go (d + 5) true 146 105 [.ref 10, .int 0, .ref 88, .int (nI s), .int (nI m)] [] h2 Q) ∧ (¬ ((1 : Int32) = 0) → Go (d + 5) true 146 98 [.ref 10, .int 0, .ref 88, .int (nI s), .int (nI m)] [] h2 Q) from ⟨fun c10 => ?_, fun c10 => ?_⟩)
                            · skip
                              exact absurd c10 (by decide)
                            · skip
                              refine exf_go 4 (show Go (d + 5) true 146 103 [.ref 10, .int 0, .ref 88, .int (nI s), .int (nI m)] [.int (1 <<< ((nI m) &&& 31)), .int (nI s)] h2 Q from ?_)
                              rw [show (1 <<< ((nI m) &&& 31) : Int32) = nI (2 ^ m) from nI_1shl (k := m) (by omega)]
                              refine exf_go 1 (show Go (d + 5) true 146 104 [.ref 10, .int 0, .ref 88, .int (nI s), .int (nI m)] [.int ((nI s) ||| (nI (2 ^ m)))] h2 Q from ?_)
                              rw [show ((nI s) ||| (nI (2 ^ m)) : Int32) = nI (s ||| (2 ^ m)) from nI_or s (2 ^ m)]
                              refine exf_go 2 (show Go (d + 5) true 146 108 [.ref 10, .int 0, .ref 88, .int (nI (s ||| (2 ^ m))), .int ((nI m) + 1)] [] h2 Q from ?_)
                              rw [show ((nI m) + 1 : Int32) = nI (m + 1) from nI_add m 1]
                              refine exf_go 1 (show Go (d + 5) true 146 71 [.ref 10, .int 0, .ref 88, .int (nI (s ||| (2 ^ m))), .int (nI (m + 1))] [] h2 Q from ?_)
                              exact ih71 (m + 1) (s ||| (2 ^ m)) h2 (by omega) (by omega) g2 (by rw [hs, whoB, if_pos (by assumption)])
                          · skip
                            show Go (d + 5) true 146 95 [.ref 10, .int 0, .ref 88, .int (nI s), .int (nI m)] [.int 0] h2 Q
                            refine exf_go 1 (show ((0 : Int32) = 0 → Go (d + 5) true 146 105 [.ref 10, .int 0, .ref 88, .int (nI s), .int (nI m)] [] h2 Q) ∧ (¬ ((0 : Int32) = 0) → Go (d + 5) true 146 98 [.ref 10, .int 0, .ref 88, .int (nI s), .int (nI m)] [] h2 Q) from ⟨fun c11 => ?_, fun c11 => ?_⟩)
                            · skip
                              refine exf_go 1 (show Go (d + 5) true 146 108 [.ref 10, .int 0, .ref 88, .int (nI s), .int ((nI m) + 1)] [] h2 Q from ?_)
                              rw [show ((nI m) + 1 : Int32) = nI (m + 1) from nI_add m 1]
                              refine exf_go 1 (show Go (d + 5) true 146 71 [.ref 10, .int 0, .ref 88, .int (nI s), .int (nI (m + 1))] [] h2 Q from ?_)
                              exact ih71 (m + 1) s h2 (by omega) (by omega) g2 (by rw [hs, whoB, if_neg (by rw [b9]; decide)])
                            · skip
                              exact absurd (by decide) c11
                    exact L71 (sM g + 1) 0 0 h (by omega) (by omega) Gq.rfl' rfl
                  · skip
                    exact absurd (by decide) c7
                · skip
                  rw [show tot g - 1 + 1 = tot g from by omega] at haw
                  show Go (d + 5) true 146 60 [.ref 10, .int 0, .ref 88, mk_, mk_] [.int 0] h Q
                  refine exf_go 1 (show (¬ (0 : Int32) = 0 → Go (d + 5) true 146 66 [.ref 10, .int 0, .ref 88, mk_, mk_] [] h Q) ∧ (¬ (¬ (0 : Int32) = 0) → Go (d + 5) true 146 63 [.ref 10, .int 0, .ref 88, mk_, mk_] [] h Q) from ⟨fun c12 => ?_, fun c12 => ?_⟩)
                  · skip
                    exact absurd c12 (by decide)
                  · skip
                    refine exf_go 2 (show Q (.int (-3)) h from ?_)
                    simp only [fWho, et, hq] at k; rw [if_neg (by omega), if_neg (by rw [haw]; decide)] at k; exact k _ Gq.rfl'
              · skip
                have c6 : ¬ n ≤ 6 := fun q => c6 ((nI_leI (a := n) (b := 6) (by omega) (by omega)).mpr q)
                refine exf_go 2 (show Q (.int (-4)) h from ?_)
                simp only [fWho, et, hq] at k; rw [if_pos (by omega)] at k; exact k _ Gq.rfl'
          · skip
            exact absurd (by decide) c4
      · skip
        exact absurd (((wf.2.2 87 0 rfl)).symm.trans c2) (by decide)
    · skip
      exact absurd (by decide) c1
  · skip
    subst etq
    show Go (d + 5) true 146 4 [.ref 10, .int 1, mk_, mk_, mk_] [.int 1] h Q
    refine exf_go 1 (show (¬ (1 : Int32) = 0 → Go (d + 5) true 146 10 [.ref 10, .int 1, mk_, mk_, mk_] [] h Q) ∧ (¬ (¬ (1 : Int32) = 0) → Go (d + 5) true 146 7 [.ref 10, .int 1, mk_, mk_, mk_] [] h Q) from ⟨fun c13 => ?_, fun c13 => ?_⟩)
    · skip
      refine exf_go 4 (show vp_in (1 : Int32) 4 ∧ (rN h 87 1 = true → Go (d + 5) true 146 16 [.ref 10, .int 1, mk_, mk_, mk_] [.ref 90] h Q) ∧ (rN h 87 1 = false → Go (d + 5) true 146 16 [.ref 10, .int 1, mk_, mk_, mk_] [.null] h Q) from ⟨vp_in_nI (n := 1) (by decide) (by decide), fun c14 => ?_, fun c14 => ?_⟩)
      · skip
        refine exf_go 3 (show wpC (d + 5) true 102 [.ref 90] h (fun r h' => Go (d + 5) true 146 21 [.ref 10, .int 1, .ref 90, mk_, mk_] [r] h' Q) from ?_)
        rcases hq : tr 1 with _ | ⟨so, n, vs⟩
        · skip
          have ct : CT 1 none h := by have := ca 1 (by decide); rw [hq] at this; exact this
          refine c_miss11 ct ?_
          show Go (d + 5) true 146 21 [.ref 10, .int 1, .ref 90, mk_, mk_] [.int 1] h Q
          refine exf_go 1 (show ((1 : Int32) = 0 → Go (d + 5) true 146 27 [.ref 10, .int 1, .ref 90, mk_, mk_] [] h Q) ∧ (¬ ((1 : Int32) = 0) → Go (d + 5) true 146 24 [.ref 10, .int 1, .ref 90, mk_, mk_] [] h Q) from ⟨fun c15 => ?_, fun c15 => ?_⟩)
          · skip
            exact absurd c15 (by decide)
          · skip
            refine exf_go 2 (show Q (.int (-6)) h from ?_)
            simp only [fWho, et, hq] at k; exact k _ Gq.rfl'
        · skip
          have ct : CT 1 (some (so, n, vs)) h := by have := ca 1 (by decide); rw [hq] at this; exact this
          have hn4 := ct.2.1; have hs3 := ct.1
          refine c_miss01 ct ?_
          show Go (d + 5) true 146 21 [.ref 10, .int 1, .ref 90, mk_, mk_] [.int 0] h Q
          refine exf_go 1 (show ((0 : Int32) = 0 → Go (d + 5) true 146 27 [.ref 10, .int 1, .ref 90, mk_, mk_] [] h Q) ∧ (¬ ((0 : Int32) = 0) → Go (d + 5) true 146 24 [.ref 10, .int 1, .ref 90, mk_, mk_] [] h Q) from ⟨fun c16 => ?_, fun c16 => ?_⟩)
          · skip
            refine exf_go 2 (show Go (d + 5) true 146 31 [.ref 10, .int 1, .ref 90, mk_, mk_] [.int (rI h 90 2)] h Q from ?_)
            rw [show (rI h 90 2 : Int32) = nI n from ct.2.2.2.1]
            refine exf_go 2 (show ((nI n) < 1 → Go (d + 5) true 146 44 [.ref 10, .int 1, .ref 90, mk_, mk_] [] h Q) ∧ (¬ ((nI n) < 1) → Go (d + 5) true 146 35 [.ref 10, .int 1, .ref 90, mk_, mk_] [] h Q) from ⟨fun c17 => ?_, fun c17 => ?_⟩)
            · skip
              have c17 : n < 1 := (nI_ltI (a := n) (b := 1) (by omega) (by omega)).mp c17
              refine exf_go 2 (show Q (.int (-4)) h from ?_)
              simp only [fWho, et, hq] at k; rw [if_pos (by omega)] at k; exact k _ Gq.rfl'
            · skip
              have c17 : ¬ n < 1 := fun q => c17 ((nI_ltI (a := n) (b := 1) (by omega) (by omega)).mpr q)
              refine exf_go 2 (show Go (d + 5) true 146 39 [.ref 10, .int 1, .ref 90, mk_, mk_] [.int (rI h 90 2)] h Q from ?_)
              rw [show (rI h 90 2 : Int32) = nI n from ct.2.2.2.1]
              refine exf_go 2 (show ((nI n) ≤ 6 → Go (d + 5) true 146 47 [.ref 10, .int 1, .ref 90, mk_, mk_] [] h Q) ∧ (¬ ((nI n) ≤ 6) → Go (d + 5) true 146 44 [.ref 10, .int 1, .ref 90, mk_, mk_] [] h Q) from ⟨fun c18 => ?_, fun c18 => ?_⟩)
              · skip
                have c18 : n ≤ 6 := (nI_leI (a := n) (b := 6) (by omega) (by omega)).mp c18
                refine exf_go 4 (show Go (d + 5) true 146 55 [.ref 10, .int 1, .ref 90, mk_, mk_] [.int (rI h 31 5), .ref 90] h Q from ?_)
                rw [show (rI h 31 5 : Int32) = nI (tot g) from cs_N cs]
                refine exf_go 2 (show Go (d + 5) true 146 57 [.ref 10, .int 1, .ref 90, mk_, mk_] [.int ((nI (tot g)) - 1), .ref 90] h Q from ?_)
                rw [show ((nI (tot g)) - 1 : Int32) = nI ((tot g) - 1) from pk_sub (a := (tot g)) (b := 1) (by omega)]
                refine exf_go 1 (show wpC (d + 5) true 106 [.ref 90, .int (nI ((tot g) - 1))] h (fun r h' => Go (d + 5) true 146 60 [.ref 10, .int 1, .ref 90, mk_, mk_] [r] h' Q) from ?_)
                refine c_aw1 ct (N := tot g - 1) (by omega) (fun haw => ?_) (fun haw => ?_)
                · skip
                  rw [show tot g - 1 + 1 = tot g from by omega] at haw
                  show Go (d + 5) true 146 60 [.ref 10, .int 1, .ref 90, mk_, mk_] [.int 1] h Q
                  refine exf_go 1 (show (¬ (1 : Int32) = 0 → Go (d + 5) true 146 66 [.ref 10, .int 1, .ref 90, mk_, mk_] [] h Q) ∧ (¬ (¬ (1 : Int32) = 0) → Go (d + 5) true 146 63 [.ref 10, .int 1, .ref 90, mk_, mk_] [] h Q) from ⟨fun c19 => ?_, fun c19 => ?_⟩)
                  · skip
                    refine exf_go 4 (show Go (d + 5) true 146 71 [.ref 10, .int 1, .ref 90, .int 0, .int 0] [] h Q from ?_)
                    have L71 : ∀ (k71 : Nat) (m s : Nat) (h1 : Hp), (sM g - m) < k71 → (m ≤ sM g) → (Gq scC h h1) → (s = whoB g vs n m) → Go (d + 5) true 146 71 [.ref 10, .int 1, .ref 90, .int (nI s), .int (nI m)] [] h1 Q := by
                      intro k71
                      induction k71 with
                      | zero => intro m s h1 hk; exact absurd hk (Nat.not_lt_zero _)
                      | succ k71 ih71 =>
                        intro m s h1 hk hm g1 hs
                        have cs1 := cs_gq cs g1; have cl1 := cl_gq cl g1; have wf1 := g1.2.2.2.1 wf
                        refine exf_go 4 (show Go (d + 5) true 146 80 [.ref 10, .int 1, .ref 90, .int (nI s), .int (nI m)] [.int (rI h1 31 13), .int (nI m)] h1 Q from ?_)
                        rw [show (rI h1 31 13 : Int32) = nI (sM g) from cs_M cs1]
                        refine exf_go 1 (show ((nI (sM g)) ≤ (nI m) → Go (d + 5) true 146 111 [.ref 10, .int 1, .ref 90, .int (nI s), .int (nI m)] [] h1 Q) ∧ (¬ ((nI (sM g)) ≤ (nI m)) → Go (d + 5) true 146 83 [.ref 10, .int 1, .ref 90, .int (nI s), .int (nI m)] [] h1 Q) from ⟨fun c20 => ?_, fun c20 => ?_⟩)
                        · skip
                          have c20 : (sM g) ≤ m := (nI_leI (a := (sM g)) (b := m) (by omega) (by omega)).mp c20
                          refine exf_go 2 (show Q (.int (nI s)) h1 from ?_)
                          simp only [fWho, et, hq] at k; rw [if_neg (by omega), if_pos haw, ← show m = sM g from by omega, ← hs] at k; exact k _ g1
                        · skip
                          have c20 : ¬ (sM g) ≤ m := fun q => c20 ((nI_leI (a := (sM g)) (b := m) (by omega) (by omega)).mpr q)
                          refine exf_go 4 (show wpC (d + 5) true 168 [.ref 10, .int (nI m), .int 0] h1 (fun _ h' => Go (d + 5) true 146 90 [.ref 10, .int 1, .ref 90, .int (nI s), .int (nI m)] [] h' Q) from ?_)
                          refine c_rankMate0 (m := m) wf1 cs1 cl1 (by omega) (fun h2 r2 rk2 => ?_)
                          have p2 := r2.mono scK_C
                          have g2 : Gq scC h h2 := g1.tr p2
                          have cs2 := cs_gq cs g2; have cl2 := cl_gq cl g2; have wf2 := g2.2.2.2.1 wf
                          have hcc := cntN_le (clsE g l (sK g m) 0) (tot g)
                          rw [clsE_0] at rk2
                          have ct2 : CT 1 (some (so, n, vs)) h2 := ct_same ct (g2.I (fun x => scC_tr _ x (by omega) (by omega))) (g2.J (fun x => scC_tr _ x (by omega) (by omega)))
                          show Go (d + 5) true 146 90 [.ref 10, .int 1, .ref 90, .int (nI s), .int (nI m)] [] h2 Q
                          refine exf_go 3 (show wpC (d + 5) true 181 [.ref 10, .ref 90] h2 (fun r h' => Go (d + 5) true 146 95 [.ref 10, .int 1, .ref 90, .int (nI s), .int (nI m)] [r] h' Q) from ?_)
                          refine c_bgw1 cs2 rk2 ct2 (fun b21 => ?_) (fun b21 => ?_)
                          · skip
                            show Go (d + 5) true 146 95 [.ref 10, .int 1, .ref 90, .int (nI s), .int (nI m)] [.int 1] h2 Q
                            refine exf_go 1 (show ((1 : Int32) = 0 → Go (d + 5) true 146 105 [.ref 10, .int 1, .ref 90, .int (nI s), .int (nI m)] [] h2 Q) ∧ (¬ ((1 : Int32) = 0) → Go (d + 5) true 146 98 [.ref 10, .int 1, .ref 90, .int (nI s), .int (nI m)] [] h2 Q) from ⟨fun c22 => ?_, fun c22 => ?_⟩)
                            · skip
                              exact absurd c22 (by decide)
                            · skip
                              refine exf_go 4 (show Go (d + 5) true 146 103 [.ref 10, .int 1, .ref 90, .int (nI s), .int (nI m)] [.int (1 <<< ((nI m) &&& 31)), .int (nI s)] h2 Q from ?_)
                              rw [show (1 <<< ((nI m) &&& 31) : Int32) = nI (2 ^ m) from nI_1shl (k := m) (by omega)]
                              refine exf_go 1 (show Go (d + 5) true 146 104 [.ref 10, .int 1, .ref 90, .int (nI s), .int (nI m)] [.int ((nI s) ||| (nI (2 ^ m)))] h2 Q from ?_)
                              rw [show ((nI s) ||| (nI (2 ^ m)) : Int32) = nI (s ||| (2 ^ m)) from nI_or s (2 ^ m)]
                              refine exf_go 2 (show Go (d + 5) true 146 108 [.ref 10, .int 1, .ref 90, .int (nI (s ||| (2 ^ m))), .int ((nI m) + 1)] [] h2 Q from ?_)
                              rw [show ((nI m) + 1 : Int32) = nI (m + 1) from nI_add m 1]
                              refine exf_go 1 (show Go (d + 5) true 146 71 [.ref 10, .int 1, .ref 90, .int (nI (s ||| (2 ^ m))), .int (nI (m + 1))] [] h2 Q from ?_)
                              exact ih71 (m + 1) (s ||| (2 ^ m)) h2 (by omega) (by omega) g2 (by rw [hs, whoB, if_pos (by assumption)])
                          · skip
                            show Go (d + 5) true 146 95 [.ref 10, .int 1, .ref 90, .int (nI s), .int (nI m)] [.int 0] h2 Q
                            refine exf_go 1 (show ((0 : Int32) = 0 → Go (d + 5) true 146 105 [.ref 10, .int 1, .ref 90, .int (nI s), .int (nI m)] [] h2 Q) ∧ (¬ ((0 : Int32) = 0) → Go (d + 5) true 146 98 [.ref 10, .int 1, .ref 90, .int (nI s), .int (nI m)] [] h2 Q) from ⟨fun c23 => ?_, fun c23 => ?_⟩)
                            · skip
                              refine exf_go 1 (show Go (d + 5) true 146 108 [.ref 10, .int 1, .ref 90, .int (nI s), .int ((nI m) + 1)] [] h2 Q from ?_)
                              rw [show ((nI m) + 1 : Int32) = nI (m + 1) from nI_add m 1]
                              refine exf_go 1 (show Go (d + 5) true 146 71 [.ref 10, .int 1, .ref 90, .int (nI s), .int (nI (m + 1))] [] h2 Q from ?_)
                              exact ih71 (m + 1) s h2 (by omega) (by omega) g2 (by rw [hs, whoB, if_neg (by rw [b21]; decide)])
                            · skip
                              exact absurd (by decide) c23
                    exact L71 (sM g + 1) 0 0 h (by omega) (by omega) Gq.rfl' rfl
                  · skip
                    exact absurd (by decide) c19
                · skip
                  rw [show tot g - 1 + 1 = tot g from by omega] at haw
                  show Go (d + 5) true 146 60 [.ref 10, .int 1, .ref 90, mk_, mk_] [.int 0] h Q
                  refine exf_go 1 (show (¬ (0 : Int32) = 0 → Go (d + 5) true 146 66 [.ref 10, .int 1, .ref 90, mk_, mk_] [] h Q) ∧ (¬ (¬ (0 : Int32) = 0) → Go (d + 5) true 146 63 [.ref 10, .int 1, .ref 90, mk_, mk_] [] h Q) from ⟨fun c24 => ?_, fun c24 => ?_⟩)
                  · skip
                    exact absurd c24 (by decide)
                  · skip
                    refine exf_go 2 (show Q (.int (-3)) h from ?_)
                    simp only [fWho, et, hq] at k; rw [if_neg (by omega), if_neg (by rw [haw]; decide)] at k; exact k _ Gq.rfl'
              · skip
                have c18 : ¬ n ≤ 6 := fun q => c18 ((nI_leI (a := n) (b := 6) (by omega) (by omega)).mpr q)
                refine exf_go 2 (show Q (.int (-4)) h from ?_)
                simp only [fWho, et, hq] at k; rw [if_pos (by omega)] at k; exact k _ Gq.rfl'
          · skip
            exact absurd (by decide) c16
      · skip
        exact absurd (((wf.2.2 87 1 rfl)).symm.trans c14) (by decide)
    · skip
      exact absurd (by decide) c13
  · skip
    subst etq
    show Go (d + 5) true 146 4 [.ref 10, .int 2, mk_, mk_, mk_] [.int 1] h Q
    refine exf_go 1 (show (¬ (1 : Int32) = 0 → Go (d + 5) true 146 10 [.ref 10, .int 2, mk_, mk_, mk_] [] h Q) ∧ (¬ (¬ (1 : Int32) = 0) → Go (d + 5) true 146 7 [.ref 10, .int 2, mk_, mk_, mk_] [] h Q) from ⟨fun c25 => ?_, fun c25 => ?_⟩)
    · skip
      refine exf_go 4 (show vp_in (2 : Int32) 4 ∧ (rN h 87 2 = true → Go (d + 5) true 146 16 [.ref 10, .int 2, mk_, mk_, mk_] [.ref 92] h Q) ∧ (rN h 87 2 = false → Go (d + 5) true 146 16 [.ref 10, .int 2, mk_, mk_, mk_] [.null] h Q) from ⟨vp_in_nI (n := 2) (by decide) (by decide), fun c26 => ?_, fun c26 => ?_⟩)
      · skip
        refine exf_go 3 (show wpC (d + 5) true 102 [.ref 92] h (fun r h' => Go (d + 5) true 146 21 [.ref 10, .int 2, .ref 92, mk_, mk_] [r] h' Q) from ?_)
        rcases hq : tr 2 with _ | ⟨so, n, vs⟩
        · skip
          have ct : CT 2 none h := by have := ca 2 (by decide); rw [hq] at this; exact this
          refine c_miss12 ct ?_
          show Go (d + 5) true 146 21 [.ref 10, .int 2, .ref 92, mk_, mk_] [.int 1] h Q
          refine exf_go 1 (show ((1 : Int32) = 0 → Go (d + 5) true 146 27 [.ref 10, .int 2, .ref 92, mk_, mk_] [] h Q) ∧ (¬ ((1 : Int32) = 0) → Go (d + 5) true 146 24 [.ref 10, .int 2, .ref 92, mk_, mk_] [] h Q) from ⟨fun c27 => ?_, fun c27 => ?_⟩)
          · skip
            exact absurd c27 (by decide)
          · skip
            refine exf_go 2 (show Q (.int (-6)) h from ?_)
            simp only [fWho, et, hq] at k; exact k _ Gq.rfl'
        · skip
          have ct : CT 2 (some (so, n, vs)) h := by have := ca 2 (by decide); rw [hq] at this; exact this
          have hn4 := ct.2.1; have hs3 := ct.1
          refine c_miss02 ct ?_
          show Go (d + 5) true 146 21 [.ref 10, .int 2, .ref 92, mk_, mk_] [.int 0] h Q
          refine exf_go 1 (show ((0 : Int32) = 0 → Go (d + 5) true 146 27 [.ref 10, .int 2, .ref 92, mk_, mk_] [] h Q) ∧ (¬ ((0 : Int32) = 0) → Go (d + 5) true 146 24 [.ref 10, .int 2, .ref 92, mk_, mk_] [] h Q) from ⟨fun c28 => ?_, fun c28 => ?_⟩)
          · skip
            refine exf_go 2 (show Go (d + 5) true 146 31 [.ref 10, .int 2, .ref 92, mk_, mk_] [.int (rI h 92 2)] h Q from ?_)
            rw [show (rI h 92 2 : Int32) = nI n from ct.2.2.2.1]
            refine exf_go 2 (show ((nI n) < 1 → Go (d + 5) true 146 44 [.ref 10, .int 2, .ref 92, mk_, mk_] [] h Q) ∧ (¬ ((nI n) < 1) → Go (d + 5) true 146 35 [.ref 10, .int 2, .ref 92, mk_, mk_] [] h Q) from ⟨fun c29 => ?_, fun c29 => ?_⟩)
            · skip
              have c29 : n < 1 := (nI_ltI (a := n) (b := 1) (by omega) (by omega)).mp c29
              refine exf_go 2 (show Q (.int (-4)) h from ?_)
              simp only [fWho, et, hq] at k; rw [if_pos (by omega)] at k; exact k _ Gq.rfl'
            · skip
              have c29 : ¬ n < 1 := fun q => c29 ((nI_ltI (a := n) (b := 1) (by omega) (by omega)).mpr q)
              refine exf_go 2 (show Go (d + 5) true 146 39 [.ref 10, .int 2, .ref 92, mk_, mk_] [.int (rI h 92 2)] h Q from ?_)
              rw [show (rI h 92 2 : Int32) = nI n from ct.2.2.2.1]
              refine exf_go 2 (show ((nI n) ≤ 6 → Go (d + 5) true 146 47 [.ref 10, .int 2, .ref 92, mk_, mk_] [] h Q) ∧ (¬ ((nI n) ≤ 6) → Go (d + 5) true 146 44 [.ref 10, .int 2, .ref 92, mk_, mk_] [] h Q) from ⟨fun c30 => ?_, fun c30 => ?_⟩)
              · skip
                have c30 : n ≤ 6 := (nI_leI (a := n) (b := 6) (by omega) (by omega)).mp c30
                refine exf_go 4 (show Go (d + 5) true 146 55 [.ref 10, .int 2, .ref 92, mk_, mk_] [.int (rI h 31 5), .ref 92] h Q from ?_)
                rw [show (rI h 31 5 : Int32) = nI (tot g) from cs_N cs]
                refine exf_go 2 (show Go (d + 5) true 146 57 [.ref 10, .int 2, .ref 92, mk_, mk_] [.int ((nI (tot g)) - 1), .ref 92] h Q from ?_)
                rw [show ((nI (tot g)) - 1 : Int32) = nI ((tot g) - 1) from pk_sub (a := (tot g)) (b := 1) (by omega)]
                refine exf_go 1 (show wpC (d + 5) true 106 [.ref 92, .int (nI ((tot g) - 1))] h (fun r h' => Go (d + 5) true 146 60 [.ref 10, .int 2, .ref 92, mk_, mk_] [r] h' Q) from ?_)
                refine c_aw2 ct (N := tot g - 1) (by omega) (fun haw => ?_) (fun haw => ?_)
                · skip
                  rw [show tot g - 1 + 1 = tot g from by omega] at haw
                  show Go (d + 5) true 146 60 [.ref 10, .int 2, .ref 92, mk_, mk_] [.int 1] h Q
                  refine exf_go 1 (show (¬ (1 : Int32) = 0 → Go (d + 5) true 146 66 [.ref 10, .int 2, .ref 92, mk_, mk_] [] h Q) ∧ (¬ (¬ (1 : Int32) = 0) → Go (d + 5) true 146 63 [.ref 10, .int 2, .ref 92, mk_, mk_] [] h Q) from ⟨fun c31 => ?_, fun c31 => ?_⟩)
                  · skip
                    refine exf_go 4 (show Go (d + 5) true 146 71 [.ref 10, .int 2, .ref 92, .int 0, .int 0] [] h Q from ?_)
                    have L71 : ∀ (k71 : Nat) (m s : Nat) (h1 : Hp), (sM g - m) < k71 → (m ≤ sM g) → (Gq scC h h1) → (s = whoB g vs n m) → Go (d + 5) true 146 71 [.ref 10, .int 2, .ref 92, .int (nI s), .int (nI m)] [] h1 Q := by
                      intro k71
                      induction k71 with
                      | zero => intro m s h1 hk; exact absurd hk (Nat.not_lt_zero _)
                      | succ k71 ih71 =>
                        intro m s h1 hk hm g1 hs
                        have cs1 := cs_gq cs g1; have cl1 := cl_gq cl g1; have wf1 := g1.2.2.2.1 wf
                        refine exf_go 4 (show Go (d + 5) true 146 80 [.ref 10, .int 2, .ref 92, .int (nI s), .int (nI m)] [.int (rI h1 31 13), .int (nI m)] h1 Q from ?_)
                        rw [show (rI h1 31 13 : Int32) = nI (sM g) from cs_M cs1]
                        refine exf_go 1 (show ((nI (sM g)) ≤ (nI m) → Go (d + 5) true 146 111 [.ref 10, .int 2, .ref 92, .int (nI s), .int (nI m)] [] h1 Q) ∧ (¬ ((nI (sM g)) ≤ (nI m)) → Go (d + 5) true 146 83 [.ref 10, .int 2, .ref 92, .int (nI s), .int (nI m)] [] h1 Q) from ⟨fun c32 => ?_, fun c32 => ?_⟩)
                        · skip
                          have c32 : (sM g) ≤ m := (nI_leI (a := (sM g)) (b := m) (by omega) (by omega)).mp c32
                          refine exf_go 2 (show Q (.int (nI s)) h1 from ?_)
                          simp only [fWho, et, hq] at k; rw [if_neg (by omega), if_pos haw, ← show m = sM g from by omega, ← hs] at k; exact k _ g1
                        · skip
                          have c32 : ¬ (sM g) ≤ m := fun q => c32 ((nI_leI (a := (sM g)) (b := m) (by omega) (by omega)).mpr q)
                          refine exf_go 4 (show wpC (d + 5) true 168 [.ref 10, .int (nI m), .int 0] h1 (fun _ h' => Go (d + 5) true 146 90 [.ref 10, .int 2, .ref 92, .int (nI s), .int (nI m)] [] h' Q) from ?_)
                          refine c_rankMate0 (m := m) wf1 cs1 cl1 (by omega) (fun h2 r2 rk2 => ?_)
                          have p2 := r2.mono scK_C
                          have g2 : Gq scC h h2 := g1.tr p2
                          have cs2 := cs_gq cs g2; have cl2 := cl_gq cl g2; have wf2 := g2.2.2.2.1 wf
                          have hcc := cntN_le (clsE g l (sK g m) 0) (tot g)
                          rw [clsE_0] at rk2
                          have ct2 : CT 2 (some (so, n, vs)) h2 := ct_same ct (g2.I (fun x => scC_tr _ x (by omega) (by omega))) (g2.J (fun x => scC_tr _ x (by omega) (by omega)))
                          show Go (d + 5) true 146 90 [.ref 10, .int 2, .ref 92, .int (nI s), .int (nI m)] [] h2 Q
                          refine exf_go 3 (show wpC (d + 5) true 181 [.ref 10, .ref 92] h2 (fun r h' => Go (d + 5) true 146 95 [.ref 10, .int 2, .ref 92, .int (nI s), .int (nI m)] [r] h' Q) from ?_)
                          refine c_bgw2 cs2 rk2 ct2 (fun b33 => ?_) (fun b33 => ?_)
                          · skip
                            show Go (d + 5) true 146 95 [.ref 10, .int 2, .ref 92, .int (nI s), .int (nI m)] [.int 1] h2 Q
                            refine exf_go 1 (show ((1 : Int32) = 0 → Go (d + 5) true 146 105 [.ref 10, .int 2, .ref 92, .int (nI s), .int (nI m)] [] h2 Q) ∧ (¬ ((1 : Int32) = 0) → Go (d + 5) true 146 98 [.ref 10, .int 2, .ref 92, .int (nI s), .int (nI m)] [] h2 Q) from ⟨fun c34 => ?_, fun c34 => ?_⟩)
                            · skip
                              exact absurd c34 (by decide)
                            · skip
                              refine exf_go 4 (show Go (d + 5) true 146 103 [.ref 10, .int 2, .ref 92, .int (nI s), .int (nI m)] [.int (1 <<< ((nI m) &&& 31)), .int (nI s)] h2 Q from ?_)
                              rw [show (1 <<< ((nI m) &&& 31) : Int32) = nI (2 ^ m) from nI_1shl (k := m) (by omega)]
                              refine exf_go 1 (show Go (d + 5) true 146 104 [.ref 10, .int 2, .ref 92, .int (nI s), .int (nI m)] [.int ((nI s) ||| (nI (2 ^ m)))] h2 Q from ?_)
                              rw [show ((nI s) ||| (nI (2 ^ m)) : Int32) = nI (s ||| (2 ^ m)) from nI_or s (2 ^ m)]
                              refine exf_go 2 (show Go (d + 5) true 146 108 [.ref 10, .int 2, .ref 92, .int (nI (s ||| (2 ^ m))), .int ((nI m) + 1)] [] h2 Q from ?_)
                              rw [show ((nI m) + 1 : Int32) = nI (m + 1) from nI_add m 1]
                              refine exf_go 1 (show Go (d + 5) true 146 71 [.ref 10, .int 2, .ref 92, .int (nI (s ||| (2 ^ m))), .int (nI (m + 1))] [] h2 Q from ?_)
                              exact ih71 (m + 1) (s ||| (2 ^ m)) h2 (by omega) (by omega) g2 (by rw [hs, whoB, if_pos (by assumption)])
                          · skip
                            show Go (d + 5) true 146 95 [.ref 10, .int 2, .ref 92, .int (nI s), .int (nI m)] [.int 0] h2 Q
                            refine exf_go 1 (show ((0 : Int32) = 0 → Go (d + 5) true 146 105 [.ref 10, .int 2, .ref 92, .int (nI s), .int (nI m)] [] h2 Q) ∧ (¬ ((0 : Int32) = 0) → Go (d + 5) true 146 98 [.ref 10, .int 2, .ref 92, .int (nI s), .int (nI m)] [] h2 Q) from ⟨fun c35 => ?_, fun c35 => ?_⟩)
                            · skip
                              refine exf_go 1 (show Go (d + 5) true 146 108 [.ref 10, .int 2, .ref 92, .int (nI s), .int ((nI m) + 1)] [] h2 Q from ?_)
                              rw [show ((nI m) + 1 : Int32) = nI (m + 1) from nI_add m 1]
                              refine exf_go 1 (show Go (d + 5) true 146 71 [.ref 10, .int 2, .ref 92, .int (nI s), .int (nI (m + 1))] [] h2 Q from ?_)
                              exact ih71 (m + 1) s h2 (by omega) (by omega) g2 (by rw [hs, whoB, if_neg (by rw [b33]; decide)])
                            · skip
                              exact absurd (by decide) c35
                    exact L71 (sM g + 1) 0 0 h (by omega) (by omega) Gq.rfl' rfl
                  · skip
                    exact absurd (by decide) c31
                · skip
                  rw [show tot g - 1 + 1 = tot g from by omega] at haw
                  show Go (d + 5) true 146 60 [.ref 10, .int 2, .ref 92, mk_, mk_] [.int 0] h Q
                  refine exf_go 1 (show (¬ (0 : Int32) = 0 → Go (d + 5) true 146 66 [.ref 10, .int 2, .ref 92, mk_, mk_] [] h Q) ∧ (¬ (¬ (0 : Int32) = 0) → Go (d + 5) true 146 63 [.ref 10, .int 2, .ref 92, mk_, mk_] [] h Q) from ⟨fun c36 => ?_, fun c36 => ?_⟩)
                  · skip
                    exact absurd c36 (by decide)
                  · skip
                    refine exf_go 2 (show Q (.int (-3)) h from ?_)
                    simp only [fWho, et, hq] at k; rw [if_neg (by omega), if_neg (by rw [haw]; decide)] at k; exact k _ Gq.rfl'
              · skip
                have c30 : ¬ n ≤ 6 := fun q => c30 ((nI_leI (a := n) (b := 6) (by omega) (by omega)).mpr q)
                refine exf_go 2 (show Q (.int (-4)) h from ?_)
                simp only [fWho, et, hq] at k; rw [if_pos (by omega)] at k; exact k _ Gq.rfl'
          · skip
            exact absurd (by decide) c28
      · skip
        exact absurd (((wf.2.2 87 2 rfl)).symm.trans c26) (by decide)
    · skip
      exact absurd (by decide) c25
  · skip
    subst etq
    show Go (d + 5) true 146 4 [.ref 10, .int 3, mk_, mk_, mk_] [.int 1] h Q
    refine exf_go 1 (show (¬ (1 : Int32) = 0 → Go (d + 5) true 146 10 [.ref 10, .int 3, mk_, mk_, mk_] [] h Q) ∧ (¬ (¬ (1 : Int32) = 0) → Go (d + 5) true 146 7 [.ref 10, .int 3, mk_, mk_, mk_] [] h Q) from ⟨fun c37 => ?_, fun c37 => ?_⟩)
    · skip
      refine exf_go 4 (show vp_in (3 : Int32) 4 ∧ (rN h 87 3 = true → Go (d + 5) true 146 16 [.ref 10, .int 3, mk_, mk_, mk_] [.ref 94] h Q) ∧ (rN h 87 3 = false → Go (d + 5) true 146 16 [.ref 10, .int 3, mk_, mk_, mk_] [.null] h Q) from ⟨vp_in_nI (n := 3) (by decide) (by decide), fun c38 => ?_, fun c38 => ?_⟩)
      · skip
        refine exf_go 3 (show wpC (d + 5) true 102 [.ref 94] h (fun r h' => Go (d + 5) true 146 21 [.ref 10, .int 3, .ref 94, mk_, mk_] [r] h' Q) from ?_)
        rcases hq : tr 3 with _ | ⟨so, n, vs⟩
        · skip
          have ct : CT 3 none h := by have := ca 3 (by decide); rw [hq] at this; exact this
          refine c_miss13 ct ?_
          show Go (d + 5) true 146 21 [.ref 10, .int 3, .ref 94, mk_, mk_] [.int 1] h Q
          refine exf_go 1 (show ((1 : Int32) = 0 → Go (d + 5) true 146 27 [.ref 10, .int 3, .ref 94, mk_, mk_] [] h Q) ∧ (¬ ((1 : Int32) = 0) → Go (d + 5) true 146 24 [.ref 10, .int 3, .ref 94, mk_, mk_] [] h Q) from ⟨fun c39 => ?_, fun c39 => ?_⟩)
          · skip
            exact absurd c39 (by decide)
          · skip
            refine exf_go 2 (show Q (.int (-6)) h from ?_)
            simp only [fWho, et, hq] at k; exact k _ Gq.rfl'
        · skip
          have ct : CT 3 (some (so, n, vs)) h := by have := ca 3 (by decide); rw [hq] at this; exact this
          have hn4 := ct.2.1; have hs3 := ct.1
          refine c_miss03 ct ?_
          show Go (d + 5) true 146 21 [.ref 10, .int 3, .ref 94, mk_, mk_] [.int 0] h Q
          refine exf_go 1 (show ((0 : Int32) = 0 → Go (d + 5) true 146 27 [.ref 10, .int 3, .ref 94, mk_, mk_] [] h Q) ∧ (¬ ((0 : Int32) = 0) → Go (d + 5) true 146 24 [.ref 10, .int 3, .ref 94, mk_, mk_] [] h Q) from ⟨fun c40 => ?_, fun c40 => ?_⟩)
          · skip
            refine exf_go 2 (show Go (d + 5) true 146 31 [.ref 10, .int 3, .ref 94, mk_, mk_] [.int (rI h 94 2)] h Q from ?_)
            rw [show (rI h 94 2 : Int32) = nI n from ct.2.2.2.1]
            refine exf_go 2 (show ((nI n) < 1 → Go (d + 5) true 146 44 [.ref 10, .int 3, .ref 94, mk_, mk_] [] h Q) ∧ (¬ ((nI n) < 1) → Go (d + 5) true 146 35 [.ref 10, .int 3, .ref 94, mk_, mk_] [] h Q) from ⟨fun c41 => ?_, fun c41 => ?_⟩)
            · skip
              have c41 : n < 1 := (nI_ltI (a := n) (b := 1) (by omega) (by omega)).mp c41
              refine exf_go 2 (show Q (.int (-4)) h from ?_)
              simp only [fWho, et, hq] at k; rw [if_pos (by omega)] at k; exact k _ Gq.rfl'
            · skip
              have c41 : ¬ n < 1 := fun q => c41 ((nI_ltI (a := n) (b := 1) (by omega) (by omega)).mpr q)
              refine exf_go 2 (show Go (d + 5) true 146 39 [.ref 10, .int 3, .ref 94, mk_, mk_] [.int (rI h 94 2)] h Q from ?_)
              rw [show (rI h 94 2 : Int32) = nI n from ct.2.2.2.1]
              refine exf_go 2 (show ((nI n) ≤ 6 → Go (d + 5) true 146 47 [.ref 10, .int 3, .ref 94, mk_, mk_] [] h Q) ∧ (¬ ((nI n) ≤ 6) → Go (d + 5) true 146 44 [.ref 10, .int 3, .ref 94, mk_, mk_] [] h Q) from ⟨fun c42 => ?_, fun c42 => ?_⟩)
              · skip
                have c42 : n ≤ 6 := (nI_leI (a := n) (b := 6) (by omega) (by omega)).mp c42
                refine exf_go 4 (show Go (d + 5) true 146 55 [.ref 10, .int 3, .ref 94, mk_, mk_] [.int (rI h 31 5), .ref 94] h Q from ?_)
                rw [show (rI h 31 5 : Int32) = nI (tot g) from cs_N cs]
                refine exf_go 2 (show Go (d + 5) true 146 57 [.ref 10, .int 3, .ref 94, mk_, mk_] [.int ((nI (tot g)) - 1), .ref 94] h Q from ?_)
                rw [show ((nI (tot g)) - 1 : Int32) = nI ((tot g) - 1) from pk_sub (a := (tot g)) (b := 1) (by omega)]
                refine exf_go 1 (show wpC (d + 5) true 106 [.ref 94, .int (nI ((tot g) - 1))] h (fun r h' => Go (d + 5) true 146 60 [.ref 10, .int 3, .ref 94, mk_, mk_] [r] h' Q) from ?_)
                refine c_aw3 ct (N := tot g - 1) (by omega) (fun haw => ?_) (fun haw => ?_)
                · skip
                  rw [show tot g - 1 + 1 = tot g from by omega] at haw
                  show Go (d + 5) true 146 60 [.ref 10, .int 3, .ref 94, mk_, mk_] [.int 1] h Q
                  refine exf_go 1 (show (¬ (1 : Int32) = 0 → Go (d + 5) true 146 66 [.ref 10, .int 3, .ref 94, mk_, mk_] [] h Q) ∧ (¬ (¬ (1 : Int32) = 0) → Go (d + 5) true 146 63 [.ref 10, .int 3, .ref 94, mk_, mk_] [] h Q) from ⟨fun c43 => ?_, fun c43 => ?_⟩)
                  · skip
                    refine exf_go 4 (show Go (d + 5) true 146 71 [.ref 10, .int 3, .ref 94, .int 0, .int 0] [] h Q from ?_)
                    have L71 : ∀ (k71 : Nat) (m s : Nat) (h1 : Hp), (sM g - m) < k71 → (m ≤ sM g) → (Gq scC h h1) → (s = whoB g vs n m) → Go (d + 5) true 146 71 [.ref 10, .int 3, .ref 94, .int (nI s), .int (nI m)] [] h1 Q := by
                      intro k71
                      induction k71 with
                      | zero => intro m s h1 hk; exact absurd hk (Nat.not_lt_zero _)
                      | succ k71 ih71 =>
                        intro m s h1 hk hm g1 hs
                        have cs1 := cs_gq cs g1; have cl1 := cl_gq cl g1; have wf1 := g1.2.2.2.1 wf
                        refine exf_go 4 (show Go (d + 5) true 146 80 [.ref 10, .int 3, .ref 94, .int (nI s), .int (nI m)] [.int (rI h1 31 13), .int (nI m)] h1 Q from ?_)
                        rw [show (rI h1 31 13 : Int32) = nI (sM g) from cs_M cs1]
                        refine exf_go 1 (show ((nI (sM g)) ≤ (nI m) → Go (d + 5) true 146 111 [.ref 10, .int 3, .ref 94, .int (nI s), .int (nI m)] [] h1 Q) ∧ (¬ ((nI (sM g)) ≤ (nI m)) → Go (d + 5) true 146 83 [.ref 10, .int 3, .ref 94, .int (nI s), .int (nI m)] [] h1 Q) from ⟨fun c44 => ?_, fun c44 => ?_⟩)
                        · skip
                          have c44 : (sM g) ≤ m := (nI_leI (a := (sM g)) (b := m) (by omega) (by omega)).mp c44
                          refine exf_go 2 (show Q (.int (nI s)) h1 from ?_)
                          simp only [fWho, et, hq] at k; rw [if_neg (by omega), if_pos haw, ← show m = sM g from by omega, ← hs] at k; exact k _ g1
                        · skip
                          have c44 : ¬ (sM g) ≤ m := fun q => c44 ((nI_leI (a := (sM g)) (b := m) (by omega) (by omega)).mpr q)
                          refine exf_go 4 (show wpC (d + 5) true 168 [.ref 10, .int (nI m), .int 0] h1 (fun _ h' => Go (d + 5) true 146 90 [.ref 10, .int 3, .ref 94, .int (nI s), .int (nI m)] [] h' Q) from ?_)
                          refine c_rankMate0 (m := m) wf1 cs1 cl1 (by omega) (fun h2 r2 rk2 => ?_)
                          have p2 := r2.mono scK_C
                          have g2 : Gq scC h h2 := g1.tr p2
                          have cs2 := cs_gq cs g2; have cl2 := cl_gq cl g2; have wf2 := g2.2.2.2.1 wf
                          have hcc := cntN_le (clsE g l (sK g m) 0) (tot g)
                          rw [clsE_0] at rk2
                          have ct2 : CT 3 (some (so, n, vs)) h2 := ct_same ct (g2.I (fun x => scC_tr _ x (by omega) (by omega))) (g2.J (fun x => scC_tr _ x (by omega) (by omega)))
                          show Go (d + 5) true 146 90 [.ref 10, .int 3, .ref 94, .int (nI s), .int (nI m)] [] h2 Q
                          refine exf_go 3 (show wpC (d + 5) true 181 [.ref 10, .ref 94] h2 (fun r h' => Go (d + 5) true 146 95 [.ref 10, .int 3, .ref 94, .int (nI s), .int (nI m)] [r] h' Q) from ?_)
                          refine c_bgw3 cs2 rk2 ct2 (fun b45 => ?_) (fun b45 => ?_)
                          · skip
                            show Go (d + 5) true 146 95 [.ref 10, .int 3, .ref 94, .int (nI s), .int (nI m)] [.int 1] h2 Q
                            refine exf_go 1 (show ((1 : Int32) = 0 → Go (d + 5) true 146 105 [.ref 10, .int 3, .ref 94, .int (nI s), .int (nI m)] [] h2 Q) ∧ (¬ ((1 : Int32) = 0) → Go (d + 5) true 146 98 [.ref 10, .int 3, .ref 94, .int (nI s), .int (nI m)] [] h2 Q) from ⟨fun c46 => ?_, fun c46 => ?_⟩)
                            · skip
                              exact absurd c46 (by decide)
                            · skip
                              refine exf_go 4 (show Go (d + 5) true 146 103 [.ref 10, .int 3, .ref 94, .int (nI s), .int (nI m)] [.int (1 <<< ((nI m) &&& 31)), .int (nI s)] h2 Q from ?_)
                              rw [show (1 <<< ((nI m) &&& 31) : Int32) = nI (2 ^ m) from nI_1shl (k := m) (by omega)]
                              refine exf_go 1 (show Go (d + 5) true 146 104 [.ref 10, .int 3, .ref 94, .int (nI s), .int (nI m)] [.int ((nI s) ||| (nI (2 ^ m)))] h2 Q from ?_)
                              rw [show ((nI s) ||| (nI (2 ^ m)) : Int32) = nI (s ||| (2 ^ m)) from nI_or s (2 ^ m)]
                              refine exf_go 2 (show Go (d + 5) true 146 108 [.ref 10, .int 3, .ref 94, .int (nI (s ||| (2 ^ m))), .int ((nI m) + 1)] [] h2 Q from ?_)
                              rw [show ((nI m) + 1 : Int32) = nI (m + 1) from nI_add m 1]
                              refine exf_go 1 (show Go (d + 5) true 146 71 [.ref 10, .int 3, .ref 94, .int (nI (s ||| (2 ^ m))), .int (nI (m + 1))] [] h2 Q from ?_)
                              exact ih71 (m + 1) (s ||| (2 ^ m)) h2 (by omega) (by omega) g2 (by rw [hs, whoB, if_pos (by assumption)])
                          · skip
                            show Go (d + 5) true 146 95 [.ref 10, .int 3, .ref 94, .int (nI s), .int (nI m)] [.int 0] h2 Q
                            refine exf_go 1 (show ((0 : Int32) = 0 → Go (d + 5) true 146 105 [.ref 10, .int 3, .ref 94, .int (nI s), .int (nI m)] [] h2 Q) ∧ (¬ ((0 : Int32) = 0) → Go (d + 5) true 146 98 [.ref 10, .int 3, .ref 94, .int (nI s), .int (nI m)] [] h2 Q) from ⟨fun c47 => ?_, fun c47 => ?_⟩)
                            · skip
                              refine exf_go 1 (show Go (d + 5) true 146 108 [.ref 10, .int 3, .ref 94, .int (nI s), .int ((nI m) + 1)] [] h2 Q from ?_)
                              rw [show ((nI m) + 1 : Int32) = nI (m + 1) from nI_add m 1]
                              refine exf_go 1 (show Go (d + 5) true 146 71 [.ref 10, .int 3, .ref 94, .int (nI s), .int (nI (m + 1))] [] h2 Q from ?_)
                              exact ih71 (m + 1) s h2 (by omega) (by omega) g2 (by rw [hs, whoB, if_neg (by rw [b45]; decide)])
                            · skip
                              exact absurd (by decide) c47
                    exact L71 (sM g + 1) 0 0 h (by omega) (by omega) Gq.rfl' rfl
                  · skip
                    exact absurd (by decide) c43
                · skip
                  rw [show tot g - 1 + 1 = tot g from by omega] at haw
                  show Go (d + 5) true 146 60 [.ref 10, .int 3, .ref 94, mk_, mk_] [.int 0] h Q
                  refine exf_go 1 (show (¬ (0 : Int32) = 0 → Go (d + 5) true 146 66 [.ref 10, .int 3, .ref 94, mk_, mk_] [] h Q) ∧ (¬ (¬ (0 : Int32) = 0) → Go (d + 5) true 146 63 [.ref 10, .int 3, .ref 94, mk_, mk_] [] h Q) from ⟨fun c48 => ?_, fun c48 => ?_⟩)
                  · skip
                    exact absurd c48 (by decide)
                  · skip
                    refine exf_go 2 (show Q (.int (-3)) h from ?_)
                    simp only [fWho, et, hq] at k; rw [if_neg (by omega), if_neg (by rw [haw]; decide)] at k; exact k _ Gq.rfl'
              · skip
                have c42 : ¬ n ≤ 6 := fun q => c42 ((nI_leI (a := n) (b := 6) (by omega) (by omega)).mpr q)
                refine exf_go 2 (show Q (.int (-4)) h from ?_)
                simp only [fWho, et, hq] at k; rw [if_pos (by omega)] at k; exact k _ Gq.rfl'
          · skip
            exact absurd (by decide) c40
      · skip
        exact absurd (((wf.2.2 87 3 rfl)).symm.trans c38) (by decide)
    · skip
      exact absurd (by decide) c37
  · skip
    show Go (d + 5) true 146 4 [.ref 10, .int x, mk_, mk_, mk_] [.int 0] h Q
    refine exf_go 1 (show (¬ (0 : Int32) = 0 → Go (d + 5) true 146 10 [.ref 10, .int x, mk_, mk_, mk_] [] h Q) ∧ (¬ (¬ (0 : Int32) = 0) → Go (d + 5) true 146 7 [.ref 10, .int x, mk_, mk_, mk_] [] h Q) from ⟨fun c49 => ?_, fun c49 => ?_⟩)
    · skip
      exact absurd c49 (by decide)
    · skip
      refine exf_go 2 (show Q (.int (-2)) h from ?_)
      simp only [fWho, et] at k; exact k _ Gq.rfl'
