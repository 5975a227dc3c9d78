/-! Lowest terms, the sure figure, the telling clue. -/
theorem gcd_step {i a b : Nat} (hb : ¬ b = 0) (ha : a < 2 ^ 63) (hb2 : b < 2 ^ 63) (hp : i = 0 ∨ (b ≤ a ∧ a * b < 2 ^ (127 - i))) : a % b ≤ b ∧ b * (a % b) < 2 ^ (127 - (i + 1)) := by
  have hm : a % b < b := Nat.mod_lt _ (by omega)
  refine ⟨by omega, ?_⟩
  rcases hp with h0 | ⟨h1, h2⟩
  · subst h0
    have : b * (a % b) < 2 ^ 63 * 2 ^ 63 := Nat.mul_lt_mul'' hb2 (by omega)
    exact this
  · have h3 : 2 * (a % b) ≤ a := by
      have e := Nat.div_add_mod a b
      have : 1 ≤ a / b := Nat.div_pos h1 (by omega)
      have : b * 1 ≤ b * (a / b) := Nat.mul_le_mul_left b this
      omega
    have h4 : 2 * (b * (a % b)) ≤ a * b := by
      rw [Nat.mul_left_comm, Nat.mul_comm a b]
      exact Nat.mul_le_mul_left b h3
    by_cases hi : i < 127
    · rw [show 127 - i = (127 - (i + 1)) + 1 from by omega, Nat.pow_succ] at h2
      omega
    · exfalso
      rw [show 127 - i = 0 from by omega] at h2
      have : 1 * 1 ≤ a * b := Nat.mul_le_mul (by omega) (by omega)
      omega
theorem gcd_end {a b : Nat} (hp : b ≤ a ∧ a * b < 2 ^ 0) : b = 0 := by
  rcases Nat.mul_eq_zero.mp (show a * b = 0 by omega) with h | h <;> omega
theorem c_common {d : Nat} {h : Hp} {a0 b0 : Nat} {Q : Po} (ha0 : a0 < 2 ^ 63) (hb0 : b0 < 2 ^ 63) (k : Q (.long (lN (Nat.gcd a0 b0))) h) : wpC (d + 1) true 171 [.long (lN a0), .long (lN b0)] h Q := by
  generalize hG : Nat.gcd a0 b0 = G at k
  refine go_in rfl ?_
  refine exf_go 2 (show Go d true 171 3 [.long (lN a0), mk_, .long (lN b0), mk_, .int 0, mk_, mk_] [] h Q from ?_)
  have L3 : ∀ (k3 : Nat) (z5 : Value) (i a b : Nat), (200 - i) < k3 → (i ≤ 200) → (a < 2 ^ 63) → (b < 2 ^ 63) → (Nat.gcd a b = G) → (i = 0 ∨ (b ≤ a ∧ a * b < 2 ^ (127 - i))) → Go d true 171 3 [.long (lN a), mk_, .long (lN b), mk_, .int (nI i), z5, mk_] [] h Q := by
    intro k3
    induction k3 with
    | zero => intro z5 i a b hk; exact absurd hk (Nat.not_lt_zero _)
    | succ k3 ih3 =>
      intro z5 i a b hk hi ha hb hg hp
      refine exf_go 3 (show (200 ≤ (nI i) → Go d true 171 33 [.long (lN a), mk_, .long (lN b), mk_, .int (nI i), z5, mk_] [] h Q) ∧ (¬ (200 ≤ (nI i)) → Go d true 171 11 [.long (lN a), mk_, .long (lN b), mk_, .int (nI i), z5, mk_] [] h Q) from ⟨fun c1 => ?_, fun c1 => ?_⟩)
      · skip
        have c1 : 200 ≤ i := (nI_leI (a := 200) (b := i) (by omega) (by omega)).mp c1
        refine exf_go 2 (show Q (.long (lN a)) h from ?_)
        have hb0 : b = 0 := by first | assumption | exact gcd_end (a := a) (hp.elim (fun q => by omega) (fun q => by rw [show 127 - i = 0 from by omega] at q; exact q))
        rw [← hg, hb0, Nat.gcd_zero_right] at k; exact k
      · skip
        have c1 : ¬ 200 ≤ i := fun q => c1 ((nI_leI (a := 200) (b := i) (by omega) (by omega)).mpr q)
        refine exf_go 4 (show ((lg_cmp (lN b) 0) = 0 → Go d true 171 33 [.long (lN a), mk_, .long (lN b), mk_, .int (nI i), z5, mk_] [] h Q) ∧ (¬ ((lg_cmp (lN b) 0) = 0) → Go d true 171 17 [.long (lN a), mk_, .long (lN b), mk_, .int (nI i), z5, mk_] [] h Q) from ⟨fun c2 => ?_, fun c2 => ?_⟩)
        · skip
          have c2 : (lN b) = 0 := (lg_cmp_eq _ _).mp c2
          have c2 : b = 0 := (pk_lEQ (a := b) (b := 0) (by omega) (by omega)).mp c2
          refine exf_go 2 (show Q (.long (lN a)) h from ?_)
          have hb0 : b = 0 := by first | assumption | exact gcd_end (a := a) (hp.elim (fun q => by omega) (fun q => by rw [show 127 - i = 0 from by omega] at q; exact q))
          rw [← hg, hb0, Nat.gcd_zero_right] at k; exact k
        · skip
          have c2 : ¬ ((lN b) = 0) := fun q => c2 ((lg_cmp_eq _ _).mpr q)
          have c2 : ¬ (b = 0) := fun q => c2 ((pk_lEQ (a := b) (b := 0) (by omega) (by omega)).mpr q)
          have hst := gcd_step (i := i) c2 ha hb hp
          have hml : a % b < b := Nat.mod_lt _ (by omega)
          refine exf_go 3 (show ¬ (lN b) = 0 ∧ (Go d true 171 20 [.long (lN a), mk_, .long (lN b), mk_, .int (nI i), z5, mk_] [.long ((lN a) - (lN a) / (lN b) * (lN b))] h Q) from ⟨(fun q => c2 ((pk_lEQ (a := b) (b := 0) (by omega) (by omega)).mp q)), ?_⟩)
          rw [show ((lN a) - (lN a) / (lN b) * (lN b) : Int64) = lN (a % b) from pk_lRem (a := a) (b := b) (by omega) (by omega) (by omega)]
          refine exf_go 6 (show Go d true 171 30 [.long (lN b), mk_, .long (lN (a % b)), mk_, .int ((nI i) + 1), .long (lN (a % b)), mk_] [] h Q from ?_)
          rw [show ((nI i) + 1 : Int32) = nI (i + 1) from nI_add i 1]
          refine exf_go 1 (show Go d true 171 3 [.long (lN b), mk_, .long (lN (a % b)), mk_, .int (nI (i + 1)), .long (lN (a % b)), mk_] [] h Q from ?_)
          exact ih3 (.long (lN (a % b))) (i + 1) b (a % b) (by omega) (by omega) hb (by omega) (by rw [← hg, Nat.gcd_comm b, ← Nat.gcd_rec, Nat.gcd_comm]) (Or.inr hst)
  exact L3 (200 + 1) mk_ 0 a0 b0 (by omega) (by omega) ha0 hb0 hG (Or.inl rfl)
def fPart (u v : Nat) (x : Int32) : Int64 := lN ((if x = 0 then u else v) / Nat.gcd u v)
theorem c_lowest {d : Nat} {h : Hp} {u v : Nat} {x : Int32} {Q : Po} (hu : u < 2 ^ 63) (hv : v < 2 ^ 63) (hv0 : 0 < v) (k : Q (.long (fPart u v x)) h) : wpC (d + 2) true 170 [.long (lN u), .long (lN v), .int x] h Q := by
  refine go_in rfl ?_
  refine exf_go 3 (show wpC (d + 1) true 171 [.long (lN u), .long (lN v)] h (fun r h' => Go (d + 1) true 170 5 [.long (lN u), mk_, .long (lN v), mk_, .int x, mk_, mk_] [r] h' Q) from ?_)
  refine c_common (a0 := u) (b0 := v) (by omega) (by omega) ?_
  have hgp : 0 < Nat.gcd u v := Nat.gcd_pos_of_pos_right _ (by omega)
  have hgl : Nat.gcd u v ≤ v := Nat.gcd_le_right _ (by omega)
  show Go (d + 1) true 170 5 [.long (lN u), mk_, .long (lN v), mk_, .int x, mk_, mk_] [.long (lN (Nat.gcd u v))] h Q
  refine exf_go 5 (show (¬ (lg_cmp (lN (Nat.gcd u v)) 0) = 0 → Go (d + 1) true 170 16 [.long (lN u), mk_, .long (lN v), mk_, .int x, .long (lN (Nat.gcd u v)), mk_] [] h Q) ∧ (¬ (¬ (lg_cmp (lN (Nat.gcd u v)) 0) = 0) → Go (d + 1) true 170 14 [.long (lN u), mk_, .long (lN v), mk_, .int x, .long (lN (Nat.gcd u v)), mk_] [] h Q) from ⟨fun c1 => ?_, fun c1 => ?_⟩)
  · skip
    have c1 : ¬ ((lN (Nat.gcd u v)) = 0) := fun q => c1 ((lg_cmp_eq _ _).mpr q)
    have c1 : ¬ ((Nat.gcd u v) = 0) := fun q => c1 ((pk_lEQ (a := (Nat.gcd u v)) (b := 0) (by omega) (by omega)).mpr q)
    refine exf_go 2 (show (¬ x = 0 → Go (d + 1) true 170 25 [.long (lN u), mk_, .long (lN v), mk_, .int x, .long (lN (Nat.gcd u v)), mk_] [] h Q) ∧ (¬ (¬ x = 0) → Go (d + 1) true 170 21 [.long (lN u), mk_, .long (lN v), mk_, .int x, .long (lN (Nat.gcd u v)), mk_] [] h Q) from ⟨fun c2 => ?_, fun c2 => ?_⟩)
    · skip
      refine exf_go 3 (show ¬ (lN (Nat.gcd u v)) = 0 ∧ (Go (d + 1) true 170 29 [.long (lN u), mk_, .long (lN v), mk_, .int x, .long (lN (Nat.gcd u v)), mk_] [.long ((lN v) / (lN (Nat.gcd u v)))] h Q) from ⟨(fun q => c1 ((pk_lEQ (a := Nat.gcd u v) (b := 0) (by omega) (by omega)).mp q)), ?_⟩)
      rw [show ((lN v) / (lN (Nat.gcd u v)) : Int64) = lN (v / (Nat.gcd u v)) from pk_lDiv (a := v) (b := (Nat.gcd u v)) (by omega) (by omega) (by omega)]
      refine exf_go 1 (show Q (.long (lN (v / (Nat.gcd u v)))) h from ?_)
      rw [fPart] at k; first | rw [if_pos (Classical.not_not.mp c2)] at k | rw [if_neg c2] at k
      exact k
    · skip
      refine exf_go 4 (show ¬ (lN (Nat.gcd u v)) = 0 ∧ (Go (d + 1) true 170 29 [.long (lN u), mk_, .long (lN v), mk_, .int x, .long (lN (Nat.gcd u v)), mk_] [.long ((lN u) / (lN (Nat.gcd u v)))] h Q) from ⟨(fun q => c1 ((pk_lEQ (a := Nat.gcd u v) (b := 0) (by omega) (by omega)).mp q)), ?_⟩)
      rw [show ((lN u) / (lN (Nat.gcd u v)) : Int64) = lN (u / (Nat.gcd u v)) from pk_lDiv (a := u) (b := (Nat.gcd u v)) (by omega) (by omega) (by omega)]
      refine exf_go 1 (show Q (.long (lN (u / (Nat.gcd u v)))) h from ?_)
      rw [fPart] at k; first | rw [if_pos (Classical.not_not.mp c2)] at k | rw [if_neg c2] at k
      exact k
  · skip
    have c1 : (lN (Nat.gcd u v)) = 0 := (lg_cmp_eq _ _).mp (Classical.not_not.mp c1)
    have c1 : (Nat.gcd u v) = 0 := (pk_lEQ (a := (Nat.gcd u v)) (b := 0) (by omega) (by omega)).mp c1
    refine exf_go 2 (show Q (.long 0) h from ?_)
    exfalso; omega
theorem c_maxL {d : Nat} {h : Hp} {a b : Nat} {Q : Po} (ha : a < 2 ^ 63) (hb : b < 2 ^ 63) (k : Q (.long (lN (max a b))) h) : wpC (d + 1) true 303 [.long (lN a), .long (lN b)] h Q := by
  refine go_in rfl ?_
  refine exf_go 4 (show ((lg_cmp (lN a) (lN b)) < 0 → Go d true 303 10 [.long (lN a), mk_, .long (lN b), mk_] [] h Q) ∧ (¬ ((lg_cmp (lN a) (lN b)) < 0) → Go d true 303 6 [.long (lN a), mk_, .long (lN b), mk_] [] h Q) from ⟨fun c1 => ?_, fun c1 => ?_⟩)
  · skip
    have c1 : (lN a) < (lN b) := (lg_cmp_lt _ _).mp c1
    have c1 : a < b := (pk_lLT (a := a) (b := b) (by omega) (by omega)).mp c1
    refine exf_go 2 (show Q (.long (lN b)) h from ?_)
    rw [show b = max a b from by omega]; exact k
  · skip
    have c1 : ¬ ((lN a) < (lN b)) := fun q => c1 ((lg_cmp_lt _ _).mpr q)
    have c1 : ¬ (a < b) := fun q => c1 ((pk_lLT (a := a) (b := b) (by omega) (by omega)).mpr q)
    refine exf_go 3 (show Q (.long (lN a)) h from ?_)
    rw [show a = max a b from by omega]; exact k
theorem c_minL {d : Nat} {h : Hp} {a b : Nat} {Q : Po} (ha : a < 2 ^ 63) (hb : b < 2 ^ 63) (k : Q (.long (lN (min a b))) h) : wpC (d + 1) true 305 [.long (lN a), .long (lN b)] h Q := by
  refine go_in rfl ?_
  refine exf_go 4 (show (0 < (lg_cmp (lN a) (lN b)) → Go d true 305 10 [.long (lN a), mk_, .long (lN b), mk_] [] h Q) ∧ (¬ (0 < (lg_cmp (lN a) (lN b))) → Go d true 305 6 [.long (lN a), mk_, .long (lN b), mk_] [] h Q) from ⟨fun c1 => ?_, fun c1 => ?_⟩)
  · skip
    have c1 : (lN b) < (lN a) := (lg_cmp_gt _ _).mp c1
    have c1 : b < a := (pk_lLT (a := b) (b := a) (by omega) (by omega)).mp c1
    refine exf_go 2 (show Q (.long (lN b)) h from ?_)
    rw [show b = min a b from by omega]; exact k
  · skip
    have c1 : ¬ ((lN b) < (lN a)) := fun q => c1 ((lg_cmp_gt _ _).mpr q)
    have c1 : ¬ (b < a) := fun q => c1 ((pk_lLT (a := b) (b := a) (by omega) (by omega)).mpr q)
    refine exf_go 3 (show Q (.long (lN a)) h from ?_)
    rw [show a = min a b from by omega]; exact k
/-- what all that p takes have alike: nothing if they differ -/
def srF (p : Nat → Bool) (f : Nat → Nat) : Nat → Option (Option Nat)
  | 0 => some none
  | n + 1 => match srF p f n with
    | none => none
    | some o => if p n then (match o with
      | none => some (some (f n))
      | some b => if b = f n then some (some b) else none) else some o
theorem sr_stay {p : Nat → Bool} {f : Nat → Nat} {m : Nat} (h : srF p f m = none) : ∀ j, srF p f (m + j) = none
  | 0 => h
  | j + 1 => by rw [← Nat.add_assoc, srF, sr_stay h j]
theorem sr_end {p : Nat → Bool} {f : Nat → Nat} {m n : Nat} (h : srF p f m = none) (hm : m ≤ n) : srF p f n = none := by
  have := sr_stay h (n - m)
  rwa [show m + (n - m) = n from by omega] at this
theorem sr_no {p : Nat → Bool} {f : Nat → Nat} {n : Nat} {o : Option Nat} (hs : some o = srF p f n) (h : p n = false) : some o = srF p f (n + 1) := by rw [srF, ← hs, h]; rfl
theorem sr_first {p : Nat → Bool} {f : Nat → Nat} {n : Nat} (hs : some none = srF p f n) (h : p n = true) : some (some (f n)) = srF p f (n + 1) := by rw [srF, ← hs, h]; rfl
theorem sr_like {p : Nat → Bool} {f : Nat → Nat} {n b : Nat} (hs : some (some b) = srF p f n) (h : p n = true) (e : b = f n) : some (some (f n)) = srF p f (n + 1) := by rw [srF, ← hs, h]; simp only [if_true]; rw [if_pos e, e]
theorem sr_un {p : Nat → Bool} {f : Nat → Nat} {n b : Nat} (hs : some (some b) = srF p f n) (h : p n = true) (e : ¬ b = f n) : srF p f (n + 1) = none := by rw [srF, ← hs, h]; simp only [if_true]; rw [if_neg e]
theorem sr_b {p : Nat → Bool} {f : Nat → Nat} {c : Nat} (hf : ∀ k, f k < c) : ∀ n b, some (some b) = srF p f n → b < c
  | 0, b, h => by simp [srF] at h
  | n + 1, b, h => by
    rw [srF] at h
    split at h
    · simp at h
    · rename_i o e
      split at h
      · split at h
        · simp at h; subst h; exact hf n
        · rename_i b2
          split at h
          · simp at h; subst h; exact sr_b hf n _ e.symm
          · simp at h
      · simp at h
        subst h
        exact sr_b hf n _ e.symm
def fSure (g : ShG) (l : LkG) (w : Nat) : Int32 := match srF (lft g l) (fun n => fgo g n w) (tot g) with
  | none => -1
  | some o => oI o
def fWheel (g : ShG) (l : LkG) (x y : Int32) : Int32 := match ixN x (sW g) with
  | none => -2
  | some w => if y = 0 then nI (sF g w) else if y = 1 then nI (sS g w) else if y = 2 then nI (sR g w) else if y = 3 then nI (fgo g (lA l) w) else if y = 4 then fSure g l w else -2
def fTelling (g : ShG) (l : LkG) : Int32 := if cntL g l = 0 then -1 else oI (nrF (fun _ => true) (fun c => max (sumH g l c (tot g)) (sumL g l - sumH g l c (tot g))) (sC g)).1
theorem ti_eq {x : Int32} {n : Nat} (hn : n < 2 ^ 31) (h : x.toInt = (n : Int)) : x = nI n := Int32.toInt_inj.mp (by rw [h, nI_toInt hn])
theorem c_sure {d : Nat} {h : Hp} {g : ShG} {l : LkG} {w : Nat} {Q : Po} (cs : CS 31 g h) (cl : CL 39 g l h) (hw : w < sW g) (k : Q (.int (fSure g l w)) h) : wpC (d + 3) true 163 [.ref 10, .int (nI w)] h Q := by
  have hN := tot_b cs.1
  have h4 := cs.1.1
  refine go_in rfl ?_
  refine exf_go 4 (show Go (d + 2) true 163 4 [.ref 10, .int (nI w), .int (-1), .int 0, mk_] [] h Q from ?_)
  have L4 : ∀ (k4 : Nat) (z4 : Value) (n : Nat) (o : Option Nat), (tot g - n) < k4 → (n ≤ tot g) → (some o = srF (lft g l) (fun n => fgo g n w) n) → Go (d + 2) true 163 4 [.ref 10, .int (nI w), .int (oI o), .int (nI n), z4] [] h Q := by
    intro k4
    induction k4 with
    | zero => intro z4 n o hk; exact absurd hk (Nat.not_lt_zero _)
    | succ k4 ih4 =>
      intro z4 n o hk hn hs
      rcases o with _ | b
      · skip
        show Go (d + 2) true 163 4 [.ref 10, .int (nI w), .int (-1), .int (nI n), z4] [] h Q
        refine exf_go 4 (show Go (d + 2) true 163 12 [.ref 10, .int (nI w), .int (-1), .int (nI n), z4] [.int (rI h 31 5), .int (nI n)] h Q from ?_)
        rw [show (rI h 31 5 : Int32) = nI (tot g) from cs_N cs]
        refine exf_go 1 (show ((nI (tot g)) ≤ (nI n) → Go (d + 2) true 163 59 [.ref 10, .int (nI w), .int (-1), .int (nI n), z4] [] h Q) ∧ (¬ ((nI (tot g)) ≤ (nI n)) → Go (d + 2) true 163 15 [.ref 10, .int (nI w), .int (-1), .int (nI n), z4] [] h Q) from ⟨fun c1 => ?_, fun c1 => ?_⟩)
        · skip
          have c1 : (tot g) ≤ n := (nI_leI (a := (tot g)) (b := n) (by omega) (by omega)).mp c1
          refine exf_go 2 (show Q (.int (-1)) h from ?_)
          first | (rw [fSure, sr_end (sr_un hs (by assumption) (by assumption)) (show n + 1 ≤ tot g by omega)] at k; exact k) | (have e : n = tot g := (by omega); subst e; rw [fSure, ← hs] at k; exact k)
        · skip
          have c1 : ¬ (tot g) ≤ n := fun q => c1 ((nI_leI (a := (tot g)) (b := n) (by omega) (by omega)).mpr q)
          refine exf_go 4 (show wpC (d + 2) true 31 [.ref 39, .int (nI n)] h (fun r h' => Go (d + 2) true 163 23 [.ref 10, .int (nI w), .int (-1), .int (nI n), z4] [r] h' Q) from ?_)
          refine c_isLeft cs cl (by omega) (fun b2 => ?_) (fun b2 => ?_)
          · skip
            show Go (d + 2) true 163 23 [.ref 10, .int (nI w), .int (-1), .int (nI n), z4] [.int 1] h Q
            refine exf_go 1 (show ((1 : Int32) = 0 → Go (d + 2) true 163 53 [.ref 10, .int (nI w), .int (-1), .int (nI n), z4] [] h Q) ∧ (¬ ((1 : Int32) = 0) → Go (d + 2) true 163 26 [.ref 10, .int (nI w), .int (-1), .int (nI n), z4] [] h Q) from ⟨fun c3 => ?_, fun c3 => ?_⟩)
            · skip
              exact absurd c3 (by decide)
            · skip
              refine exf_go 5 (show wpC (d + 2) true 81 [.ref 31, .int (nI n), .int (nI w)] h (fun r h' => Go (d + 2) true 163 35 [.ref 10, .int (nI w), .int (-1), .int (nI n), z4] [r] h' Q) from ?_)
              refine c_figureOf cs (by omega) (by omega) ?_
              have := fgo_lt cs.1 n w; have := sF_b cs.1 w
              show Go (d + 2) true 163 35 [.ref 10, .int (nI w), .int (-1), .int (nI n), z4] [.int (nI (fgo g n w))] h Q
              refine exf_go 4 (show (((-1) : Int32) = (-1) → Go (d + 2) true 163 50 [.ref 10, .int (nI w), .int (-1), .int (nI n), .int (nI (fgo g n w))] [] h Q) ∧ (¬ (((-1) : Int32) = (-1)) → Go (d + 2) true 163 42 [.ref 10, .int (nI w), .int (-1), .int (nI n), .int (nI (fgo g n w))] [] h Q) from ⟨fun c4 => ?_, fun c4 => ?_⟩)
              · skip
                refine exf_go 3 (show Go (d + 2) true 163 56 [.ref 10, .int (nI w), .int (nI (fgo g n w)), .int ((nI n) + 1), .int (nI (fgo g n w))] [] h Q from ?_)
                rw [show ((nI n) + 1 : Int32) = nI (n + 1) from nI_add n 1]
                refine exf_go 1 (show Go (d + 2) true 163 4 [.ref 10, .int (nI w), .int (nI (fgo g n w)), .int (nI (n + 1)), .int (nI (fgo g n w))] [] h Q from ?_)
                exact ih4 (.int (nI (fgo g n w))) (n + 1) (some (fgo g n w)) (by omega) (by omega) (by first | exact sr_no hs (by assumption) | exact sr_first hs (by assumption) | exact sr_like hs (by assumption) (by omega))
              · skip
                exact absurd (by decide) c4
          · skip
            show Go (d + 2) true 163 23 [.ref 10, .int (nI w), .int (-1), .int (nI n), z4] [.int 0] h Q
            refine exf_go 1 (show ((0 : Int32) = 0 → Go (d + 2) true 163 53 [.ref 10, .int (nI w), .int (-1), .int (nI n), z4] [] h Q) ∧ (¬ ((0 : Int32) = 0) → Go (d + 2) true 163 26 [.ref 10, .int (nI w), .int (-1), .int (nI n), z4] [] h Q) from ⟨fun c5 => ?_, fun c5 => ?_⟩)
            · skip
              refine exf_go 1 (show Go (d + 2) true 163 56 [.ref 10, .int (nI w), .int (-1), .int ((nI n) + 1), z4] [] h Q from ?_)
              rw [show ((nI n) + 1 : Int32) = nI (n + 1) from nI_add n 1]
              refine exf_go 1 (show Go (d + 2) true 163 4 [.ref 10, .int (nI w), .int (-1), .int (nI (n + 1)), z4] [] h Q from ?_)
              exact ih4 z4 (n + 1) none (by omega) (by omega) (by first | exact sr_no hs (by assumption) | exact sr_first hs (by assumption) | exact sr_like hs (by assumption) (by omega))
            · skip
              exact absurd (by decide) c5
      · skip
        have := sr_b (p := lft g l) (f := fun n => fgo g n w) (fun k => fgo_lt cs.1 k w) n b hs; have := sF_b cs.1 w
        show Go (d + 2) true 163 4 [.ref 10, .int (nI w), .int (nI b), .int (nI n), z4] [] h Q
        refine exf_go 4 (show Go (d + 2) true 163 12 [.ref 10, .int (nI w), .int (nI b), .int (nI n), z4] [.int (rI h 31 5), .int (nI n)] h Q from ?_)
        rw [show (rI h 31 5 : Int32) = nI (tot g) from cs_N cs]
        refine exf_go 1 (show ((nI (tot g)) ≤ (nI n) → Go (d + 2) true 163 59 [.ref 10, .int (nI w), .int (nI b), .int (nI n), z4] [] h Q) ∧ (¬ ((nI (tot g)) ≤ (nI n)) → Go (d + 2) true 163 15 [.ref 10, .int (nI w), .int (nI b), .int (nI n), z4] [] h Q) from ⟨fun c6 => ?_, fun c6 => ?_⟩)
        · skip
          have c6 : (tot g) ≤ n := (nI_leI (a := (tot g)) (b := n) (by omega) (by omega)).mp c6
          refine exf_go 2 (show Q (.int (nI b)) h from ?_)
          have e : n = tot g := by omega
          subst e
          rw [fSure, ← hs] at k; exact k
        · skip
          have c6 : ¬ (tot g) ≤ n := fun q => c6 ((nI_leI (a := (tot g)) (b := n) (by omega) (by omega)).mpr q)
          refine exf_go 4 (show wpC (d + 2) true 31 [.ref 39, .int (nI n)] h (fun r h' => Go (d + 2) true 163 23 [.ref 10, .int (nI w), .int (nI b), .int (nI n), z4] [r] h' Q) from ?_)
          refine c_isLeft cs cl (by omega) (fun b7 => ?_) (fun b7 => ?_)
          · skip
            show Go (d + 2) true 163 23 [.ref 10, .int (nI w), .int (nI b), .int (nI n), z4] [.int 1] h Q
            refine exf_go 1 (show ((1 : Int32) = 0 → Go (d + 2) true 163 53 [.ref 10, .int (nI w), .int (nI b), .int (nI n), z4] [] h Q) ∧ (¬ ((1 : Int32) = 0) → Go (d + 2) true 163 26 [.ref 10, .int (nI w), .int (nI b), .int (nI n), z4] [] h Q) from ⟨fun c8 => ?_, fun c8 => ?_⟩)
            · skip
              exact absurd c8 (by decide)
            · skip
              refine exf_go 5 (show wpC (d + 2) true 81 [.ref 31, .int (nI n), .int (nI w)] h (fun r h' => Go (d + 2) true 163 35 [.ref 10, .int (nI w), .int (nI b), .int (nI n), z4] [r] h' Q) from ?_)
              refine c_figureOf cs (by omega) (by omega) ?_
              have := fgo_lt cs.1 n w; have := sF_b cs.1 w
              show Go (d + 2) true 163 35 [.ref 10, .int (nI w), .int (nI b), .int (nI n), z4] [.int (nI (fgo g n w))] h Q
              refine exf_go 4 (show ((nI b) = (-1) → Go (d + 2) true 163 50 [.ref 10, .int (nI w), .int (nI b), .int (nI n), .int (nI (fgo g n w))] [] h Q) ∧ (¬ ((nI b) = (-1)) → Go (d + 2) true 163 42 [.ref 10, .int (nI w), .int (nI b), .int (nI n), .int (nI (fgo g n w))] [] h Q) from ⟨fun c9 => ?_, fun c9 => ?_⟩)
              · skip
                exact absurd c9 (ng_eq (by omega) (by decide))
              · skip
                refine exf_go 3 (show ((nI b) = (nI (fgo g n w)) → Go (d + 2) true 163 50 [.ref 10, .int (nI w), .int (nI b), .int (nI n), .int (nI (fgo g n w))] [] h Q) ∧ (¬ ((nI b) = (nI (fgo g n w))) → Go (d + 2) true 163 48 [.ref 10, .int (nI w), .int (nI b), .int (nI n), .int (nI (fgo g n w))] [] h Q) from ⟨fun c10 => ?_, fun c10 => ?_⟩)
                · skip
                  have c10 : b = (fgo g n w) := (nI_eq (a := b) (b := (fgo g n w)) (by omega) (by omega)).mp c10
                  refine exf_go 3 (show Go (d + 2) true 163 56 [.ref 10, .int (nI w), .int (nI (fgo g n w)), .int ((nI n) + 1), .int (nI (fgo g n w))] [] h Q from ?_)
                  rw [show ((nI n) + 1 : Int32) = nI (n + 1) from nI_add n 1]
                  refine exf_go 1 (show Go (d + 2) true 163 4 [.ref 10, .int (nI w), .int (nI (fgo g n w)), .int (nI (n + 1)), .int (nI (fgo g n w))] [] h Q from ?_)
                  exact ih4 (.int (nI (fgo g n w))) (n + 1) (some (fgo g n w)) (by omega) (by omega) (by first | exact sr_no hs (by assumption) | exact sr_first hs (by assumption) | exact sr_like hs (by assumption) (by omega))
                · skip
                  have c10 : ¬ b = (fgo g n w) := fun q => c10 ((nI_eq (a := b) (b := (fgo g n w)) (by omega) (by omega)).mpr q)
                  refine exf_go 2 (show Q (.int (-1)) h from ?_)
                  first | (rw [fSure, sr_end (sr_un hs (by assumption) (by assumption)) (show n + 1 ≤ tot g by omega)] at k; exact k) | (have e : n = tot g := (by omega); subst e; rw [fSure, ← hs] at k; exact k)
          · skip
            show Go (d + 2) true 163 23 [.ref 10, .int (nI w), .int (nI b), .int (nI n), z4] [.int 0] h Q
            refine exf_go 1 (show ((0 : Int32) = 0 → Go (d + 2) true 163 53 [.ref 10, .int (nI w), .int (nI b), .int (nI n), z4] [] h Q) ∧ (¬ ((0 : Int32) = 0) → Go (d + 2) true 163 26 [.ref 10, .int (nI w), .int (nI b), .int (nI n), z4] [] h Q) from ⟨fun c11 => ?_, fun c11 => ?_⟩)
            · skip
              refine exf_go 1 (show Go (d + 2) true 163 56 [.ref 10, .int (nI w), .int (nI b), .int ((nI n) + 1), z4] [] h Q from ?_)
              rw [show ((nI n) + 1 : Int32) = nI (n + 1) from nI_add n 1]
              refine exf_go 1 (show Go (d + 2) true 163 4 [.ref 10, .int (nI w), .int (nI b), .int (nI (n + 1)), z4] [] h Q from ?_)
              exact ih4 z4 (n + 1) (some b) (by omega) (by omega) (by first | exact sr_no hs (by assumption) | exact sr_first hs (by assumption) | exact sr_like hs (by assumption) (by omega))
            · skip
              exact absurd (by decide) c11
  exact L4 (tot g + 1) mk_ 0 none (by omega) (by omega) rfl
theorem c_wheel {d : Nat} {h : Hp} {g : ShG} {l : LkG} {x y : Int32} {Q : Po} (cs : CS 31 g h) (cl : CL 39 g l h) (k : Q (.int (fWheel g l x y)) h) : wpC (d + 4) true 115 [.ref 10, .int x, .int y] h Q := by
  have hN := tot_b cs.1
  have h4 := cs.1.1
  have hA := cl.1.1
  refine go_in rfl ?_
  refine exf_go 3 (show wpC (d + 3) true 155 [.ref 10, .int x] h (fun r h' => Go (d + 3) true 115 5 [.ref 10, .int x, .int y] [r] h' Q) from ?_)
  refine c_isWheel cs (fun j1 e1 q1 r1 => ?_) (fun e1 => ?_)
  · skip
    subst q1
    show Go (d + 3) true 115 5 [.ref 10, .int (nI j1), .int y] [.int 1] h Q
    refine exf_go 1 (show (¬ (1 : Int32) = 0 → Go (d + 3) true 115 11 [.ref 10, .int (nI j1), .int y] [] h Q) ∧ (¬ (¬ (1 : Int32) = 0) → Go (d + 3) true 115 8 [.ref 10, .int (nI j1), .int y] [] h Q) from ⟨fun c2 => ?_, fun c2 => ?_⟩)
    · skip
      refine exf_go 2 (show (y.toInt < 0 ∨ 4 < y.toInt → Go (d + 3) true 115 100 [.ref 10, .int (nI j1), .int y] [] h Q) ∧ (y.toInt = 0 → Go (d + 3) true 115 48 [.ref 10, .int (nI j1), .int y] [] h Q) ∧ (y.toInt = 1 → Go (d + 3) true 115 58 [.ref 10, .int (nI j1), .int y] [] h Q) ∧ (y.toInt = 2 → Go (d + 3) true 115 68 [.ref 10, .int (nI j1), .int y] [] h Q) ∧ (y.toInt = 3 → Go (d + 3) true 115 78 [.ref 10, .int (nI j1), .int y] [] h Q) ∧ (y.toInt = 4 → Go (d + 3) true 115 94 [.ref 10, .int (nI j1), .int y] [] h Q) ∧ True from ⟨fun c3 => ?_, fun c3 => ?_, fun c3 => ?_, fun c3 => ?_, fun c3 => ?_, fun c3 => ?_, trivial⟩)
      · skip
        refine exf_go 2 (show Q (.int (-2)) h from ?_)
        simp only [fWheel, e1] at k
        rw [if_neg (fun q => by subst q; exact absurd c3 (by decide)), if_neg (fun q => by subst q; exact absurd c3 (by decide)), if_neg (fun q => by subst q; exact absurd c3 (by decide)), if_neg (fun q => by subst q; exact absurd c3 (by decide)), if_neg (fun q => by subst q; exact absurd c3 (by decide))] at k
        exact k
      · skip
        have cy : y = nI 0 := ti_eq (by omega) c3
        subst cy
        refine exf_go 5 (show vp_in (nI j1) 4 ∧ (Go (d + 3) true 115 57 [.ref 10, .int (nI j1), .int (nI 0)] [.int (rI h 32 ((nI j1).toNatClampNeg))] h Q) from ⟨(vp_in_nI (by omega) (by omega)), ?_⟩)
        rw [show (rI h 32 ((nI j1).toNatClampNeg) : Int32) = nI (sF g j1) from cs_sF cs (n := j1) (by omega)]
        refine exf_go 1 (show Q (.int (nI (sF g j1))) h from ?_)
        simp only [fWheel, e1] at k
        exact k
      · skip
        have cy : y = nI 1 := ti_eq (by omega) c3
        subst cy
        refine exf_go 5 (show vp_in (nI j1) 4 ∧ (Go (d + 3) true 115 67 [.ref 10, .int (nI j1), .int (nI 1)] [.int (rI h 33 ((nI j1).toNatClampNeg))] h Q) from ⟨(vp_in_nI (by omega) (by omega)), ?_⟩)
        rw [show (rI h 33 ((nI j1).toNatClampNeg) : Int32) = nI (sS g j1) from cs_sS cs (n := j1) (by omega)]
        refine exf_go 1 (show Q (.int (nI (sS g j1))) h from ?_)
        simp only [fWheel, e1] at k
        exact k
      · skip
        have cy : y = nI 2 := ti_eq (by omega) c3
        subst cy
        refine exf_go 5 (show vp_in (nI j1) 4 ∧ (Go (d + 3) true 115 77 [.ref 10, .int (nI j1), .int (nI 2)] [.int (rI h 34 ((nI j1).toNatClampNeg))] h Q) from ⟨(vp_in_nI (by omega) (by omega)), ?_⟩)
        rw [show (rI h 34 ((nI j1).toNatClampNeg) : Int32) = nI (sR g j1) from cs_sR cs (n := j1) (by omega)]
        refine exf_go 1 (show Q (.int (nI (sR g j1))) h from ?_)
        simp only [fWheel, e1] at k
        exact k
      · skip
        have cy : y = nI 3 := ti_eq (by omega) c3
        subst cy
        refine exf_go 5 (show Go (d + 3) true 115 89 [.ref 10, .int (nI j1), .int (nI 3)] [.int (rI h 39 3), .ref 31] h Q from ?_)
        rw [show (rI h 39 3 : Int32) = nI (lA l) from cl_A cl]
        refine exf_go 2 (show wpC (d + 3) true 81 [.ref 31, .int (nI (lA l)), .int (nI j1)] h (fun r h' => Go (d + 3) true 115 93 [.ref 10, .int (nI j1), .int (nI 3)] [r] h' Q) from ?_)
        refine c_figureOf cs (by omega) (by omega) ?_
        have := fgo_lt cs.1 (lA l) j1; have := sF_b cs.1 j1
        show Go (d + 3) true 115 93 [.ref 10, .int (nI j1), .int (nI 3)] [.int (nI (fgo g (lA l) j1))] h Q
        refine exf_go 1 (show Q (.int (nI (fgo g (lA l) j1))) h from ?_)
        simp only [fWheel, e1] at k
        exact k
      · skip
        have cy : y = nI 4 := ti_eq (by omega) c3
        subst cy
        refine exf_go 3 (show wpC (d + 3) true 163 [.ref 10, .int (nI j1)] h (fun r h' => Go (d + 3) true 115 99 [.ref 10, .int (nI j1), .int (nI 4)] [r] h' Q) from ?_)
        refine c_sure cs cl (by omega) ?_
        show Go (d + 3) true 115 99 [.ref 10, .int (nI j1), .int (nI 4)] [.int (fSure g l j1)] h Q
        refine exf_go 1 (show Q (.int (fSure g l j1)) h from ?_)
        simp only [fWheel, e1] at k
        exact k
    · skip
      exact absurd (by decide) c2
  · skip
    show Go (d + 3) true 115 5 [.ref 10, .int x, .int y] [.int 0] h Q
    refine exf_go 1 (show (¬ (0 : Int32) = 0 → Go (d + 3) true 115 11 [.ref 10, .int x, .int y] [] h Q) ∧ (¬ (¬ (0 : Int32) = 0) → Go (d + 3) true 115 8 [.ref 10, .int x, .int y] [] h Q) from ⟨fun c4 => ?_, fun c4 => ?_⟩)
    · skip
      exact absurd c4 (by decide)
    · skip
      refine exf_go 2 (show Q (.int (-2)) h from ?_)
      simp only [fWheel, e1] at k
      exact k
theorem c_telling {d : Nat} {h : Hp} {g : ShG} {l : LkG} {Q : Po} (cs : CS 31 g h) (cl : CL 39 g l h) (k : Q (.int (fTelling g l)) h) : wpC (d + 5) true 125 [.ref 10] h Q := by
  have hN := tot_b cs.1
  have h8 := cs.1.2.2.2.1
  refine go_in rfl ?_
  refine exf_go 3 (show wpC (d + 4) true 33 [.ref 39] h (fun r h' => Go (d + 4) true 125 7 [.ref 10, mk_, mk_, mk_, mk_, mk_, mk_, mk_, mk_, mk_, mk_] [r] h' Q) from ?_)
  refine c_leftOnes cs cl ?_
  have := cntN_le (lft g l) (tot g)
  show Go (d + 4) true 125 7 [.ref 10, mk_, mk_, mk_, mk_, mk_, mk_, mk_, mk_, mk_, mk_] [.int (nI (cntN (lft g l) (tot g)))] h Q
  refine exf_go 1 (show (¬ (nI (cntN (lft g l) (tot g))) = 0 → Go (d + 4) true 125 12 [.ref 10, mk_, mk_, mk_, mk_, mk_, mk_, mk_, mk_, mk_, mk_] [] h Q) ∧ (¬ (¬ (nI (cntN (lft g l) (tot g))) = 0) → Go (d + 4) true 125 10 [.ref 10, mk_, mk_, mk_, mk_, mk_, mk_, mk_, mk_, mk_, mk_] [] h Q) from ⟨fun c1 => ?_, fun c1 => ?_⟩)
  · skip
    have c1 : ¬ (cntN (lft g l) (tot g)) = 0 := fun q => c1 ((nI_eq (a := (cntN (lft g l) (tot g))) (b := 0) (by omega) (by omega)).mpr q)
    refine exf_go 2 (show wpC (d + 4) true 165 [.ref 10] h (fun r h' => Go (d + 4) true 125 16 [.ref 10, mk_, mk_, mk_, mk_, mk_, mk_, mk_, mk_, mk_, mk_] [r] h' Q) from ?_)
    refine c_leftSum cs cl ?_
    have hsL : sumL g l ≤ 1000000000000 := sumN_b (lwt_b cs.1 l) _ hN.2
    show Go (d + 4) true 125 16 [.ref 10, mk_, mk_, mk_, mk_, mk_, mk_, mk_, mk_, mk_, mk_] [.long (lN (sumL g l))] h Q
    refine exf_go 7 (show Go (d + 4) true 125 25 [.ref 10, .long (lN (sumL g l)), mk_, .int (-1), .long 0, mk_, .int 0, mk_, mk_, mk_, mk_] [] h Q from ?_)
    have L25 : ∀ (k25 : Nat) (z7 z9 : Value) (n : Nat) (o : Option Nat) (m : Nat), (sC g - n) < k25 → (n ≤ sC g) → ((o, m) = nrF (fun _ => true) (fun c => max (sumH g l c (tot g)) (sumL g l - sumH g l c (tot g))) n) → Go (d + 4) true 125 25 [.ref 10, .long (lN (sumL g l)), mk_, .int (oI o), .long (lN m), mk_, .int (nI n), z7, mk_, z9, mk_] [] h Q := by
      intro k25
      induction k25 with
      | zero => intro z7 z9 n o m hk; exact absurd hk (Nat.not_lt_zero _)
      | succ k25 ih25 =>
        intro z7 z9 n o m hk hn hs
        have hm : m ≤ 1000000000000 := by have := nrF_le (p := fun _ => true) (f := (fun c => max (sumH g l c (tot g)) (sumL g l - sumH g l c (tot g)))) (c := 1000000000000) (fun k => by have h1 : sumH g l k (tot g) ≤ sumL g l := sumH_le g l k _; show max _ _ ≤ _; omega) n; rw [← hs] at this; exact this
        have hob : ∀ b, o = some b → b < n := by intro b e; exact nrF_b (p := fun _ => true) (f := (fun c => max (sumH g l c (tot g)) (sumL g l - sumH g l c (tot g)))) n b (by rw [← hs]; exact e)
        rcases o with _ | b
        · skip
          show Go (d + 4) true 125 25 [.ref 10, .long (lN (sumL g l)), mk_, .int (-1), .long (lN m), mk_, .int (nI n), z7, mk_, z9, mk_] [] h Q
          refine exf_go 4 (show Go (d + 4) true 125 34 [.ref 10, .long (lN (sumL g l)), mk_, .int (-1), .long (lN m), mk_, .int (nI n), z7, mk_, z9, mk_] [.int (rI h 31 6), .int (nI n)] h Q from ?_)
          rw [show (rI h 31 6 : Int32) = nI (sC g) from cs_C cs]
          refine exf_go 1 (show ((nI (sC g)) ≤ (nI n) → Go (d + 4) true 125 82 [.ref 10, .long (lN (sumL g l)), mk_, .int (-1), .long (lN m), mk_, .int (nI n), z7, mk_, z9, mk_] [] h Q) ∧ (¬ ((nI (sC g)) ≤ (nI n)) → Go (d + 4) true 125 37 [.ref 10, .long (lN (sumL g l)), mk_, .int (-1), .long (lN m), mk_, .int (nI n), z7, mk_, z9, mk_] [] h Q) from ⟨fun c2 => ?_, fun c2 => ?_⟩)
          · skip
            have c2 : (sC g) ≤ n := (nI_leI (a := (sC g)) (b := n) (by omega) (by omega)).mp c2
            refine exf_go 2 (show Q (.int (-1)) h from ?_)
            have e : n = sC g := by omega
            subst e
            rw [fTelling, cntL, if_neg c1, ← hs] at k; exact k
          · skip
            have c2 : ¬ (sC g) ≤ n := fun q => c2 ((nI_leI (a := (sC g)) (b := n) (by omega) (by omega)).mpr q)
            refine exf_go 3 (show wpC (d + 4) true 166 [.ref 10, .int (nI n)] h (fun r h' => Go (d + 4) true 125 43 [.ref 10, .long (lN (sumL g l)), mk_, .int (-1), .long (lN m), mk_, .int (nI n), z7, mk_, z9, mk_] [r] h' Q) from ?_)
            refine c_leftHeld cs cl (by omega) ?_
            have hsH : sumH g l n (tot g) ≤ sumL g l := sumH_le g l n _
            show Go (d + 4) true 125 43 [.ref 10, .long (lN (sumL g l)), mk_, .int (-1), .long (lN m), mk_, .int (nI n), z7, mk_, z9, mk_] [.long (lN (sumH g l n (tot g)))] h Q
            refine exf_go 5 (show Go (d + 4) true 125 51 [.ref 10, .long (lN (sumL g l)), mk_, .int (-1), .long (lN m), mk_, .int (nI n), .long (lN (sumH g l n (tot g))), mk_, z9, mk_] [.long ((lN (sumL g l)) - (lN (sumH g l n (tot g)))), .long (lN (sumH g l n (tot g)))] h Q from ?_)
            rw [show ((lN (sumL g l)) - (lN (sumH g l n (tot g))) : Int64) = lN ((sumL g l) - (sumH g l n (tot g))) from lN_sub (a := (sumL g l)) (b := (sumH g l n (tot g))) (by omega)]
            refine exf_go 1 (show wpC (d + 4) true 303 [.long (lN (sumH g l n (tot g))), .long (lN ((sumL g l) - (sumH g l n (tot g))))] h (fun r h' => Go (d + 4) true 125 54 [.ref 10, .long (lN (sumL g l)), mk_, .int (-1), .long (lN m), mk_, .int (nI n), .long (lN (sumH g l n (tot g))), mk_, z9, mk_] [r] h' Q) from ?_)
            refine c_maxL (by omega) (by omega) ?_
            show Go (d + 4) true 125 54 [.ref 10, .long (lN (sumL g l)), mk_, .int (-1), .long (lN m), mk_, .int (nI n), .long (lN (sumH g l n (tot g))), mk_, z9, mk_] [.long (lN (max (sumH g l n (tot g)) ((sumL g l) - (sumH g l n (tot g)))))] h Q
            refine exf_go 4 (show (((-1) : Int32) = (-1) → Go (d + 4) true 125 69 [.ref 10, .long (lN (sumL g l)), mk_, .int (-1), .long (lN m), mk_, .int (nI n), .long (lN (sumH g l n (tot g))), mk_, .long (lN (max (sumH g l n (tot g)) ((sumL g l) - (sumH g l n (tot g))))), mk_] [] h Q) ∧ (¬ (((-1) : Int32) = (-1)) → Go (d + 4) true 125 61 [.ref 10, .long (lN (sumL g l)), mk_, .int (-1), .long (lN m), mk_, .int (nI n), .long (lN (sumH g l n (tot g))), mk_, .long (lN (max (sumH g l n (tot g)) ((sumL g l) - (sumH g l n (tot g))))), mk_] [] h Q) from ⟨fun c3 => ?_, fun c3 => ?_⟩)
            · skip
              refine exf_go 5 (show Go (d + 4) true 125 79 [.ref 10, .long (lN (sumL g l)), mk_, .int (nI n), .long (lN (max (sumH g l n (tot g)) ((sumL g l) - (sumH g l n (tot g))))), mk_, .int ((nI n) + 1), .long (lN (sumH g l n (tot g))), mk_, .long (lN (max (sumH g l n (tot g)) ((sumL g l) - (sumH g l n (tot g))))), mk_] [] h Q from ?_)
              rw [show ((nI n) + 1 : Int32) = nI (n + 1) from nI_add n 1]
              refine exf_go 1 (show Go (d + 4) true 125 25 [.ref 10, .long (lN (sumL g l)), mk_, .int (nI n), .long (lN (max (sumH g l n (tot g)) ((sumL g l) - (sumH g l n (tot g))))), mk_, .int (nI (n + 1)), .long (lN (sumH g l n (tot g))), mk_, .long (lN (max (sumH g l n (tot g)) ((sumL g l) - (sumH g l n (tot g))))), mk_] [] h Q from ?_)
              exact ih25 (.long (lN (sumH g l n (tot g)))) (.long (lN (max (sumH g l n (tot g)) ((sumL g l) - (sumH g l n (tot g)))))) (n + 1) (some n) (max (sumH g l n (tot g)) ((sumL g l) - (sumH g l n (tot g)))) (by omega) (by omega) (by first | exact nr_first hs rfl | exact nr_less hs rfl (by omega) | exact nr_more hs rfl (by omega))
            · skip
              exact absurd (by decide) c3
        · skip
          have := hob b rfl
          show Go (d + 4) true 125 25 [.ref 10, .long (lN (sumL g l)), mk_, .int (nI b), .long (lN m), mk_, .int (nI n), z7, mk_, z9, mk_] [] h Q
          refine exf_go 4 (show Go (d + 4) true 125 34 [.ref 10, .long (lN (sumL g l)), mk_, .int (nI b), .long (lN m), mk_, .int (nI n), z7, mk_, z9, mk_] [.int (rI h 31 6), .int (nI n)] h Q from ?_)
          rw [show (rI h 31 6 : Int32) = nI (sC g) from cs_C cs]
          refine exf_go 1 (show ((nI (sC g)) ≤ (nI n) → Go (d + 4) true 125 82 [.ref 10, .long (lN (sumL g l)), mk_, .int (nI b), .long (lN m), mk_, .int (nI n), z7, mk_, z9, mk_] [] h Q) ∧ (¬ ((nI (sC g)) ≤ (nI n)) → Go (d + 4) true 125 37 [.ref 10, .long (lN (sumL g l)), mk_, .int (nI b), .long (lN m), mk_, .int (nI n), z7, mk_, z9, mk_] [] h Q) from ⟨fun c4 => ?_, fun c4 => ?_⟩)
          · skip
            have c4 : (sC g) ≤ n := (nI_leI (a := (sC g)) (b := n) (by omega) (by omega)).mp c4
            refine exf_go 2 (show Q (.int (nI b)) h from ?_)
            have e : n = sC g := by omega
            subst e
            rw [fTelling, cntL, if_neg c1, ← hs] at k; exact k
          · skip
            have c4 : ¬ (sC g) ≤ n := fun q => c4 ((nI_leI (a := (sC g)) (b := n) (by omega) (by omega)).mpr q)
            refine exf_go 3 (show wpC (d + 4) true 166 [.ref 10, .int (nI n)] h (fun r h' => Go (d + 4) true 125 43 [.ref 10, .long (lN (sumL g l)), mk_, .int (nI b), .long (lN m), mk_, .int (nI n), z7, mk_, z9, mk_] [r] h' Q) from ?_)
            refine c_leftHeld cs cl (by omega) ?_
            have hsH : sumH g l n (tot g) ≤ sumL g l := sumH_le g l n _
            show Go (d + 4) true 125 43 [.ref 10, .long (lN (sumL g l)), mk_, .int (nI b), .long (lN m), mk_, .int (nI n), z7, mk_, z9, mk_] [.long (lN (sumH g l n (tot g)))] h Q
            refine exf_go 5 (show Go (d + 4) true 125 51 [.ref 10, .long (lN (sumL g l)), mk_, .int (nI b), .long (lN m), mk_, .int (nI n), .long (lN (sumH g l n (tot g))), mk_, z9, mk_] [.long ((lN (sumL g l)) - (lN (sumH g l n (tot g)))), .long (lN (sumH g l n (tot g)))] h Q from ?_)
            rw [show ((lN (sumL g l)) - (lN (sumH g l n (tot g))) : Int64) = lN ((sumL g l) - (sumH g l n (tot g))) from lN_sub (a := (sumL g l)) (b := (sumH g l n (tot g))) (by omega)]
            refine exf_go 1 (show wpC (d + 4) true 303 [.long (lN (sumH g l n (tot g))), .long (lN ((sumL g l) - (sumH g l n (tot g))))] h (fun r h' => Go (d + 4) true 125 54 [.ref 10, .long (lN (sumL g l)), mk_, .int (nI b), .long (lN m), mk_, .int (nI n), .long (lN (sumH g l n (tot g))), mk_, z9, mk_] [r] h' Q) from ?_)
            refine c_maxL (by omega) (by omega) ?_
            show Go (d + 4) true 125 54 [.ref 10, .long (lN (sumL g l)), mk_, .int (nI b), .long (lN m), mk_, .int (nI n), .long (lN (sumH g l n (tot g))), mk_, z9, mk_] [.long (lN (max (sumH g l n (tot g)) ((sumL g l) - (sumH g l n (tot g)))))] h Q
            refine exf_go 4 (show ((nI b) = (-1) → Go (d + 4) true 125 69 [.ref 10, .long (lN (sumL g l)), mk_, .int (nI b), .long (lN m), mk_, .int (nI n), .long (lN (sumH g l n (tot g))), mk_, .long (lN (max (sumH g l n (tot g)) ((sumL g l) - (sumH g l n (tot g))))), mk_] [] h Q) ∧ (¬ ((nI b) = (-1)) → Go (d + 4) true 125 61 [.ref 10, .long (lN (sumL g l)), mk_, .int (nI b), .long (lN m), mk_, .int (nI n), .long (lN (sumH g l n (tot g))), mk_, .long (lN (max (sumH g l n (tot g)) ((sumL g l) - (sumH g l n (tot g))))), mk_] [] h Q) from ⟨fun c5 => ?_, fun c5 => ?_⟩)
            · skip
              exact absurd c5 (ng_eq (by omega) (by decide))
            · skip
              refine exf_go 4 (show (0 ≤ (lg_cmp (lN (max (sumH g l n (tot g)) ((sumL g l) - (sumH g l n (tot g))))) (lN m)) → Go (d + 4) true 125 76 [.ref 10, .long (lN (sumL g l)), mk_, .int (nI b), .long (lN m), mk_, .int (nI n), .long (lN (sumH g l n (tot g))), mk_, .long (lN (max (sumH g l n (tot g)) ((sumL g l) - (sumH g l n (tot g))))), mk_] [] h Q) ∧ (¬ (0 ≤ (lg_cmp (lN (max (sumH g l n (tot g)) ((sumL g l) - (sumH g l n (tot g))))) (lN m))) → Go (d + 4) true 125 69 [.ref 10, .long (lN (sumL g l)), mk_, .int (nI b), .long (lN m), mk_, .int (nI n), .long (lN (sumH g l n (tot g))), mk_, .long (lN (max (sumH g l n (tot g)) ((sumL g l) - (sumH g l n (tot g))))), mk_] [] h Q) from ⟨fun c6 => ?_, fun c6 => ?_⟩)
              · skip
                have c6 : (lN m) ≤ (lN (max (sumH g l n (tot g)) ((sumL g l) - (sumH g l n (tot g))))) := (lg_cmp_ge _ _).mp c6
                have c6 : m ≤ (max (sumH g l n (tot g)) ((sumL g l) - (sumH g l n (tot g)))) := (pk_lLE (a := m) (b := (max (sumH g l n (tot g)) ((sumL g l) - (sumH g l n (tot g))))) (by omega) (by omega)).mp c6
                refine exf_go 1 (show Go (d + 4) true 125 79 [.ref 10, .long (lN (sumL g l)), mk_, .int (nI b), .long (lN m), mk_, .int ((nI n) + 1), .long (lN (sumH g l n (tot g))), mk_, .long (lN (max (sumH g l n (tot g)) ((sumL g l) - (sumH g l n (tot g))))), mk_] [] h Q from ?_)
                rw [show ((nI n) + 1 : Int32) = nI (n + 1) from nI_add n 1]
                refine exf_go 1 (show Go (d + 4) true 125 25 [.ref 10, .long (lN (sumL g l)), mk_, .int (nI b), .long (lN m), mk_, .int (nI (n + 1)), .long (lN (sumH g l n (tot g))), mk_, .long (lN (max (sumH g l n (tot g)) ((sumL g l) - (sumH g l n (tot g))))), mk_] [] h Q from ?_)
                exact ih25 (.long (lN (sumH g l n (tot g)))) (.long (lN (max (sumH g l n (tot g)) ((sumL g l) - (sumH g l n (tot g)))))) (n + 1) (some b) m (by omega) (by omega) (by first | exact nr_first hs rfl | exact nr_less hs rfl (by omega) | exact nr_more hs rfl (by omega))
              · skip
                have c6 : ¬ ((lN m) ≤ (lN (max (sumH g l n (tot g)) ((sumL g l) - (sumH g l n (tot g)))))) := fun q => c6 ((lg_cmp_ge _ _).mpr q)
                have c6 : ¬ (m ≤ (max (sumH g l n (tot g)) ((sumL g l) - (sumH g l n (tot g))))) := fun q => c6 ((pk_lLE (a := m) (b := (max (sumH g l n (tot g)) ((sumL g l) - (sumH g l n (tot g))))) (by omega) (by omega)).mpr q)
                refine exf_go 5 (show Go (d + 4) true 125 79 [.ref 10, .long (lN (sumL g l)), mk_, .int (nI n), .long (lN (max (sumH g l n (tot g)) ((sumL g l) - (sumH g l n (tot g))))), mk_, .int ((nI n) + 1), .long (lN (sumH g l n (tot g))), mk_, .long (lN (max (sumH g l n (tot g)) ((sumL g l) - (sumH g l n (tot g))))), mk_] [] h Q from ?_)
                rw [show ((nI n) + 1 : Int32) = nI (n + 1) from nI_add n 1]
                refine exf_go 1 (show Go (d + 4) true 125 25 [.ref 10, .long (lN (sumL g l)), mk_, .int (nI n), .long (lN (max (sumH g l n (tot g)) ((sumL g l) - (sumH g l n (tot g))))), mk_, .int (nI (n + 1)), .long (lN (sumH g l n (tot g))), mk_, .long (lN (max (sumH g l n (tot g)) ((sumL g l) - (sumH g l n (tot g))))), mk_] [] h Q from ?_)
                exact ih25 (.long (lN (sumH g l n (tot g)))) (.long (lN (max (sumH g l n (tot g)) ((sumL g l) - (sumH g l n (tot g)))))) (n + 1) (some n) (max (sumH g l n (tot g)) ((sumL g l) - (sumH g l n (tot g)))) (by omega) (by omega) (by first | exact nr_first hs rfl | exact nr_less hs rfl (by omega) | exact nr_more hs rfl (by omega))
    exact L25 (sC g + 1) mk_ mk_ 0 none 0 (by omega) (by omega) rfl
  · skip
    have c1 : (cntN (lft g l) (tot g)) = 0 := (nI_eq (a := (cntN (lft g l) (tot g))) (b := 0) (by omega) (by omega)).mp (Classical.not_not.mp c1)
    refine exf_go 2 (show Q (.int (-1)) h from ?_)
    rw [fTelling, cntL, if_pos c1] at k; exact k
