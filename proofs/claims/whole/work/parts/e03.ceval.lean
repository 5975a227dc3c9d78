/-! The class: a code is applied. -/
theorem kpt_a {v : Int64} (h : ¬ v < 1000000) : kpt v = 1000000 := by
  unfold kpt
  split
  · rfl
  · rename_i z
    have e : v = 1000000 := Int64.le_antisymm (Int64.not_lt.mp z) (Int64.not_lt.mp h)
    rw [e]; decide
theorem kpt_b {v : Int64} (h1 : v < 1000000) (h2 : -1000000 < v) : kpt v = v.toInt32 := by
  unfold kpt
  rw [if_neg (Int64.not_lt.mpr (Int64.le_of_lt h1)), if_neg (Int64.not_lt.mpr (Int64.le_of_lt h2))]
theorem kpt_c {v : Int64} (h1 : v < 1000000) (h2 : ¬ -1000000 < v) : kpt v = -1000000 := by
  unfold kpt
  rw [if_neg (Int64.not_lt.mpr (Int64.le_of_lt h1))]
  split
  · rfl
  · rename_i z
    have e : v = -1000000 := Int64.le_antisymm (Int64.not_lt.mp h2) (Int64.not_lt.mp z)
    rw [e]; decide
def seN (f : Nat → Nat) : Nat → Nat
  | 0 => 0
  | w + 1 => seN f w ||| 2 ^ f w
theorem se_b {f : Nat → Nat} (hf : ∀ w, f w < 10) : ∀ W, seN f W < 2 ^ 10
  | 0 => by rw [seN]; decide
  | w + 1 => by rw [seN]; exact Nat.or_lt_two_pow (se_b hf w) (Nat.pow_lt_pow_right (by decide) (hf w))
theorem se_hs (f : Nat → Nat) (x : Nat) : ∀ W, btn (seN f W) x = hsN f x W
  | 0 => by rw [seN, hsN]; unfold btn; rw [Nat.zero_div]
  | w + 1 => by
    have h := se_hs f x w
    rw [btn_tb] at h
    rw [seN, hsN, btn_tb, Nat.testBit_or, Nat.testBit_two_pow, ← h]
    by_cases e : f w = x
    · simp [e]
    · simp [e]
/-- what the class has looked at -/
def CE (f : Nat → Nat) (W nn : Nat) (h : Hp) : Prop := (W ≤ 4 ∧ ∀ w, f w < 10) ∧ (rI h 17 8 = nI nn ∧ rI h 17 9 = nI (sumN f W) ∧ rI h 17 10 = nI (alk f W) ∧ rI h 17 11 = nI (seN f W)) ∧ ∀ w, w < W → rI h 22 w = nI (f w)
def CK (l : List Int32) (q : Nat) (h : Hp) : Prop := (l.length = q ∧ rI h 17 6 = nI q) ∧ SK 21 l h
def sSt (a i : Nat) : Bool := Nat.beq a 21 || (Nat.beq a 17 && Nat.beq i 6)
theorem ce_fq {f : Nat → Nat} {W nn : Nat} {h h1 : Hp} (ce : CE f W nn h) (r : Fq sSt h h1) : CE f W nn h1 := ⟨ce.1, ⟨(r.1 17 8 rfl).1.trans ce.2.1.1, (r.1 17 9 rfl).1.trans ce.2.1.2.1, (r.1 17 10 rfl).1.trans ce.2.1.2.2.1, (r.1 17 11 rfl).1.trans ce.2.1.2.2.2⟩, fun w hw => (r.1 22 w rfl).1.trans (ce.2.2 w hw)⟩
theorem c_minV {d : Nat} {h : Hp} {a b : Int64} {Q : Po} (k1 : b < a → Q (.long b) h) (k0 : ¬ b < a → Q (.long a) h) : wpC (d + 1) true 305 [.long a, .long b] h Q := by
  refine go_in rfl ?_
  refine exf_go 4 (show (0 < (lg_cmp a b) → Go d true 305 10 [.long a, mk_, .long b, mk_] [] h Q) ∧ (¬ (0 < (lg_cmp a b)) → Go d true 305 6 [.long a, mk_, .long b, mk_] [] h Q) from ⟨fun c1 => ?_, fun c1 => ?_⟩)
  · skip
    have c1 : b < a := (lg_cmp_gt _ _).mp c1
    refine exf_go 2 (show Q (.long b) h from ?_)
    exact k1 c1
  · skip
    have c1 : ¬ (b < a) := fun q => c1 ((lg_cmp_gt _ _).mpr q)
    refine exf_go 3 (show Q (.long a) h from ?_)
    exact k0 c1
theorem c_maxV {d : Nat} {h : Hp} {a b : Int64} {Q : Po} (k1 : a < b → Q (.long b) h) (k0 : ¬ a < b → Q (.long a) h) : wpC (d + 1) true 303 [.long a, .long b] h Q := by
  refine go_in rfl ?_
  refine exf_go 4 (show ((lg_cmp a b) < 0 → Go d true 303 10 [.long a, mk_, .long b, mk_] [] h Q) ∧ (¬ ((lg_cmp a b) < 0) → Go d true 303 6 [.long a, mk_, .long b, mk_] [] h Q) from ⟨fun c1 => ?_, fun c1 => ?_⟩)
  · skip
    have c1 : a < b := (lg_cmp_lt _ _).mp c1
    refine exf_go 2 (show Q (.long b) h from ?_)
    exact k1 c1
  · skip
    have c1 : ¬ (a < b) := fun q => c1 ((lg_cmp_lt _ _).mpr q)
    refine exf_go 3 (show Q (.long a) h from ?_)
    exact k0 c1
theorem c_kept {d : Nat} {h : Hp} {v : Int64} {Q : Po} (k : Q (.int (kpt v)) h) : wpC (d + 2) true 9 [.long v] h Q := by
  refine go_in rfl ?_
  refine exf_go 4 (show wpC (d + 1) true 305 [.long 1000000, .long v] h (fun r h' => Go (d + 1) true 9 10 [.long v, mk_] [r, .long (-1000000)] h' Q) from ?_)
  refine c_minV (fun u1 => ?_) (fun u1 => ?_)
  · skip
    show Go (d + 1) true 9 10 [.long v, mk_] [.long v, .long (-1000000)] h Q
    refine exf_go 1 (show wpC (d + 1) true 303 [.long (-1000000), .long v] h (fun r h' => Go (d + 1) true 9 13 [.long v, mk_] [r] h' Q) from ?_)
    refine c_maxV (fun u2 => ?_) (fun u2 => ?_)
    · skip
      show Go (d + 1) true 9 13 [.long v, mk_] [.long v] h Q
      refine exf_go 2 (show Q (.int v.toInt32) h from ?_)
      rw [kpt_b u1 u2] at k; exact k
    · skip
      show Go (d + 1) true 9 13 [.long v, mk_] [.long (-1000000)] h Q
      refine exf_go 1 (show Go (d + 1) true 9 14 [.long v, mk_] [.int (((-1000000) : Int64).toInt32)] h Q from ?_)
      rw [show (((-1000000) : Int64).toInt32 : Int32) = (-1000000) from by decide]
      refine exf_go 1 (show Q (.int (-1000000)) h from ?_)
      rw [kpt_c u1 u2] at k; exact k
  · skip
    show Go (d + 1) true 9 10 [.long v, mk_] [.long 1000000, .long (-1000000)] h Q
    refine exf_go 1 (show wpC (d + 1) true 303 [.long (-1000000), .long 1000000] h (fun r h' => Go (d + 1) true 9 13 [.long v, mk_] [r] h' Q) from ?_)
    refine c_maxV (fun _ => ?_) (fun u2 => absurd (by decide) u2)
    show Go (d + 1) true 9 13 [.long v, mk_] [.long 1000000] h Q
    refine exf_go 1 (show Go (d + 1) true 9 14 [.long v, mk_] [.int ((1000000 : Int64).toInt32)] h Q from ?_)
    rw [show ((1000000 : Int64).toInt32 : Int32) = 1000000 from by decide]
    refine exf_go 1 (show Q (.int 1000000) h from ?_)
    rw [kpt_a u1] at k; exact k
theorem jv0 (x y : Int32) : joinV 3000 x y = (kpt (x.toInt64 + y.toInt64)) := by unfold joinV; rw [if_pos rfl]
theorem jv1 (x y : Int32) : joinV 3001 x y = (kpt (x.toInt64 - y.toInt64)) := by unfold joinV; rw [if_neg (by decide), if_pos rfl]
theorem jv2 (x y : Int32) : joinV 3002 x y = (kpt (x.toInt64 * y.toInt64)) := by unfold joinV; rw [if_neg (by decide), if_neg (by decide), if_pos rfl]
theorem jv3 (x y : Int32) : joinV 3003 x y = (if x = y then 1 else 0) := by unfold joinV; rw [if_neg (by decide), if_neg (by decide), if_neg (by decide), if_pos rfl]
theorem jv4 (x y : Int32) : joinV 3004 x y = (if x < y then 1 else 0) := by unfold joinV; rw [if_neg (by decide), if_neg (by decide), if_neg (by decide), if_neg (by decide), if_pos rfl]
theorem jv5 (x y : Int32) : joinV 3005 x y = (if y < x then 1 else 0) := by unfold joinV; rw [if_neg (by decide), if_neg (by decide), if_neg (by decide), if_neg (by decide), if_neg (by decide), if_pos rfl]
theorem jv6 (x y : Int32) : joinV 3006 x y = (x &&& y) := by unfold joinV; rw [if_neg (by decide), if_neg (by decide), if_neg (by decide), if_neg (by decide), if_neg (by decide), if_neg (by decide), if_pos rfl]
theorem jv7 (x y : Int32) : joinV 3007 x y = (x ||| y) := by unfold joinV; rw [if_neg (by decide), if_neg (by decide), if_neg (by decide), if_neg (by decide), if_neg (by decide), if_neg (by decide), if_neg (by decide)]
theorem c_join7 {d : Nat} {h : Hp} {x y : Int32} {Q : Po} (k : Q (.int (joinV 3000 x y)) h) : wpC (d + 3) true 8 [.int 7, .int x, .int y] h Q := by
  refine go_in rfl ?_
  refine exf_go 2 (show ((7 : Int32).toInt < 7 ∨ 13 < (7 : Int32).toInt → Go (d + 2) true 8 108 [.int 7, .int x, .int y] [] h Q) ∧ ((7 : Int32).toInt = 7 → Go (d + 2) true 8 44 [.int 7, .int x, .int y] [] h Q) ∧ ((7 : Int32).toInt = 8 → Go (d + 2) true 8 53 [.int 7, .int x, .int y] [] h Q) ∧ ((7 : Int32).toInt = 9 → Go (d + 2) true 8 62 [.int 7, .int x, .int y] [] h Q) ∧ ((7 : Int32).toInt = 10 → Go (d + 2) true 8 71 [.int 7, .int x, .int y] [] h Q) ∧ ((7 : Int32).toInt = 11 → Go (d + 2) true 8 82 [.int 7, .int x, .int y] [] h Q) ∧ ((7 : Int32).toInt = 12 → Go (d + 2) true 8 93 [.int 7, .int x, .int y] [] h Q) ∧ ((7 : Int32).toInt = 13 → Go (d + 2) true 8 104 [.int 7, .int x, .int y] [] h Q) ∧ True from ⟨fun c1 => ?_, fun c1 => ?_, fun c1 => ?_, fun c1 => ?_, fun c1 => ?_, fun c1 => ?_, fun c1 => ?_, fun c1 => ?_, trivial⟩)
  · skip
    exact absurd c1 (by decide)
  · skip
    refine exf_go 6 (show wpC (d + 2) true 9 [.long (x.toInt64 + y.toInt64)] h (fun r h' => Go (d + 2) true 8 52 [.int 7, .int x, .int y] [r] h' Q) from ?_)
    refine c_kept ?_
    show Go (d + 2) true 8 52 [.int 7, .int x, .int y] [.int (kpt (x.toInt64 + y.toInt64))] h Q
    refine exf_go 1 (show Q (.int (kpt (x.toInt64 + y.toInt64))) h from ?_)
    rw [jv0] at k
    exact k
  · skip
    exact absurd c1 (by decide)
  · skip
    exact absurd c1 (by decide)
  · skip
    exact absurd c1 (by decide)
  · skip
    exact absurd c1 (by decide)
  · skip
    exact absurd c1 (by decide)
  · skip
    exact absurd c1 (by decide)
theorem c_join8 {d : Nat} {h : Hp} {x y : Int32} {Q : Po} (k : Q (.int (joinV 3001 x y)) h) : wpC (d + 3) true 8 [.int 8, .int x, .int y] h Q := by
  refine go_in rfl ?_
  refine exf_go 2 (show ((8 : Int32).toInt < 7 ∨ 13 < (8 : Int32).toInt → Go (d + 2) true 8 108 [.int 8, .int x, .int y] [] h Q) ∧ ((8 : Int32).toInt = 7 → Go (d + 2) true 8 44 [.int 8, .int x, .int y] [] h Q) ∧ ((8 : Int32).toInt = 8 → Go (d + 2) true 8 53 [.int 8, .int x, .int y] [] h Q) ∧ ((8 : Int32).toInt = 9 → Go (d + 2) true 8 62 [.int 8, .int x, .int y] [] h Q) ∧ ((8 : Int32).toInt = 10 → Go (d + 2) true 8 71 [.int 8, .int x, .int y] [] h Q) ∧ ((8 : Int32).toInt = 11 → Go (d + 2) true 8 82 [.int 8, .int x, .int y] [] h Q) ∧ ((8 : Int32).toInt = 12 → Go (d + 2) true 8 93 [.int 8, .int x, .int y] [] h Q) ∧ ((8 : Int32).toInt = 13 → Go (d + 2) true 8 104 [.int 8, .int x, .int y] [] h Q) ∧ True from ⟨fun c1 => ?_, fun c1 => ?_, fun c1 => ?_, fun c1 => ?_, fun c1 => ?_, fun c1 => ?_, fun c1 => ?_, fun c1 => ?_, trivial⟩)
  · skip
    exact absurd c1 (by decide)
  · skip
    exact absurd c1 (by decide)
  · skip
    refine exf_go 6 (show wpC (d + 2) true 9 [.long (x.toInt64 - y.toInt64)] h (fun r h' => Go (d + 2) true 8 61 [.int 8, .int x, .int y] [r] h' Q) from ?_)
    refine c_kept ?_
    show Go (d + 2) true 8 61 [.int 8, .int x, .int y] [.int (kpt (x.toInt64 - y.toInt64))] h Q
    refine exf_go 1 (show Q (.int (kpt (x.toInt64 - y.toInt64))) h from ?_)
    rw [jv1] at k
    exact k
  · skip
    exact absurd c1 (by decide)
  · skip
    exact absurd c1 (by decide)
  · skip
    exact absurd c1 (by decide)
  · skip
    exact absurd c1 (by decide)
  · skip
    exact absurd c1 (by decide)
theorem c_join9 {d : Nat} {h : Hp} {x y : Int32} {Q : Po} (k : Q (.int (joinV 3002 x y)) h) : wpC (d + 3) true 8 [.int 9, .int x, .int y] h Q := by
  refine go_in rfl ?_
  refine exf_go 2 (show ((9 : Int32).toInt < 7 ∨ 13 < (9 : Int32).toInt → Go (d + 2) true 8 108 [.int 9, .int x, .int y] [] h Q) ∧ ((9 : Int32).toInt = 7 → Go (d + 2) true 8 44 [.int 9, .int x, .int y] [] h Q) ∧ ((9 : Int32).toInt = 8 → Go (d + 2) true 8 53 [.int 9, .int x, .int y] [] h Q) ∧ ((9 : Int32).toInt = 9 → Go (d + 2) true 8 62 [.int 9, .int x, .int y] [] h Q) ∧ ((9 : Int32).toInt = 10 → Go (d + 2) true 8 71 [.int 9, .int x, .int y] [] h Q) ∧ ((9 : Int32).toInt = 11 → Go (d + 2) true 8 82 [.int 9, .int x, .int y] [] h Q) ∧ ((9 : Int32).toInt = 12 → Go (d + 2) true 8 93 [.int 9, .int x, .int y] [] h Q) ∧ ((9 : Int32).toInt = 13 → Go (d + 2) true 8 104 [.int 9, .int x, .int y] [] h Q) ∧ True from ⟨fun c1 => ?_, fun c1 => ?_, fun c1 => ?_, fun c1 => ?_, fun c1 => ?_, fun c1 => ?_, fun c1 => ?_, fun c1 => ?_, trivial⟩)
  · skip
    exact absurd c1 (by decide)
  · skip
    exact absurd c1 (by decide)
  · skip
    exact absurd c1 (by decide)
  · skip
    refine exf_go 6 (show wpC (d + 2) true 9 [.long (x.toInt64 * y.toInt64)] h (fun r h' => Go (d + 2) true 8 70 [.int 9, .int x, .int y] [r] h' Q) from ?_)
    refine c_kept ?_
    show Go (d + 2) true 8 70 [.int 9, .int x, .int y] [.int (kpt (x.toInt64 * y.toInt64))] h Q
    refine exf_go 1 (show Q (.int (kpt (x.toInt64 * y.toInt64))) h from ?_)
    rw [jv2] at k
    exact k
  · skip
    exact absurd c1 (by decide)
  · skip
    exact absurd c1 (by decide)
  · skip
    exact absurd c1 (by decide)
  · skip
    exact absurd c1 (by decide)
theorem c_join10 {d : Nat} {h : Hp} {x y : Int32} {Q : Po} (k : Q (.int (joinV 3003 x y)) h) : wpC (d + 3) true 8 [.int 10, .int x, .int y] h Q := by
  refine go_in rfl ?_
  refine exf_go 2 (show ((10 : Int32).toInt < 7 ∨ 13 < (10 : Int32).toInt → Go (d + 2) true 8 108 [.int 10, .int x, .int y] [] h Q) ∧ ((10 : Int32).toInt = 7 → Go (d + 2) true 8 44 [.int 10, .int x, .int y] [] h Q) ∧ ((10 : Int32).toInt = 8 → Go (d + 2) true 8 53 [.int 10, .int x, .int y] [] h Q) ∧ ((10 : Int32).toInt = 9 → Go (d + 2) true 8 62 [.int 10, .int x, .int y] [] h Q) ∧ ((10 : Int32).toInt = 10 → Go (d + 2) true 8 71 [.int 10, .int x, .int y] [] h Q) ∧ ((10 : Int32).toInt = 11 → Go (d + 2) true 8 82 [.int 10, .int x, .int y] [] h Q) ∧ ((10 : Int32).toInt = 12 → Go (d + 2) true 8 93 [.int 10, .int x, .int y] [] h Q) ∧ ((10 : Int32).toInt = 13 → Go (d + 2) true 8 104 [.int 10, .int x, .int y] [] h Q) ∧ True from ⟨fun c1 => ?_, fun c1 => ?_, fun c1 => ?_, fun c1 => ?_, fun c1 => ?_, fun c1 => ?_, fun c1 => ?_, fun c1 => ?_, trivial⟩)
  · skip
    exact absurd c1 (by decide)
  · skip
    exact absurd c1 (by decide)
  · skip
    exact absurd c1 (by decide)
  · skip
    exact absurd c1 (by decide)
  · skip
    refine exf_go 3 (show (¬ x = y → Go (d + 2) true 8 80 [.int 10, .int x, .int y] [] h Q) ∧ (¬ (¬ x = y) → Go (d + 2) true 8 76 [.int 10, .int x, .int y] [] h Q) from ⟨fun c2 => ?_, fun c2 => ?_⟩)
    · skip
      refine exf_go 2 (show Q (.int 0) h from ?_)
      rw [jv3] at k
      rw [if_neg (by first | assumption | (refine Classical.not_not.mp ?_; assumption) | (refine Int32.not_le.mp ?_; assumption) | (refine Int32.not_lt.mpr ?_; assumption))] at k
      exact k
    · skip
      refine exf_go 3 (show Q (.int 1) h from ?_)
      rw [jv3] at k
      rw [if_pos (by first | assumption | (refine Classical.not_not.mp ?_; assumption) | (refine Int32.not_le.mp ?_; assumption) | (refine Int32.not_lt.mpr ?_; assumption))] at k
      exact k
  · skip
    exact absurd c1 (by decide)
  · skip
    exact absurd c1 (by decide)
  · skip
    exact absurd c1 (by decide)
theorem c_join11 {d : Nat} {h : Hp} {x y : Int32} {Q : Po} (k : Q (.int (joinV 3004 x y)) h) : wpC (d + 3) true 8 [.int 11, .int x, .int y] h Q := by
  refine go_in rfl ?_
  refine exf_go 2 (show ((11 : Int32).toInt < 7 ∨ 13 < (11 : Int32).toInt → Go (d + 2) true 8 108 [.int 11, .int x, .int y] [] h Q) ∧ ((11 : Int32).toInt = 7 → Go (d + 2) true 8 44 [.int 11, .int x, .int y] [] h Q) ∧ ((11 : Int32).toInt = 8 → Go (d + 2) true 8 53 [.int 11, .int x, .int y] [] h Q) ∧ ((11 : Int32).toInt = 9 → Go (d + 2) true 8 62 [.int 11, .int x, .int y] [] h Q) ∧ ((11 : Int32).toInt = 10 → Go (d + 2) true 8 71 [.int 11, .int x, .int y] [] h Q) ∧ ((11 : Int32).toInt = 11 → Go (d + 2) true 8 82 [.int 11, .int x, .int y] [] h Q) ∧ ((11 : Int32).toInt = 12 → Go (d + 2) true 8 93 [.int 11, .int x, .int y] [] h Q) ∧ ((11 : Int32).toInt = 13 → Go (d + 2) true 8 104 [.int 11, .int x, .int y] [] h Q) ∧ True from ⟨fun c1 => ?_, fun c1 => ?_, fun c1 => ?_, fun c1 => ?_, fun c1 => ?_, fun c1 => ?_, fun c1 => ?_, fun c1 => ?_, trivial⟩)
  · skip
    exact absurd c1 (by decide)
  · skip
    exact absurd c1 (by decide)
  · skip
    exact absurd c1 (by decide)
  · skip
    exact absurd c1 (by decide)
  · skip
    exact absurd c1 (by decide)
  · skip
    refine exf_go 3 (show (y ≤ x → Go (d + 2) true 8 91 [.int 11, .int x, .int y] [] h Q) ∧ (¬ (y ≤ x) → Go (d + 2) true 8 87 [.int 11, .int x, .int y] [] h Q) from ⟨fun c2 => ?_, fun c2 => ?_⟩)
    · skip
      refine exf_go 2 (show Q (.int 0) h from ?_)
      rw [jv4] at k
      rw [if_neg (by first | assumption | (refine Classical.not_not.mp ?_; assumption) | (refine Int32.not_le.mp ?_; assumption) | (refine Int32.not_lt.mpr ?_; assumption))] at k
      exact k
    · skip
      refine exf_go 3 (show Q (.int 1) h from ?_)
      rw [jv4] at k
      rw [if_pos (by first | assumption | (refine Classical.not_not.mp ?_; assumption) | (refine Int32.not_le.mp ?_; assumption) | (refine Int32.not_lt.mpr ?_; assumption))] at k
      exact k
  · skip
    exact absurd c1 (by decide)
  · skip
    exact absurd c1 (by decide)
theorem c_join12 {d : Nat} {h : Hp} {x y : Int32} {Q : Po} (k : Q (.int (joinV 3005 x y)) h) : wpC (d + 3) true 8 [.int 12, .int x, .int y] h Q := by
  refine go_in rfl ?_
  refine exf_go 2 (show ((12 : Int32).toInt < 7 ∨ 13 < (12 : Int32).toInt → Go (d + 2) true 8 108 [.int 12, .int x, .int y] [] h Q) ∧ ((12 : Int32).toInt = 7 → Go (d + 2) true 8 44 [.int 12, .int x, .int y] [] h Q) ∧ ((12 : Int32).toInt = 8 → Go (d + 2) true 8 53 [.int 12, .int x, .int y] [] h Q) ∧ ((12 : Int32).toInt = 9 → Go (d + 2) true 8 62 [.int 12, .int x, .int y] [] h Q) ∧ ((12 : Int32).toInt = 10 → Go (d + 2) true 8 71 [.int 12, .int x, .int y] [] h Q) ∧ ((12 : Int32).toInt = 11 → Go (d + 2) true 8 82 [.int 12, .int x, .int y] [] h Q) ∧ ((12 : Int32).toInt = 12 → Go (d + 2) true 8 93 [.int 12, .int x, .int y] [] h Q) ∧ ((12 : Int32).toInt = 13 → Go (d + 2) true 8 104 [.int 12, .int x, .int y] [] h Q) ∧ True from ⟨fun c1 => ?_, fun c1 => ?_, fun c1 => ?_, fun c1 => ?_, fun c1 => ?_, fun c1 => ?_, fun c1 => ?_, fun c1 => ?_, trivial⟩)
  · skip
    exact absurd c1 (by decide)
  · skip
    exact absurd c1 (by decide)
  · skip
    exact absurd c1 (by decide)
  · skip
    exact absurd c1 (by decide)
  · skip
    exact absurd c1 (by decide)
  · skip
    exact absurd c1 (by decide)
  · skip
    refine exf_go 3 (show (x ≤ y → Go (d + 2) true 8 102 [.int 12, .int x, .int y] [] h Q) ∧ (¬ (x ≤ y) → Go (d + 2) true 8 98 [.int 12, .int x, .int y] [] h Q) from ⟨fun c2 => ?_, fun c2 => ?_⟩)
    · skip
      refine exf_go 2 (show Q (.int 0) h from ?_)
      rw [jv5] at k
      rw [if_neg (by first | assumption | (refine Classical.not_not.mp ?_; assumption) | (refine Int32.not_le.mp ?_; assumption) | (refine Int32.not_lt.mpr ?_; assumption))] at k
      exact k
    · skip
      refine exf_go 3 (show Q (.int 1) h from ?_)
      rw [jv5] at k
      rw [if_pos (by first | assumption | (refine Classical.not_not.mp ?_; assumption) | (refine Int32.not_le.mp ?_; assumption) | (refine Int32.not_lt.mpr ?_; assumption))] at k
      exact k
  · skip
    exact absurd c1 (by decide)
theorem c_join13 {d : Nat} {h : Hp} {x y : Int32} {Q : Po} (k : Q (.int (joinV 3006 x y)) h) : wpC (d + 3) true 8 [.int 13, .int x, .int y] h Q := by
  refine go_in rfl ?_
  refine exf_go 2 (show ((13 : Int32).toInt < 7 ∨ 13 < (13 : Int32).toInt → Go (d + 2) true 8 108 [.int 13, .int x, .int y] [] h Q) ∧ ((13 : Int32).toInt = 7 → Go (d + 2) true 8 44 [.int 13, .int x, .int y] [] h Q) ∧ ((13 : Int32).toInt = 8 → Go (d + 2) true 8 53 [.int 13, .int x, .int y] [] h Q) ∧ ((13 : Int32).toInt = 9 → Go (d + 2) true 8 62 [.int 13, .int x, .int y] [] h Q) ∧ ((13 : Int32).toInt = 10 → Go (d + 2) true 8 71 [.int 13, .int x, .int y] [] h Q) ∧ ((13 : Int32).toInt = 11 → Go (d + 2) true 8 82 [.int 13, .int x, .int y] [] h Q) ∧ ((13 : Int32).toInt = 12 → Go (d + 2) true 8 93 [.int 13, .int x, .int y] [] h Q) ∧ ((13 : Int32).toInt = 13 → Go (d + 2) true 8 104 [.int 13, .int x, .int y] [] h Q) ∧ True from ⟨fun c1 => ?_, fun c1 => ?_, fun c1 => ?_, fun c1 => ?_, fun c1 => ?_, fun c1 => ?_, fun c1 => ?_, fun c1 => ?_, trivial⟩)
  · skip
    exact absurd c1 (by decide)
  · skip
    exact absurd c1 (by decide)
  · skip
    exact absurd c1 (by decide)
  · skip
    exact absurd c1 (by decide)
  · skip
    exact absurd c1 (by decide)
  · skip
    exact absurd c1 (by decide)
  · skip
    exact absurd c1 (by decide)
  · skip
    refine exf_go 4 (show Q (.int (x &&& y)) h from ?_)
    rw [jv6] at k
    exact k
theorem c_join14 {d : Nat} {h : Hp} {x y : Int32} {Q : Po} (k : Q (.int (joinV 3007 x y)) h) : wpC (d + 3) true 8 [.int 14, .int x, .int y] h Q := by
  refine go_in rfl ?_
  refine exf_go 2 (show ((14 : Int32).toInt < 7 ∨ 13 < (14 : Int32).toInt → Go (d + 2) true 8 108 [.int 14, .int x, .int y] [] h Q) ∧ ((14 : Int32).toInt = 7 → Go (d + 2) true 8 44 [.int 14, .int x, .int y] [] h Q) ∧ ((14 : Int32).toInt = 8 → Go (d + 2) true 8 53 [.int 14, .int x, .int y] [] h Q) ∧ ((14 : Int32).toInt = 9 → Go (d + 2) true 8 62 [.int 14, .int x, .int y] [] h Q) ∧ ((14 : Int32).toInt = 10 → Go (d + 2) true 8 71 [.int 14, .int x, .int y] [] h Q) ∧ ((14 : Int32).toInt = 11 → Go (d + 2) true 8 82 [.int 14, .int x, .int y] [] h Q) ∧ ((14 : Int32).toInt = 12 → Go (d + 2) true 8 93 [.int 14, .int x, .int y] [] h Q) ∧ ((14 : Int32).toInt = 13 → Go (d + 2) true 8 104 [.int 14, .int x, .int y] [] h Q) ∧ True from ⟨fun c1 => ?_, fun c1 => ?_, fun c1 => ?_, fun c1 => ?_, fun c1 => ?_, fun c1 => ?_, fun c1 => ?_, fun c1 => ?_, trivial⟩)
  · skip
    refine exf_go 4 (show Q (.int (x ||| y)) h from ?_)
    rw [jv7] at k
    exact k
  · skip
    exact absurd c1 (by decide)
  · skip
    exact absurd c1 (by decide)
  · skip
    exact absurd c1 (by decide)
  · skip
    exact absurd c1 (by decide)
  · skip
    exact absurd c1 (by decide)
  · skip
    exact absurd c1 (by decide)
  · skip
    exact absurd c1 (by decide)
theorem c_pushV {d : Nat} {h : Hp} {l : List Int32} {m : Nat} {x : Int32} {Q : Po} (ck : CK l m h) (hq : m < 64) (k : ∀ h1, Fq sSt h h1 → CK (x :: l) (m + 1) h1 → Q mk_ h1) : wpC (d + 1) true 10 [.ref 17, .int x] h Q := by
  refine go_in rfl ?_
  refine exf_go 2 (show Go d true 10 4 [.ref 17, .int x] [.int (rI h 17 6)] h Q from ?_)
  rw [show (rI h 17 6 : Int32) = nI m from ck.1.2]
  refine exf_go 2 (show (64 ≤ (nI m) → Go d true 10 29 [.ref 17, .int x] [] h Q) ∧ (¬ (64 ≤ (nI m)) → Go d true 10 9 [.ref 17, .int x] [] h Q) from ⟨fun c1 => ?_, fun c1 => ?_⟩)
  · skip
    have c1 : 64 ≤ m := (nI_leI (a := 64) (b := m) (by omega) (by omega)).mp c1
    refine exf_go 1 (show Q (mk_) h from ?_)
    exfalso; omega
  · skip
    have c1 : ¬ 64 ≤ m := fun q => c1 ((nI_leI (a := 64) (b := m) (by omega) (by omega)).mpr q)
    refine exf_go 4 (show Go d true 10 17 [.ref 17, .int x] [.int (rI h 17 6), .ref 21] h Q from ?_)
    rw [show (rI h 17 6 : Int32) = nI m from ck.1.2]
    refine exf_go 5 (show vp_in (nI m) 64 ∧ (Go d true 10 24 [.ref 17, .int x] [.int (rI h 17 6), .ref 17] (uI h 21 ((nI m).toNatClampNeg) x) Q) from ⟨(vp_in_nI (n := m) (by omega) (by omega)), ?_⟩)
    rw [show (rI h 17 6 : Int32) = nI m from ck.1.2]
    refine exf_go 2 (show Go d true 10 26 [.ref 17, .int x] [.int ((nI m) + 1), .ref 17] (uI h 21 ((nI m).toNatClampNeg) x) Q from ?_)
    rw [show ((nI m) + 1 : Int32) = nI (m + 1) from nI_add m 1]
    refine exf_go 2 (show Q (mk_) (uI (uI h 21 ((nI m).toNatClampNeg) x) 17 6 (nI (m + 1))) from ?_)
    rw [show (nI m).toNatClampNeg = m from nI_clamp (by omega)]
    have e1 : rI (uI (uI h 21 (m) x) 17 6 (nI (m + 1))) 21 l.length = x := by rw [ck.1.1]; exact rI_uI_eq (a := 21)
    exact k _ ((Fq.rfl'.uI' _ _ _ rfl).uI' _ _ _ rfl) ⟨⟨congrArg (· + 1) ck.1.1, rfl⟩, e1, sk_fr (h := uI h 21 m x) (h1 := uI (uI h 21 m x) 17 6 (nI (m + 1))) (fun _ => rfl) l (sk_up (a := 21) (i := m) (v := x) l (by have := ck.1.1; omega) ck.2)⟩
theorem c_popV {d : Nat} {h : Hp} {r : List Int32} {m : Nat} {x : Int32} {Q : Po} (ck : CK (x :: r) m h) (hq : m ≤ 64) (k : ∀ h1, Fq sSt h h1 → CK r (m - 1) h1 → Q (.int x) h1) : wpC (d + 1) true 11 [.ref 17] h Q := by
  have hq1 : r.length + 1 = m := ck.1.1
  refine go_in rfl ?_
  refine exf_go 2 (show Go d true 11 4 [.ref 17] [.int (rI h 17 6)] h Q from ?_)
  rw [show (rI h 17 6 : Int32) = nI m from ck.1.2]
  refine exf_go 2 (show (1 ≤ (nI m) → Go d true 11 10 [.ref 17] [] h Q) ∧ (¬ (1 ≤ (nI m)) → Go d true 11 8 [.ref 17] [] h Q) from ⟨fun c1 => ?_, fun c1 => ?_⟩)
  · skip
    have c1 : 1 ≤ m := (nI_leI (a := 1) (b := m) (by omega) (by omega)).mp c1
    refine exf_go 3 (show Go d true 11 15 [.ref 17] [.int (rI h 17 6), .ref 17] h Q from ?_)
    rw [show (rI h 17 6 : Int32) = nI m from ck.1.2]
    refine exf_go 2 (show Go d true 11 17 [.ref 17] [.int ((nI m) - 1), .ref 17] h Q from ?_)
    rw [show ((nI m) - 1 : Int32) = nI (m - 1) from pk_sub (a := m) (b := 1) (by omega)]
    refine exf_go 6 (show vp_in (nI (m - 1)) 64 ∧ (Go d true 11 29 [.ref 17] [.int (rI h 21 ((nI (m - 1)).toNatClampNeg))] (uI h 17 6 (nI (m - 1))) Q) from ⟨(vp_in_nI (n := m - 1) (by omega) (by omega)), ?_⟩)
    rw [show (rI h 21 ((nI (m - 1)).toNatClampNeg) : Int32) = x from by rw [nI_clamp (by omega), show m - 1 = r.length from by omega]; exact ck.2.1]
    refine exf_go 1 (show Q (.int x) (uI h 17 6 (nI (m - 1))) from ?_)
    exact k _ (Fq.rfl'.uI' _ _ _ rfl) ⟨⟨by omega, rfl⟩, sk_fr (h := h) (h1 := uI h 17 6 (nI (m - 1))) (fun _ => rfl) r ck.2.2⟩
  · skip
    have c1 : ¬ 1 ≤ m := fun q => c1 ((nI_leI (a := 1) (b := m) (by omega) (by omega)).mpr q)
    refine exf_go 2 (show Q (.int 0) h from ?_)
    exfalso; omega
