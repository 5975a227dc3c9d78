/-! Tokens of a text. -/
def scn (q : Nat → Bool) (n : Nat) : Nat → Nat → Nat
  | 0, p => p
  | f + 1, p => if p < n ∧ q p = true then scn q n f (p + 1) else p
def scF (q : Nat → Bool) (n p : Nat) : Nat := scn q n (n - p) p
theorem scF_y {q : Nat → Bool} {n p : Nat} (h : p < n) (hq : q p = true) : scF q n p = scF q n (p + 1) := by
  unfold scF
  rw [show n - p = (n - (p + 1)) + 1 from by omega, scn, if_pos ⟨h, hq⟩]
theorem scF_n {q : Nat → Bool} {n p : Nat} (h : ¬ (p < n ∧ q p = true)) : scF q n p = p := by
  unfold scF
  rcases n - p with _ | f
  · rfl
  · rw [scn, if_neg h]
theorem scn_ge (q : Nat → Bool) (n : Nat) : ∀ f p, p ≤ scn q n f p
  | 0, _ => Nat.le_refl _
  | f + 1, p => by
    rw [scn]
    split
    · have := scn_ge q n f (p + 1); omega
    · exact Nat.le_refl _
theorem scn_le (q : Nat → Bool) (n : Nat) : ∀ f p, p ≤ n → scn q n f p ≤ n
  | 0, _, h => h
  | f + 1, p, h => by
    rw [scn]
    split
    · rename_i c; exact scn_le q n f (p + 1) (by omega)
    · exact h
theorem scF_b (q : Nat → Bool) {n p : Nat} (h : p ≤ n) : p ≤ scF q n p ∧ scF q n p ≤ n := ⟨scn_ge q n _ p, scn_le q n _ p h⟩
def spc (c : Nat) : Bool := decide (c = 10 ∨ c = 32)
def sml (c : Nat) : Bool := decide (97 ≤ c ∧ c ≤ 122)
def dgt (c : Nat) : Bool := decide (48 ≤ c ∧ c ≤ 57)
def skF (b : Nat → Nat) (n p : Nat) : Nat := scF (fun i => spc (b i)) n p
def kpsL : List Nat := [1, 7, 13, 19, 24, 29, 33, 37, 42, 46, 49, 52, 56, 60, 62, 66, 70, 76, 83]
def klnL : List Nat := [5, 5, 5, 4, 4, 3, 3, 4, 3, 2, 2, 3, 3, 1, 3, 3, 5, 6]
def kps (w : Nat) : Nat := kpsL.getD w 83
def kln (w : Nat) : Nat := klnL.getD w 0
def kwd (w i : Nat) : Nat := if i < 6 then cb 6 (6 * w + i) else 32
theorem kp_all : ∀ w, w < 18 → kps w + kln w + 1 = kps (w + 1) ∧ kps (w + 1) ≤ 83 ∧ kwd w (kln w) = 32 ∧ kln w ≤ 6 := by decide +kernel
theorem kw_at : ∀ w, w < 18 → ∀ i, i < 7 → i ≤ kln w → cb 7 (kps w + i) = kwd w i := by decide +kernel
theorem kw_no : ∀ w, w < 18 → ∀ i, i < 7 → kwd w i < 128 ∧ (i < kln w → ¬ kwd w i = 32) ∧ (kln w ≤ i → kwd w i = 32) := by decide +kernel
def eqW (b : Nat → Nat) (a w : Nat) : Nat → Bool
  | 0 => true
  | i + 1 => eqW b a w i && decide (b (a + i) = kwd w i)
theorem eqW_no {b : Nat → Nat} {a w i : Nat} (h : ¬ b (a + i) = kwd w i) : ∀ j, eqW b a w (i + 1 + j) = false
  | 0 => by rw [Nat.add_zero, eqW, decide_eq_false h, Bool.and_false]
  | j + 1 => by rw [← Nat.add_assoc, eqW, eqW_no h j, Bool.false_and]
def isW (b : Nat → Nat) (a e w : Nat) : Bool := decide (e = a + kln w) && eqW b a w (kln w)
theorem isW_y {b : Nat → Nat} {a e w : Nat} (h : e = a + kln w) (h2 : eqW b a w (kln w) = true) : isW b a e w = true := by unfold isW; rw [h2, decide_eq_true h]; rfl
theorem isW_n {b : Nat → Nat} {a e w : Nat} (h : ¬ e = a + kln w) : isW b a e w = false := by unfold isW; rw [decide_eq_false h]; rfl
theorem isW_d {b : Nat → Nat} {a e w i : Nat} (h : ¬ b (a + i) = kwd w i) (hi : i < kln w) : isW b a e w = false := by
  unfold isW
  have := eqW_no h (kln w - (i + 1))
  rw [show i + 1 + (kln w - (i + 1)) = kln w from by omega] at this
  rw [this, Bool.and_false]
def wkF (b : Nat → Nat) (a e : Nat) : Nat → Nat
  | 0 => 20
  | f + 1 => if isW b a e (17 - f) = true then 17 - f else wkF b a e f
theorem wk_y {b : Nat → Nat} {a e w : Nat} (hw : w < 18) (h : isW b a e w = true) : wkF b a e (18 - w) = w := by
  rw [show 18 - w = (17 - w) + 1 from by omega, wkF, show 17 - (17 - w) = w from by omega, if_pos h]
theorem wk_n {b : Nat → Nat} {a e w : Nat} (hw : w < 18) (h : isW b a e w = false) : wkF b a e (18 - w) = wkF b a e (18 - (w + 1)) := by
  rw [show 18 - w = (17 - w) + 1 from by omega, wkF, show 17 - (17 - w) = w from by omega, if_neg (by rw [h]; decide), show 17 - w = 18 - (w + 1) from by omega]
theorem wk_b (b : Nat → Nat) (a e : Nat) : ∀ f, f ≤ 18 → wkF b a e f ≤ 20
  | 0, _ => Nat.le_refl _
  | f + 1, h => by rw [wkF]; split; omega; exact wk_b b a e f (by omega)
def sgF (c : Nat) : Nat → Nat
  | 0 => 23
  | k + 1 => if c = cb 5 k then 25 + k else sgF c k
def tE (b : Nat → Nat) (n a : Nat) : Nat := if n ≤ a then a else if sml (b a) = true then scF (fun i => sml (b i)) n a else if dgt (b a) = true then scF (fun i => dgt (b i)) n a else a + 1
def tK (b : Nat → Nat) (n a : Nat) : Nat := if n ≤ a then 22 else if sml (b a) = true then wkF b a (tE b n a) 18 else if dgt (b a) = true then (if 3 < tE b n a - a then 23 else 21) else sgF (b a) 12
def vlF (b : Nat → Nat) (a : Nat) : Nat → Nat
  | 0 => 0
  | i + 1 => if i < 3 then 10 * vlF b a i + (b (a + i) - 48) else vlF b a i
def tV (b : Nat → Nat) (n a : Nat) : Nat := vlF b a (tE b n a - a)
def tkP (b : Nat → Nat) (n : Nat) : Nat → Nat
  | 0 => skF b n 0
  | i + 1 => skF b n (tE b n (tkP b n i))
/-- the model's text: its bytes, how many -/
def MX (b : Nat → Nat) (n : Nat) (h : Hp) : Prop := (n ≤ 900 ∧ ∀ i, b i < 256) ∧ rI h 130 8 = nI n ∧ ∀ i, i < n → rI h 133 i = nI (b i)
theorem m_see {d : Nat} {h : Hp} {b : Nat → Nat} {n : Nat} {p : Nat} {Q : Po} (mx : MX b n h) (hp : p < 2 ^ 31) (k1 : p < n → Q (.int (nI (b p))) h) (k0 : ¬ p < n → Q (.int (-1)) h) : wpC (d + 1) true 187 [.ref 130, .int (nI p)] h Q := by
  have hn9 := mx.1.1
  refine go_in rfl ?_
  refine exf_go 3 (show Go d true 187 5 [.ref 130, .int (nI p)] [.int (rI h 130 8), .int (nI p)] h Q from ?_)
  rw [show (rI h 130 8 : Int32) = nI n from mx.2.1]
  refine exf_go 1 (show ((nI n) ≤ (nI p) → Go d true 187 17 [.ref 130, .int (nI p)] [] h Q) ∧ (¬ ((nI n) ≤ (nI p)) → Go d true 187 8 [.ref 130, .int (nI p)] [] h Q) from ⟨fun c1 => ?_, fun c1 => ?_⟩)
  · skip
    have c1 : n ≤ p := (nI_leI (a := n) (b := p) (by omega) (by omega)).mp c1
    refine exf_go 2 (show Q (.int (-1)) h from ?_)
    exact k0 (by omega)
  · skip
    have c1 : ¬ n ≤ p := fun q => c1 ((nI_leI (a := n) (b := p) (by omega) (by omega)).mpr q)
    refine exf_go 4 (show vp_in (nI p) 900 ∧ (Go d true 187 14 [.ref 130, .int (nI p)] [.int (rI h 133 ((nI p).toNatClampNeg))] h Q) from ⟨(vp_in_nI (by omega) (by omega)), ?_⟩)
    rw [show (rI h 133 ((nI p).toNatClampNeg) : Int32) = nI (b p) from by rw [nI_clamp (by omega)]; exact mx.2.2 _ (by omega)]
    have := mx.1.2 p
    refine exf_go 2 (show Q (.int (nI (b p))) h from ?_)
    exact k1 (by omega)
theorem m_small {d : Nat} {h : Hp} {c : Nat} {Q : Po} (hc : c < 2 ^ 31) (k1 : sml c = true → Q (.int 1) h) (k0 : sml c = false → Q (.int 0) h) : wpC (d + 1) true 188 [.int (nI c)] h Q := by
  refine go_in rfl ?_
  refine exf_go 3 (show ((nI c) < 97 → Go d true 188 16 [.int (nI c)] [] h Q) ∧ (¬ ((nI c) < 97) → Go d true 188 6 [.int (nI c)] [] h Q) from ⟨fun c1 => ?_, fun c1 => ?_⟩)
  · skip
    have c1 : c < 97 := (nI_ltI (a := c) (b := 97) (by omega) (by omega)).mp c1
    refine exf_go 2 (show ((0 : Int32) = 0 ∨ (0 : Int32) = 1) ∧ Q (.int 0) h from ⟨(by first | exact Or.inl rfl | exact Or.inr rfl | assumption), ?_⟩)
    exact k0 (by unfold sml; exact decide_eq_false (by omega))
  · skip
    have c1 : ¬ c < 97 := fun q => c1 ((nI_ltI (a := c) (b := 97) (by omega) (by omega)).mpr q)
    refine exf_go 3 (show (122 < (nI c) → Go d true 188 16 [.int (nI c)] [] h Q) ∧ (¬ (122 < (nI c)) → Go d true 188 12 [.int (nI c)] [] h Q) from ⟨fun c2 => ?_, fun c2 => ?_⟩)
    · skip
      have c2 : 122 < c := (nI_ltI (a := 122) (b := c) (by omega) (by omega)).mp c2
      refine exf_go 2 (show ((0 : Int32) = 0 ∨ (0 : Int32) = 1) ∧ Q (.int 0) h from ⟨(by first | exact Or.inl rfl | exact Or.inr rfl | assumption), ?_⟩)
      exact k0 (by unfold sml; exact decide_eq_false (by omega))
    · skip
      have c2 : ¬ 122 < c := fun q => c2 ((nI_ltI (a := 122) (b := c) (by omega) (by omega)).mpr q)
      refine exf_go 3 (show ((1 : Int32) = 0 ∨ (1 : Int32) = 1) ∧ Q (.int 1) h from ⟨(by first | exact Or.inl rfl | exact Or.inr rfl | assumption), ?_⟩)
      exact k1 (by unfold sml; exact decide_eq_true (by omega))
theorem m_smallN {d : Nat} {h : Hp} {x : Int32} {Q : Po} (hx : x < 0) (k : Q (.int 0) h) : wpC (d + 1) true 188 [.int x] h Q := by
  refine go_in rfl ?_
  refine exf_go 3 (show (x < 97 → Go d true 188 16 [.int x] [] h Q) ∧ (¬ (x < 97) → Go d true 188 6 [.int x] [] h Q) from ⟨fun c1 => ?_, fun c1 => ?_⟩)
  · skip
    refine exf_go 2 (show ((0 : Int32) = 0 ∨ (0 : Int32) = 1) ∧ Q (.int 0) h from ⟨(by first | exact Or.inl rfl | exact Or.inr rfl | assumption), ?_⟩)
    exact k
  · skip
    refine exf_go 3 (show (122 < x → Go d true 188 16 [.int x] [] h Q) ∧ (¬ (122 < x) → Go d true 188 12 [.int x] [] h Q) from ⟨fun c2 => ?_, fun c2 => ?_⟩)
    · skip
      refine exf_go 2 (show ((0 : Int32) = 0 ∨ (0 : Int32) = 1) ∧ Q (.int 0) h from ⟨(by first | exact Or.inl rfl | exact Or.inr rfl | assumption), ?_⟩)
      exact k
    · skip
      refine exf_go 3 (show ((1 : Int32) = 0 ∨ (1 : Int32) = 1) ∧ Q (.int 1) h from ⟨(by first | exact Or.inl rfl | exact Or.inr rfl | assumption), ?_⟩)
      exact absurd (Int32.lt_trans hx (show (0 : Int32) < 97 from by decide)) c1
theorem m_digit {d : Nat} {h : Hp} {c : Nat} {Q : Po} (hc : c < 2 ^ 31) (k1 : dgt c = true → Q (.int 1) h) (k0 : dgt c = false → Q (.int 0) h) : wpC (d + 1) true 189 [.int (nI c)] h Q := by
  refine go_in rfl ?_
  refine exf_go 3 (show ((nI c) < 48 → Go d true 189 16 [.int (nI c)] [] h Q) ∧ (¬ ((nI c) < 48) → Go d true 189 6 [.int (nI c)] [] h Q) from ⟨fun c1 => ?_, fun c1 => ?_⟩)
  · skip
    have c1 : c < 48 := (nI_ltI (a := c) (b := 48) (by omega) (by omega)).mp c1
    refine exf_go 2 (show ((0 : Int32) = 0 ∨ (0 : Int32) = 1) ∧ Q (.int 0) h from ⟨(by first | exact Or.inl rfl | exact Or.inr rfl | assumption), ?_⟩)
    exact k0 (by unfold dgt; exact decide_eq_false (by omega))
  · skip
    have c1 : ¬ c < 48 := fun q => c1 ((nI_ltI (a := c) (b := 48) (by omega) (by omega)).mpr q)
    refine exf_go 3 (show (57 < (nI c) → Go d true 189 16 [.int (nI c)] [] h Q) ∧ (¬ (57 < (nI c)) → Go d true 189 12 [.int (nI c)] [] h Q) from ⟨fun c2 => ?_, fun c2 => ?_⟩)
    · skip
      have c2 : 57 < c := (nI_ltI (a := 57) (b := c) (by omega) (by omega)).mp c2
      refine exf_go 2 (show ((0 : Int32) = 0 ∨ (0 : Int32) = 1) ∧ Q (.int 0) h from ⟨(by first | exact Or.inl rfl | exact Or.inr rfl | assumption), ?_⟩)
      exact k0 (by unfold dgt; exact decide_eq_false (by omega))
    · skip
      have c2 : ¬ 57 < c := fun q => c2 ((nI_ltI (a := 57) (b := c) (by omega) (by omega)).mpr q)
      refine exf_go 3 (show ((1 : Int32) = 0 ∨ (1 : Int32) = 1) ∧ Q (.int 1) h from ⟨(by first | exact Or.inl rfl | exact Or.inr rfl | assumption), ?_⟩)
      exact k1 (by unfold dgt; exact decide_eq_true (by omega))
theorem m_digitN {d : Nat} {h : Hp} {x : Int32} {Q : Po} (hx : x < 0) (k : Q (.int 0) h) : wpC (d + 1) true 189 [.int x] h Q := by
  refine go_in rfl ?_
  refine exf_go 3 (show (x < 48 → Go d true 189 16 [.int x] [] h Q) ∧ (¬ (x < 48) → Go d true 189 6 [.int x] [] h Q) from ⟨fun c1 => ?_, fun c1 => ?_⟩)
  · skip
    refine exf_go 2 (show ((0 : Int32) = 0 ∨ (0 : Int32) = 1) ∧ Q (.int 0) h from ⟨(by first | exact Or.inl rfl | exact Or.inr rfl | assumption), ?_⟩)
    exact k
  · skip
    refine exf_go 3 (show (57 < x → Go d true 189 16 [.int x] [] h Q) ∧ (¬ (57 < x) → Go d true 189 12 [.int x] [] h Q) from ⟨fun c2 => ?_, fun c2 => ?_⟩)
    · skip
      refine exf_go 2 (show ((0 : Int32) = 0 ∨ (0 : Int32) = 1) ∧ Q (.int 0) h from ⟨(by first | exact Or.inl rfl | exact Or.inr rfl | assumption), ?_⟩)
      exact k
    · skip
      refine exf_go 3 (show ((1 : Int32) = 0 ∨ (1 : Int32) = 1) ∧ Q (.int 1) h from ⟨(by first | exact Or.inl rfl | exact Or.inr rfl | assumption), ?_⟩)
      exact absurd (Int32.lt_trans hx (show (0 : Int32) < 48 from by decide)) c1
theorem c_letter {d : Nat} {h : Hp} {c : Nat} {Q : Po} (hc : c < 2 ^ 31) (k1 : sml c = true → Q (.int 1) h) (k0 : sml c = false → Q (.int 0) h) : wpC (d + 1) true 94 [.int (nI c)] h Q := by
  refine go_in rfl ?_
  refine exf_go 3 (show ((nI c) < 97 → Go d true 94 16 [.int (nI c)] [] h Q) ∧ (¬ ((nI c) < 97) → Go d true 94 6 [.int (nI c)] [] h Q) from ⟨fun c1 => ?_, fun c1 => ?_⟩)
  · skip
    have c1 : c < 97 := (nI_ltI (a := c) (b := 97) (by omega) (by omega)).mp c1
    refine exf_go 2 (show ((0 : Int32) = 0 ∨ (0 : Int32) = 1) ∧ Q (.int 0) h from ⟨(by first | exact Or.inl rfl | exact Or.inr rfl | assumption), ?_⟩)
    exact k0 (by unfold sml; exact decide_eq_false (by omega))
  · skip
    have c1 : ¬ c < 97 := fun q => c1 ((nI_ltI (a := c) (b := 97) (by omega) (by omega)).mpr q)
    refine exf_go 3 (show (122 < (nI c) → Go d true 94 16 [.int (nI c)] [] h Q) ∧ (¬ (122 < (nI c)) → Go d true 94 12 [.int (nI c)] [] h Q) from ⟨fun c2 => ?_, fun c2 => ?_⟩)
    · skip
      have c2 : 122 < c := (nI_ltI (a := 122) (b := c) (by omega) (by omega)).mp c2
      refine exf_go 2 (show ((0 : Int32) = 0 ∨ (0 : Int32) = 1) ∧ Q (.int 0) h from ⟨(by first | exact Or.inl rfl | exact Or.inr rfl | assumption), ?_⟩)
      exact k0 (by unfold sml; exact decide_eq_false (by omega))
    · skip
      have c2 : ¬ 122 < c := fun q => c2 ((nI_ltI (a := 122) (b := c) (by omega) (by omega)).mpr q)
      refine exf_go 3 (show ((1 : Int32) = 0 ∨ (1 : Int32) = 1) ∧ Q (.int 1) h from ⟨(by first | exact Or.inl rfl | exact Or.inr rfl | assumption), ?_⟩)
      exact k1 (by unfold sml; exact decide_eq_true (by omega))
theorem c_letterN {d : Nat} {h : Hp} {x : Int32} {Q : Po} (hx : x < 0) (k : Q (.int 0) h) : wpC (d + 1) true 94 [.int x] h Q := by
  refine go_in rfl ?_
  refine exf_go 3 (show (x < 97 → Go d true 94 16 [.int x] [] h Q) ∧ (¬ (x < 97) → Go d true 94 6 [.int x] [] h Q) from ⟨fun c1 => ?_, fun c1 => ?_⟩)
  · skip
    refine exf_go 2 (show ((0 : Int32) = 0 ∨ (0 : Int32) = 1) ∧ Q (.int 0) h from ⟨(by first | exact Or.inl rfl | exact Or.inr rfl | assumption), ?_⟩)
    exact k
  · skip
    refine exf_go 3 (show (122 < x → Go d true 94 16 [.int x] [] h Q) ∧ (¬ (122 < x) → Go d true 94 12 [.int x] [] h Q) from ⟨fun c2 => ?_, fun c2 => ?_⟩)
    · skip
      refine exf_go 2 (show ((0 : Int32) = 0 ∨ (0 : Int32) = 1) ∧ Q (.int 0) h from ⟨(by first | exact Or.inl rfl | exact Or.inr rfl | assumption), ?_⟩)
      exact k
    · skip
      refine exf_go 3 (show ((1 : Int32) = 0 ∨ (1 : Int32) = 1) ∧ Q (.int 1) h from ⟨(by first | exact Or.inl rfl | exact Or.inr rfl | assumption), ?_⟩)
      exact absurd (Int32.lt_trans hx (show (0 : Int32) < 97 from by decide)) c1
theorem c_digit {d : Nat} {h : Hp} {c : Nat} {Q : Po} (hc : c < 2 ^ 31) (k1 : dgt c = true → Q (.int 1) h) (k0 : dgt c = false → Q (.int 0) h) : wpC (d + 1) true 95 [.int (nI c)] h Q := by
  refine go_in rfl ?_
  refine exf_go 3 (show ((nI c) < 48 → Go d true 95 16 [.int (nI c)] [] h Q) ∧ (¬ ((nI c) < 48) → Go d true 95 6 [.int (nI c)] [] h Q) from ⟨fun c1 => ?_, fun c1 => ?_⟩)
  · skip
    have c1 : c < 48 := (nI_ltI (a := c) (b := 48) (by omega) (by omega)).mp c1
    refine exf_go 2 (show ((0 : Int32) = 0 ∨ (0 : Int32) = 1) ∧ Q (.int 0) h from ⟨(by first | exact Or.inl rfl | exact Or.inr rfl | assumption), ?_⟩)
    exact k0 (by unfold dgt; exact decide_eq_false (by omega))
  · skip
    have c1 : ¬ c < 48 := fun q => c1 ((nI_ltI (a := c) (b := 48) (by omega) (by omega)).mpr q)
    refine exf_go 3 (show (57 < (nI c) → Go d true 95 16 [.int (nI c)] [] h Q) ∧ (¬ (57 < (nI c)) → Go d true 95 12 [.int (nI c)] [] h Q) from ⟨fun c2 => ?_, fun c2 => ?_⟩)
    · skip
      have c2 : 57 < c := (nI_ltI (a := 57) (b := c) (by omega) (by omega)).mp c2
      refine exf_go 2 (show ((0 : Int32) = 0 ∨ (0 : Int32) = 1) ∧ Q (.int 0) h from ⟨(by first | exact Or.inl rfl | exact Or.inr rfl | assumption), ?_⟩)
      exact k0 (by unfold dgt; exact decide_eq_false (by omega))
    · skip
      have c2 : ¬ 57 < c := fun q => c2 ((nI_ltI (a := 57) (b := c) (by omega) (by omega)).mpr q)
      refine exf_go 3 (show ((1 : Int32) = 0 ∨ (1 : Int32) = 1) ∧ Q (.int 1) h from ⟨(by first | exact Or.inl rfl | exact Or.inr rfl | assumption), ?_⟩)
      exact k1 (by unfold dgt; exact decide_eq_true (by omega))
theorem c_digitN {d : Nat} {h : Hp} {x : Int32} {Q : Po} (hx : x < 0) (k : Q (.int 0) h) : wpC (d + 1) true 95 [.int x] h Q := by
  refine go_in rfl ?_
  refine exf_go 3 (show (x < 48 → Go d true 95 16 [.int x] [] h Q) ∧ (¬ (x < 48) → Go d true 95 6 [.int x] [] h Q) from ⟨fun c1 => ?_, fun c1 => ?_⟩)
  · skip
    refine exf_go 2 (show ((0 : Int32) = 0 ∨ (0 : Int32) = 1) ∧ Q (.int 0) h from ⟨(by first | exact Or.inl rfl | exact Or.inr rfl | assumption), ?_⟩)
    exact k
  · skip
    refine exf_go 3 (show (57 < x → Go d true 95 16 [.int x] [] h Q) ∧ (¬ (57 < x) → Go d true 95 12 [.int x] [] h Q) from ⟨fun c2 => ?_, fun c2 => ?_⟩)
    · skip
      refine exf_go 2 (show ((0 : Int32) = 0 ∨ (0 : Int32) = 1) ∧ Q (.int 0) h from ⟨(by first | exact Or.inl rfl | exact Or.inr rfl | assumption), ?_⟩)
      exact k
    · skip
      refine exf_go 3 (show ((1 : Int32) = 0 ∨ (1 : Int32) = 1) ∧ Q (.int 1) h from ⟨(by first | exact Or.inl rfl | exact Or.inr rfl | assumption), ?_⟩)
      exact absurd (Int32.lt_trans hx (show (0 : Int32) < 48 from by decide)) c1
