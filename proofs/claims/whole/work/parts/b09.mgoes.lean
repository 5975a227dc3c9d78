/-! The model: all rows are gone through. -/
/-- the best so far: whether there is one, what it costs, its numbers -/
abbrev BsG : Type := Nat × Nat × (Nat → Nat)
def RS (n : Nat) (s : BsG) (h : Hp) : Prop := s.1 ≤ 1 ∧ s.2.1 ≤ 10000000000000 ∧ rI h 130 28 = nI s.1 ∧ (s.1 = 1 → rJ h 130 27 = lN s.2.1) ∧ (s.1 = 1 → ∀ j, j < n → rI h 143 j = nI (s.2.2 j))
def upS (s : BsG) (m : Nat) (q : Nat → Nat) : BsG := if s.1 = 1 ∧ s.2.1 ≤ m then s else (1, m, q)
theorem up_less {s : BsG} {x y : Nat} {q r : Nat → Nat} (h : y < x) : upS (upS s x q) y r = upS s y r := by
  unfold upS
  by_cases c : s.1 = 1 ∧ s.2.1 ≤ x
  · rw [if_pos c]
  · rw [if_neg c, if_neg (fun z : (1, x, q).1 = 1 ∧ (1, x, q).2.1 ≤ y => by have : x ≤ y := z.2; omega), if_neg (fun z => c ⟨z.1, by omega⟩)]
theorem up_more {s : BsG} {x y : Nat} {q r : Nat → Nat} (h : ¬ y < x) : upS (upS s x q) y r = upS s x q := by
  unfold upS
  by_cases c : s.1 = 1 ∧ s.2.1 ≤ x
  · rw [if_pos c, if_pos ⟨c.1, by omega⟩]
  · rw [if_neg c, if_pos ⟨rfl, (by omega : x ≤ y)⟩]
def sGw (a i : Nat) : Bool := Nat.beq a 142 || Nat.beq a 143 || (Nat.beq a 130 && (Nat.beq i 27 || Nat.beq i 28))
theorem sGw_M (a i : Nat) (e : scM a i = false) : sGw a i = false := by
  unfold sGw
  rw [Bool.eq_false_iff]
  intro q
  rw [Bool.or_eq_true, Bool.or_eq_true, Bool.and_eq_true, Bool.or_eq_true] at q
  rcases q with (q | q) | ⟨q1, q2⟩
  · have := Nat.eq_of_beq_eq_true q; subst this; exact Bool.noConfusion e
  · have := Nat.eq_of_beq_eq_true q; subst this; exact Bool.noConfusion e
  · have := Nat.eq_of_beq_eq_true q1; subst this
    rcases q2 with q2 | q2
    · have := Nat.eq_of_beq_eq_true q2; subst this; exact Bool.noConfusion e
    · have := Nat.eq_of_beq_eq_true q2; subst this; exact Bool.noConfusion e
/-- the row: what was taken, then the best rest -/
def pth (g : ShG) (pl : Nat) (v F : Nat → Nat) (n : Nat) (tk : Nat → Nat) (k r dn a j : Nat) : Nat := if j < k then tk j else lgP g pl v F n r dn a (j - k)
theorem pth_s {g : ShG} {pl : Nat} {v F : Nat → Nat} {n : Nat} {tk : Nat → Nat} {k r dn a i : Nat} (h : (lgV g pl v F n dn a).1 = some i) : pth g pl v F n tk k (r + 1) dn a = pth g pl v F n (va_up tk k (v i)) (k + 1) r (dn ||| 2 ^ i) (v i) := funext fun j => by
  unfold pth
  by_cases c : j < k
  · rw [if_pos c, if_pos (by omega), up_ne (by omega)]
  · rw [if_neg c]
    by_cases e : j = k
    · subst e
      rw [if_pos (by omega), up_eq, Nat.sub_self, lgP_0 h]
    · rw [if_neg (by omega), show j - k = (j - (k + 1)) + 1 from by omega, lgP_s h]
/-- what it costs at least, with what was spent -/
def bsV (b : Bool) (F : Nat → Nat) (S s dn : Nat) : Nat := bif b then S + s * F dn else s
def plB (g : ShG) (b : Bool) : Nat := bif b then sP g else 0
def FB (g : ShG) (b : Bool) (v : Nat → Nat) (n : Nat) : Nat → Nat := bif b then fWs g v n else fun _ => 1
theorem bs_step {g : ShG} {v : Nat → Nat} {n dn i a S s : Nat} (hi : i < n) (h : btn dn i = 0) : bsV true (fWs g v n) (S + wtA g (sH g (v i)) * (s + trn g a (v i) + sP g)) (s + trn g a (v i) + sP g) (dn ||| 2 ^ i) + (lgV g (sP g) v (fWs g v n) n (dn ||| 2 ^ i) (v i)).2 = bsV true (fWs g v n) S s dn + lgF g (sP g) v (fWs g v n) n dn a i := by
  unfold bsV lgF
  simp only [cond_true]
  rw [fWs_s hi h]
  generalize fWs g v n (dn ||| 2 ^ i) = F'
  generalize wtA g (sH g (v i)) = w
  generalize trn g a (v i) = t
  generalize (lgV g (sP g) v (fWs g v n) n (dn ||| 2 ^ i) (v i)).2 = C
  have e1 : (s + t + sP g) * (F' + w) = s * (F' + w) + (t + sP g) * (F' + w) := by rw [Nat.add_assoc, Nat.add_mul]
  have e2 : (s + t + sP g) * (F' + w) = (s + t + sP g) * F' + w * (s + t + sP g) := by rw [Nat.mul_add, Nat.mul_comm w]
  omega
theorem bs_step0 {g : ShG} {v : Nat → Nat} {n dn i a s S S2 : Nat} : bsV false (fun _ => 1) S2 (s + trn g a (v i) + 0) (dn ||| 2 ^ i) + (lgV g 0 v (fun _ => 1) n (dn ||| 2 ^ i) (v i)).2 = bsV false (fun _ => 1) S s dn + lgF g 0 v (fun _ => 1) n dn a i := by
  unfold bsV lgF
  simp only [cond_false]
  omega
theorem fWs_0 {g : ShG} {v : Nat → Nat} {n dn : Nat} (h : rmn n dn = 0) : fWs g v n dn = 0 := by
  unfold fWs
  rw [sumN_cg n (f2 := fun _ => 0) (fun k hk => if_neg (fun q => by have := rmn_0 h hk; unfold ntn at this; exact absurd q (of_decide_eq_false this))), sumN_0]
/-- the best behind the first i -/
def sgN (s : BsG) (b0 : Nat) (o : Option Nat × Nat) (P : Nat → Nat → Nat) : BsG := match o.1 with
  | none => s
  | some c => upS s (b0 + o.2) (P c)
theorem sg_step {s : BsG} {b0 i : Nat} {p : Nat → Bool} {f : Nat → Nat} {P : Nat → Nat → Nat} (hp : p i = true) : upS (sgN s b0 (nrF p f i) P) (b0 + f i) (P i) = sgN s b0 (nrF p f (i + 1)) P := by
  rw [nrF, if_pos hp]
  rcases hq : nrF p f i with ⟨o, m⟩
  cases o with
  | none => rfl
  | some c =>
    by_cases hl : f i < m
    · simp only [if_pos hl]
      exact up_less (by omega)
    · simp only [if_neg hl]
      exact up_more (by omega)
theorem sg_skip {s : BsG} {b0 i : Nat} {p : Nat → Bool} {f : Nat → Nat} {P : Nat → Nat → Nat} (hp : p i = false) : sgN s b0 (nrF p f i) P = sgN s b0 (nrF p f (i + 1)) P := by
  rw [nrF, hp]; rfl
def GRC (b : Bool) (z : Int32) (g : ShG) (l : LkG) (tt so n : Nat) (vs : Nat → Int64) (D r : Nat) : Prop := ∀ (k dn a s S : Nat) (tk : Nat → Nat) (st : BsG) (h : Hp) (Q : Po), MS g l h → MW g (evr g) h → MT tt (some (so, n, vs)) h → k + r = n → rmn n dn = r → dn < 2 ^ n → s ≤ k * 384 → S ≤ k * 307200000000 → a < tot g → (∀ j, j < k → rI h 142 j = nI (tk j)) → RS n st h → (∀ h1, Fq sGw h h1 → RS n (upS st (bsV b (FB g b (vN g vs) n) S s dn + (lgV g (plB g b) (vN g vs) (FB g b (vN g vs) n) n dn a).2) (pth g (plB g b) (vN g vs) (FB g b (vN g vs) n) n tk k r dn a)) h1 → (∀ j, j < k → rI h1 142 j = nI (tk j)) → Q mk_ h1) → wpC D true 271 [.ref 130, .int (nI tt), .int (nI k), .int (nI dn), .int (nI a), .int (nI s), .long (lN S), .int z] h Q
