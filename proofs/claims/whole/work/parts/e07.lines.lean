/-! Lines, a text: what they tell. -/
def gWh (g : ShG) (f st r : Nat) : ShG := (sW g + 1, va_up (sF g) (sW g) f, va_up (sS g) (sW g) st, va_up (sR g) (sW g) r, g.2.2.2.2)
def gCl (g : ShG) (t : Nat) : ShG := (sW g, sF g, sS g, sR g, sC g + 1, va_up (sT g) (sC g) t, g.2.2.2.2.2.2)
def gMt (g : ShG) (k : Nat) : ShG := (sW g, sF g, sS g, sR g, sC g, sT g, sM g + 1, va_up (sK g) (sM g) k, g.2.2.2.2.2.2.2.2)
def gPu (g : ShG) (x : Nat) : ShG := (sW g, sF g, sS g, sR g, sC g, sT g, sM g, sK g, x, g.2.2.2.2.2.2.2.2.2)
def gBa (g : ShG) (x z : Nat) : ShG := (sW g, sF g, sS g, sR g, sC g, sT g, sM g, sK g, sP g, x, z, g.2.2.2.2.2.2.2.2.2.2.2)
def gSa (g : ShG) (x : Nat) : ShG := (sW g, sF g, sS g, sR g, sC g, sT g, sM g, sK g, sP g, sBA g, sBS g, x, g.2.2.2.2.2.2.2.2.2.2.2.2)
def gSe (g : ShG) (x : Nat) : ShG := (sW g, sF g, sS g, sR g, sC g, sT g, sM g, sK g, sP g, sBA g, sBS g, sSw g, some x, g.2.2.2.2.2.2.2.2.2.2.2.2.2)
def gLn (g : ShG) : ShG := (sW g, sF g, sS g, sR g, sC g, sT g, sM g, sK g, sP g, sBA g, sBS g, sSw g, sO g, sL g + 1, g.2.2.2.2.2.2.2.2.2.2.2.2.2.2)
def gHo (g : ShG) (f : Nat → Nat) : ShG := (sW g, sF g, sS g, sR g, sC g, sT g, sM g, sK g, sP g, sBA g, sBS g, sSw g, sO g, sL g, f)
/-- reading, the shed, where clues begin and end, where the wheels stand, whether wheels have ended -/
abbrev LnG : Type := PsG × ShG × (Nat → Nat) × (Nat → Nat) × Nat × Nat
def ys (y : LnG) : PsG := y.1
def yg (y : LnG) : ShG := y.2.1
def yb (y : LnG) : Nat → Nat := y.2.2.1
def ye (y : LnG) : Nat → Nat := y.2.2.2.1
def ya (y : LnG) : Nat := y.2.2.2.2.1
def yh (y : LnG) : Nat := y.2.2.2.2.2
def whA (b : Nat → Nat) (n : Nat) (s : PsG) : PsG := tkn b n 2 11 (nx s)
def whB (b : Nat → Nat) (n : Nat) (s : PsG) : PsG := if isK b n 1 s = true then tkn b n 1 10 (nx s) else s
def whC (b : Nat → Nat) (n : Nat) (s : PsG) : PsG := if isK b n 2 s = true then nx s else s
def whV (b : Nat → Nat) (n : Nat) (s : PsG) : Nat := if isK b n 1 s = true then vl b n (qi s + 1) else 1
def whR (b : Nat → Nat) (n : Nat) (s : PsG) : Nat := if isK b n 2 s = true then 1 else 0
def wh3 (b : Nat → Nat) (n : Nat) (s : PsG) : PsG := whC b n (whB b n (whA b n s))
def rWh (b : Nat → Nat) (n : Nat) (y : LnG) : LnG := if sW (yg y) = 4 then (fl b n 4 (ys y), y.2) else if qe (wh3 b n (ys y)) = 0 then (wh3 b n (ys y), gWh (yg y) (vl b n (qi (ys y) + 1)) (whV b n (whA b n (ys y))) (whR b n (whB b n (whA b n (ys y)))), y.2.2) else (wh3 b n (ys y), y.2)
def clA (b : Nat → Nat) (n : Nat) (s : PsG) : PsG := eat b n 26 (tkn b n 0 11 (nx s))
def clB (b : Nat → Nat) (n : Nat) (g : ShG) (s : PsG) : PsG := trL b n (sW g) 6 (clA b n s)
def rCl (b : Nat → Nat) (n : Nat) (y : LnG) : LnG := if sC (yg y) = 8 then (fl b n 4 (ys y), y.2) else if qe (clB b n (yg y) (ys y)) = 0 then (clB b n (yg y) (ys y), gCl (yg y) (vl b n (qi (ys y) + 1)), va_up (yb y) (sC (yg y)) (qn (ys y)), va_up (ye y) (sC (yg y)) (qn (clB b n (yg y) (ys y))), ya y, 1) else (clB b n (yg y) (ys y), y.2)
def puA (b : Nat → Nat) (n : Nat) (s : PsG) : PsG := tkn b n 1 61 (nx s)
def rPu (b : Nat → Nat) (n : Nat) (y : LnG) : LnG := if qe (puA b n (ys y)) = 0 then (puA b n (ys y), gPu (yg y) (vl b n (qi (ys y) + 1)), y.2.2) else (puA b n (ys y), y.2)
def saA (b : Nat → Nat) (n : Nat) (s : PsG) : PsG := tkn b n 1 1000 (nx s)
def rSa (b : Nat → Nat) (n : Nat) (y : LnG) : LnG := if qe (saA b n (ys y)) = 0 then (saA b n (ys y), gSa (yg y) (vl b n (qi (ys y) + 1)), y.2.2) else (saA b n (ys y), y.2)
def baA (b : Nat → Nat) (n : Nat) (s : PsG) : PsG := tkn b n 1 1000 (tkn b n 1 10 (nx s))
def rBa (b : Nat → Nat) (n : Nat) (y : LnG) : LnG := if qe (baA b n (ys y)) = 0 then (baA b n (ys y), gBa (yg y) (vl b n (qi (ys y) + 1)) (vl b n (qi (ys y) + 2)), y.2.2) else (baA b n (ys y), y.2)
def mtL (b : Nat → Nat) (n C : Nat) : Nat → PsG → Nat → PsG × Nat
  | 0, s, k => (s, k)
  | f + 1, s, k => if isK b n 21 s = true then (if qe (tkn b n 0 C s) = 0 then mtL b n C f (tkn b n 0 C s) (k ||| 2 ^ vl b n (qi s)) else (tkn b n 0 C s, k)) else (s, k)
def mtA (b : Nat → Nat) (n : Nat) (g : ShG) (s : PsG) : PsG × Nat := mtL b n (sC g) 900 (nx s) 0
def rMt (b : Nat → Nat) (n : Nat) (y : LnG) : LnG := if sM (yg y) = 4 then (fl b n 4 (ys y), y.2) else if qe (mtA b n (yg y) (ys y)).1 = 0 then ((mtA b n (yg y) (ys y)).1, gMt (yg y) (mtA b n (yg y) (ys y)).2, y.2.2) else ((mtA b n (yg y) (ys y)).1, y.2)
def fgL (b : Nat → Nat) (n : Nat) (F : Nat → Nat) : Nat → PsG → PsG × Nat
  | 0, s => (s, 0)
  | w + 1, s => (tkn b n 0 (F w) (fgL b n F w s).1, (fgL b n F w s).2 * F w + vl b n (qi (fgL b n F w s).1))
def fgA (b : Nat → Nat) (n : Nat) (g : ShG) (s : PsG) : PsG × Nat := if sW g = 0 then (tkn b n 0 0 (nx s), 0) else fgL b n (sF g) (sW g) (nx s)
def rSe (b : Nat → Nat) (n : Nat) (y : LnG) : LnG := if qe (fgA b n (yg y) (ys y)).1 = 0 then ((fgA b n (yg y) (ys y)).1, gSe (yg y) (fgA b n (yg y) (ys y)).2, yb y, ye y, ya y, 1) else ((fgA b n (yg y) (ys y)).1, y.2)
def rAt (b : Nat → Nat) (n : Nat) (y : LnG) : LnG := if qe (fgA b n (yg y) (ys y)).1 = 0 then ((fgA b n (yg y) (ys y)).1, yg y, yb y, ye y, (fgA b n (yg y) (ys y)).2, 1) else ((fgA b n (yg y) (ys y)).1, y.2)
def rLn (b : Nat → Nat) (n : Nat) (y : LnG) : LnG := if kd b n (qi (ys y)) = 0 ∧ yh y = 0 then rWh b n y else if kd b n (qi (ys y)) = 3 then rCl b n y else if kd b n (qi (ys y)) = 4 then rPu b n y else if kd b n (qi (ys y)) = 5 then rBa b n y else if kd b n (qi (ys y)) = 6 then rSa b n y else if kd b n (qi (ys y)) = 7 then rMt b n y else if kd b n (qi (ys y)) = 8 then rSe b n y else if kd b n (qi (ys y)) = 9 then rAt b n y else (fl b n 2 (ys y), y.2)
def rEn (b : Nat → Nat) (n : Nat) (y : LnG) : LnG := if qe (eat b n 25 (ys y)) = 0 then (eat b n 25 (ys y), gLn (yg y), y.2.2) else (eat b n 25 (ys y), y.2)
def rTx (b : Nat → Nat) (n : Nat) : Nat → LnG → LnG
  | 0, y => y
  | f + 1, y => if qe (ys y) = 0 ∧ ¬ kd b n (qi (ys y)) = 22 then rTx b n f (rEn b n (rLn b n y)) else y
def y00 : LnG := ((0, 0, 0, 0, fun _ => 0), g00, fun _ => 0, fun _ => 0, 0, 0)
def pv (f : Nat → Nat) : Nat → Nat
  | 0 => 0
  | c + 1 => f c
theorem pv_E (o : CdG) (c : Nat) : pvE o c = pv o.2.2.1 c := by cases c <;> rfl
theorem tot_wh {g : ShG} (h : ShW g) (h4 : ¬ sW g = 4) (f st r : Nat) : tot (gWh g f st r) = tot g * f := by
  have h1 := h.1; have h3 := h.2.2.1
  unfold tot
  show va_up (sF g) (sW g) f 0 * (va_up (sF g) (sW g) f 1 * (va_up (sF g) (sW g) f 2 * va_up (sF g) (sW g) f 3)) = _
  have a3 := (h3 3 (by omega)).1
  rcases (show sW g = 0 ∨ sW g = 1 ∨ sW g = 2 ∨ sW g = 3 by omega) with e | e | e | e
  · have a0 := (h3 0 (by omega)).1; have a1 := (h3 1 (by omega)).1; have a2 := (h3 2 (by omega)).1
    rw [e, va_up_s, va_up_n (show 1 ≠ 0 by decide), va_up_n (show 2 ≠ 0 by decide), va_up_n (show 3 ≠ 0 by decide), a0, a1, a2, a3]
    simp only [Nat.mul_one, Nat.one_mul]
  · have a1 := (h3 1 (by omega)).1; have a2 := (h3 2 (by omega)).1
    rw [e, va_up_s, va_up_n (show 0 ≠ 1 by decide), va_up_n (show 2 ≠ 1 by decide), va_up_n (show 3 ≠ 1 by decide), a1, a2, a3]
    simp only [Nat.mul_one, Nat.one_mul]
  · have a2 := (h3 2 (by omega)).1
    rw [e, va_up_s, va_up_n (show 0 ≠ 2 by decide), va_up_n (show 1 ≠ 2 by decide), va_up_n (show 3 ≠ 2 by decide), a2, a3]
    simp only [Nat.mul_one, Nat.one_mul, Nat.mul_assoc]
  · rw [e, va_up_s, va_up_n (show 0 ≠ 3 by decide), va_up_n (show 1 ≠ 3 by decide), va_up_n (show 2 ≠ 3 by decide), a3]
    simp only [Nat.mul_one, Nat.one_mul, Nat.mul_assoc]
theorem wf_wh {g : ShG} (h : ShW g) (hw4 : ¬ sW g = 4) (ho : sO g = none) {f st r : Nat} (hf : 2 ≤ f ∧ f ≤ 10) (hs : 1 ≤ st ∧ st ≤ 9) (hr : r ≤ 1) : ShW (gWh g f st r) := by
  obtain ⟨h1, h2, h3, h4, h5, h6, h7, h8, h9, h10, h11, h12, h13, h14⟩ := h
  refine ⟨by show sW g + 1 ≤ 4; omega, fun w hw => ?_, fun w hw => ?_, h4, h5, h6, h7, h8, h9, h10, h11, fun n z => ?_, h13, h14⟩
  · have hw : w < sW g + 1 := hw
    show 2 ≤ va_up (sF g) (sW g) f w ∧ va_up (sF g) (sW g) f w ≤ 10 ∧ 1 ≤ va_up (sS g) (sW g) st w ∧ va_up (sS g) (sW g) st w ≤ 9 ∧ va_up (sR g) (sW g) r w ≤ 1
    rcases Nat.lt_or_ge w (sW g) with z | z
    · rw [va_up_n (by omega), va_up_n (by omega), va_up_n (by omega)]; exact h2 w z
    · have e : w = sW g := by omega
      subst e
      rw [va_up_s, va_up_s, va_up_s]; exact ⟨hf.1, hf.2, hs.1, hs.2, hr⟩
  · have hw : sW g + 1 ≤ w := hw
    show va_up (sF g) (sW g) f w = 1 ∧ va_up (sS g) (sW g) st w = 1 ∧ va_up (sR g) (sW g) r w = 0
    rw [va_up_n (by omega), va_up_n (by omega), va_up_n (by omega)]; exact h3 w (by omega)
  · have z : sO g = some n := z
    rw [ho] at z; cases z
theorem wf_cl {g : ShG} (h : ShW g) (hc8 : ¬ sC g = 8) {t : Nat} (ht : t ≤ 10) : ShW (gCl g t) := by
  obtain ⟨h1, h2, h3, h4, h5, h6, h7, h8, h9, h10, h11, h12, h13, h14⟩ := h
  have hp : 2 ^ sC g ≤ 2 ^ (sC g + 1) := Nat.pow_le_pow_right (by decide) (by omega)
  refine ⟨h1, h2, h3, by show sC g + 1 ≤ 8; omega, fun c => ?_, h6, fun m => Nat.lt_of_lt_of_le (h7 m) hp, h8, h9, h10, h11, h12, h13, fun m => Nat.lt_of_lt_of_le (h14 m) hp⟩
  show va_up (sT g) (sC g) t c ≤ 10
  by_cases e : c = sC g
  · rw [e, va_up_s]; exact ht
  · rw [va_up_n e]; exact h5 c
theorem wf_mt {g : ShG} (h : ShW g) (hm4 : ¬ sM g = 4) {k : Nat} (hk : k < 2 ^ sC g) : ShW (gMt g k) := by
  obtain ⟨h1, h2, h3, h4, h5, h6, h7, h8, h9, h10, h11, h12, h13, h14⟩ := h
  refine ⟨h1, h2, h3, h4, h5, by show sM g + 1 ≤ 4; omega, fun m => ?_, h8, h9, h10, h11, h12, h13, h14⟩
  show va_up (sK g) (sM g) k m < 2 ^ sC g
  by_cases e : m = sM g
  · rw [e, va_up_s]; exact hk
  · rw [va_up_n e]; exact h7 m
theorem wf_pu {g : ShG} (h : ShW g) {x : Nat} (hx : 1 ≤ x ∧ x ≤ 60) : ShW (gPu g x) := by
  obtain ⟨h1, h2, h3, h4, h5, h6, h7, h8, h9, h10, h11, h12, h13, h14⟩ := h
  exact ⟨h1, h2, h3, h4, h5, h6, h7, hx, h9, h10, h11, h12, h13, h14⟩
theorem wf_ba {g : ShG} (h : ShW g) {x z : Nat} (hx : x ≤ 9) (hz : z ≤ 999) : ShW (gBa g x z) := by
  obtain ⟨h1, h2, h3, h4, h5, h6, h7, h8, h9, h10, h11, h12, h13, h14⟩ := h
  exact ⟨h1, h2, h3, h4, h5, h6, h7, h8, hx, hz, h11, h12, h13, h14⟩
theorem wf_sa {g : ShG} (h : ShW g) {x : Nat} (hx : x ≤ 999) : ShW (gSa g x) := by
  obtain ⟨h1, h2, h3, h4, h5, h6, h7, h8, h9, h10, h11, h12, h13, h14⟩ := h
  exact ⟨h1, h2, h3, h4, h5, h6, h7, h8, h9, h10, hx, h12, h13, h14⟩
theorem wf_se {g : ShG} (h : ShW g) {x : Nat} (hx : x < tot g) : ShW (gSe g x) := by
  obtain ⟨h1, h2, h3, h4, h5, h6, h7, h8, h9, h10, h11, h12, h13, h14⟩ := h
  exact ⟨h1, h2, h3, h4, h5, h6, h7, h8, h9, h10, h11, (fun n z => by have z : some x = some n := z; cases z; exact hx), h13, h14⟩
theorem wf_ln {g : ShG} (h : ShW g) (hx : sL g + 1 ≤ 900) : ShW (gLn g) := by
  obtain ⟨h1, h2, h3, h4, h5, h6, h7, h8, h9, h10, h11, h12, h13, h14⟩ := h
  exact ⟨h1, h2, h3, h4, h5, h6, h7, h8, h9, h10, h11, h12, hx, h14⟩
theorem wf_ho {g : ShG} (h : ShW g) {f : Nat → Nat} (hf : ∀ n, f n < 2 ^ sC g) : ShW (gHo g f) := by
  obtain ⟨h1, h2, h3, h4, h5, h6, h7, h8, h9, h10, h11, h12, h13, h14⟩ := h
  exact ⟨h1, h2, h3, h4, h5, h6, h7, h8, h9, h10, h11, h12, h13, hf⟩
theorem qn_fl (b : Nat → Nat) (n w : Nat) (s : PsG) : qn (fl b n w s) = qn s ∧ qc (fl b n w s) = qc s := by unfold fl; split <;> exact ⟨rfl, rfl⟩
theorem qn_tkn (b : Nat → Nat) (n lo hh : Nat) (s : PsG) : qn (tkn b n lo hh s) = qn s ∧ qc (tkn b n lo hh s) = qc s := by
  unfold tkn
  split
  · split
    · exact ⟨rfl, rfl⟩
    · exact qn_fl b n 3 s
  · exact qn_fl b n 2 s
theorem qn_eat (b : Nat → Nat) (n k : Nat) (s : PsG) : qn (eat b n k s) = qn s ∧ qc (eat b n k s) = qc s := by
  unfold eat
  split
  · exact ⟨rfl, rfl⟩
  · exact qn_fl b n 2 s
/-- s2 comes behind s, no codes were told -/
def Af (b : Nat → Nat) (n : Nat) (s s2 : PsG) : Prop := IV b n 0 s2 ∧ qi s ≤ qi s2 ∧ (qe s2 = 0 → qe s = 0 ∧ qn s2 = qn s ∧ qc s2 = qc s)
theorem Af.tr {b : Nat → Nat} {n : Nat} {s s1 s2 : PsG} (h : Af b n s s1) (h2 : Af b n s1 s2) : Af b n s s2 := ⟨h2.1, Nat.le_trans h.2.1 h2.2.1, fun e => by
  obtain ⟨e1, e2, e3⟩ := h2.2.2 e
  obtain ⟨f1, f2, f3⟩ := h.2.2 e1
  exact ⟨f1, e2.trans f2, e3.trans f3⟩⟩
theorem af_rfl {b : Nat → Nat} {n : Nat} {s : PsG} (h : IV b n 0 s) : Af b n s s := ⟨h, Nat.le_refl _, fun e => ⟨e, rfl, rfl⟩⟩
theorem af_nx {b : Nat → Nat} {n : Nat} {s : PsG} (h : IV b n 0 s) (hk : ¬ kd b n (qi s) = 22) : Af b n s (nx s) := ⟨(iv_nx h hk).le (by omega), Nat.le_succ _, fun e => ⟨e, rfl, rfl⟩⟩
theorem af_tkn {b : Nat → Nat} {n lo hh : Nat} {s : PsG} (h : IV b n 0 s) : Af b n s (tkn b n lo hh s) := by
  have h1 := iv_tkn (lo := lo) (hh := hh) h
  exact ⟨h1.1.le (by omega), h1.2, fun e => ⟨(tkn_e e).2.1, (qn_tkn b n lo hh s).1, (qn_tkn b n lo hh s).2⟩⟩
theorem af_eat {b : Nat → Nat} {n k : Nat} {s : PsG} (h : IV b n 0 s) (hk : ¬ k = 22) : Af b n s (eat b n k s) := by
  have h1 := iv_eat (k := k) h hk
  exact ⟨h1.1.le (by omega), h1.2, fun e => ⟨(eat_e e).2, (qn_eat b n k s).1, (qn_eat b n k s).2⟩⟩
theorem af_fl {b : Nat → Nat} {n w : Nat} {s : PsG} (h : IV b n 0 s) (hw : ¬ w = 0) : Af b n s (fl b n w s) := ⟨iv_fl h, by rw [qi_fl]; exact Nat.le_refl _, fun e => absurd e (fl_ne hw)⟩
theorem af_wh {b : Nat → Nat} {n : Nat} {s : PsG} (h : IV b n 0 s) (hk : ¬ kd b n (qi s) = 22) : Af b n s (wh3 b n s) := by
  have h1 := (af_nx h hk).tr (af_tkn (lo := 2) (hh := 11) (af_nx h hk).1)
  have h2 : Af b n (whA b n s) (whB b n (whA b n s)) := by
    unfold whB
    split
    · rename_i z
      have z := isK_e z
      have q := af_nx h1.1 (show ¬ kd b n (qi (whA b n s)) = 22 by omega)
      exact q.tr (af_tkn q.1)
    · exact af_rfl h1.1
  have h3 := h1.tr h2
  refine h3.tr ?_
  show Af b n _ (whC b n _)
  unfold whC
  split
  · rename_i z
    have z := isK_e z
    exact af_nx h3.1 (by omega)
  · exact af_rfl h3.1
theorem af_mt {b : Nat → Nat} {n C : Nat} : ∀ f s k, IV b n 0 s → k < 2 ^ C → Af b n s (mtL b n C f s k).1 ∧ (mtL b n C f s k).2 < 2 ^ C
  | 0, s, k, h, hk => ⟨af_rfl h, hk⟩
  | f + 1, s, k, h, hk => by
    rw [mtL]
    split
    · split
      · rename_i z
        have e := tkn_e z
        have h1 := af_tkn (lo := 0) (hh := C) h
        have h2 := af_mt (C := C) f (tkn b n 0 C s) (k ||| 2 ^ vl b n (qi s)) h1.1 (Nat.or_lt_two_pow hk (Nat.pow_lt_pow_right (by decide) e.2.2.2.2))
        exact ⟨h1.tr h2.1, h2.2⟩
      · exact ⟨af_tkn h, hk⟩
    · exact ⟨af_rfl h, hk⟩
def pwF (F : Nat → Nat) : Nat → Nat
  | 0 => 1
  | w + 1 => pwF F w * F w
theorem pw_tot {g : ShG} (h : ShW g) : pwF (sF g) (sW g) = tot g := by
  have h1 := h.1; have h3 := h.2.2.1
  unfold tot
  rcases (show sW g = 0 ∨ sW g = 1 ∨ sW g = 2 ∨ sW g = 3 ∨ sW g = 4 by omega) with e | e | e | e | e
  · rw [(h3 0 (by omega)).1, (h3 1 (by omega)).1, (h3 2 (by omega)).1, (h3 3 (by omega)).1, e]; rfl
  · rw [(h3 1 (by omega)).1, (h3 2 (by omega)).1, (h3 3 (by omega)).1, e]; simp only [pwF, Nat.mul_one, Nat.one_mul]
  · rw [(h3 2 (by omega)).1, (h3 3 (by omega)).1, e]; simp only [pwF, Nat.mul_one, Nat.one_mul]
  · rw [(h3 3 (by omega)).1, e]; simp only [pwF, Nat.mul_one, Nat.one_mul, Nat.mul_assoc]
  · rw [e]; simp only [pwF, Nat.mul_one, Nat.one_mul, Nat.mul_assoc]
theorem af_fg {b : Nat → Nat} {n : Nat} {F : Nat → Nat} {s : PsG} (h : IV b n 0 s) : ∀ w, Af b n s (fgL b n F w s).1 ∧ (qe (fgL b n F w s).1 = 0 → (fgL b n F w s).2 < pwF F w)
  | 0 => ⟨af_rfl h, fun _ => Nat.zero_lt_one⟩
  | w + 1 => by
    have h1 := af_fg (F := F) h w
    refine ⟨h1.1.tr (af_tkn h1.1.1), fun e => ?_⟩
    have e := tkn_e (show qe (tkn b n 0 (F w) (fgL b n F w s).1) = 0 from e)
    have h2 := h1.2 e.2.1
    have h3 := Nat.mul_le_mul_right (F w) (show (fgL b n F w s).2 + 1 ≤ pwF F w from h2)
    rw [Nat.add_mul, Nat.one_mul] at h3
    have h4 := e.2.2.2.2
    show (fgL b n F w s).2 * F w + vl b n (qi (fgL b n F w s).1) < pwF F w * F w
    omega
theorem af_fgA {b : Nat → Nat} {n : Nat} {g : ShG} {s : PsG} (hg : ShW g) (h : IV b n 0 s) (hk : ¬ kd b n (qi s) = 22) : Af b n s (fgA b n g s).1 ∧ (qe (fgA b n g s).1 = 0 → (fgA b n g s).2 < tot g) := by
  have h1 := af_nx h hk
  unfold fgA
  split
  · exact ⟨h1.tr (af_tkn h1.1), fun e => absurd (tkn_e (show qe (tkn b n 0 0 (nx s)) = 0 from e)).2.2.2.2 (Nat.not_lt_zero _)⟩
  · have h2 := af_fg (F := sF g) h1.1 (sW g)
    rw [pw_tot hg] at h2
    exact ⟨h1.tr h2.1, h2.2⟩
/-- a state of reading as it must be -/
def YW (b : Nat → Nat) (n : Nat) (y : LnG) : Prop := ShW (yg y) ∧ IV b n 0 (ys y) ∧ (ya y < tot (yg y) ∧ yh y ≤ 1 ∧ (yh y = 0 → sC (yg y) = 0 ∧ sO (yg y) = none ∧ ya y = 0)) ∧ (qe (ys y) = 0 → sL (yg y) ≤ qi (ys y) ∧ (∀ c, c < sC (yg y) → ye y c ≤ qn (ys y) ∧ yb y c = pv (ye y) c ∧ Sg (sW (yg y)) (qc (ys y)) (yb y c) (ye y c) true 18) ∧ qn (ys y) = pv (ye y) (sC (yg y)))
theorem yw_s {b : Nat → Nat} {n : Nat} {y : LnG} {s : PsG} (hw : YW b n y) (a : Af b n (ys y) s) : YW b n (s, y.2) := by
  obtain ⟨h1, h2, h3, h4⟩ := hw
  refine ⟨h1, a.1, h3, fun e => ?_⟩
  obtain ⟨a1, a2, a3⟩ := a.2.2 e
  obtain ⟨k1, k2, k3⟩ := h4 a1
  refine ⟨Nat.le_trans k1 a.2.1, fun c hc => ?_, a2.trans k3⟩
  have := k2 c hc
  show ye y c ≤ qn s ∧ yb y c = pv (ye y) c ∧ Sg (sW (yg y)) (qc s) (yb y c) (ye y c) true 18
  rw [a2, a3]; exact this
theorem yw_g {b : Nat → Nat} {n : Nat} {s : PsG} {g g2 : ShG} {st en : Nat → Nat} {a ah a2 ah2 : Nat} (hw : YW b n (s, g, st, en, a, ah)) (h : ShW g2) (e1 : sW g2 = sW g) (e2 : sC g2 = sC g) (e3 : a2 < tot g2) (e4 : ah2 ≤ 1) (e5 : ah2 = 0 → ah = 0 ∧ sO g2 = sO g ∧ a2 = a) (e6 : qe s = 0 → sL g2 ≤ qi s) : YW b n (s, g2, st, en, a2, ah2) := by
  obtain ⟨h1, h2, ⟨h3, h4, h5⟩, h6⟩ := hw
  refine ⟨h, h2, ⟨e3, e4, fun z => ?_⟩, fun e => ?_⟩
  · obtain ⟨z1, z2, z3⟩ := e5 z
    obtain ⟨k1, k2, k3⟩ := h5 z1
    exact ⟨e2.trans k1, z2.trans k2, z3.trans k3⟩
  · obtain ⟨k1, k2, k3⟩ := h6 e
    refine ⟨e6 e, fun c hc => ?_, ?_⟩
    · have hc : c < sC g2 := hc
      rw [e2] at hc
      have := k2 c hc
      show en c ≤ qn s ∧ st c = pv en c ∧ Sg (sW g2) (qc s) (st c) (en c) true 18
      rw [e1]; exact this
    · show qn s = pv en (sC g2)
      rw [e2]; exact k3
theorem yw_sl {b : Nat → Nat} {n : Nat} {y : LnG} (hw : YW b n y) (e : qe (ys y) = 0) : sL (yg y) ≤ qi (ys y) := (hw.2.2.2 e).1
theorem yw_wh {b : Nat → Nat} {n : Nat} {y : LnG} (hw : YW b n y) (hk : ¬ kd b n (qi (ys y)) = 22) (hh : yh y = 0) : YW b n (rWh b n y) ∧ qi (ys y) ≤ qi (ys (rWh b n y)) := by
  have a3 := af_wh hw.2.1 hk
  unfold rWh
  split
  · have a := af_fl (w := 4) hw.2.1 (by decide)
    exact ⟨yw_s hw a, a.2.1⟩
  · rename_i h4
    split
    · rename_i e
      refine ⟨?_, a3.2.1⟩
      obtain ⟨hc0, ho0, ha0⟩ := hw.2.2.1.2.2 hh
      have e3 : qe (whB b n (whA b n (ys y))) = 0 := by
        have e : qe (whC b n (whB b n (whA b n (ys y)))) = 0 := e
        unfold whC at e
        split at e
        · exact e
        · exact e
      have e2 : qe (whA b n (ys y)) = 0 ∧ 1 ≤ whV b n (whA b n (ys y)) ∧ whV b n (whA b n (ys y)) ≤ 9 := by
        unfold whB at e3
        unfold whV
        split at e3
        · rename_i z
          have q := tkn_e e3
          rw [if_pos z]
          exact ⟨q.2.1, q.2.2.2.1, by have := q.2.2.2.2; rw [qi_nx] at this; omega⟩
        · rename_i z
          rw [if_neg z]
          exact ⟨e3, by omega, by omega⟩
      have e1 := tkn_e (show qe (tkn b n 2 11 (nx (ys y))) = 0 from e2.1)
      have hv := e1.2.2.2
      rw [qi_nx] at hv
      have hr : whR b n (whB b n (whA b n (ys y))) ≤ 1 := by unfold whR; split <;> omega
      have hg := wf_wh hw.1 h4 ho0 (f := vl b n (qi (ys y) + 1)) ⟨hv.1, by omega⟩ e2.2 hr
      have s0 := (a3.2.2 e).1
      have k4 := hw.2.2.2 s0
      refine ⟨hg, a3.1, ⟨?_, hw.2.2.1.2.1, fun _ => ⟨hc0, ho0, ha0⟩⟩, fun _ => ⟨Nat.le_trans k4.1 a3.2.1, fun c hc => ?_, ?_⟩⟩
      · show ya y < _
        rw [ha0]; exact (tot_b hg).1
      · have hc : c < sC (yg y) := hc
        omega
      · exact (a3.2.2 e).2.1.trans k4.2.2
    · exact ⟨yw_s hw a3, a3.2.1⟩
theorem yw_cl {b : Nat → Nat} {n : Nat} {y : LnG} (hw : YW b n y) (hk : ¬ kd b n (qi (ys y)) = 22) : YW b n (rCl b n y) ∧ qi (ys y) ≤ qi (ys (rCl b n y)) := by
  have a0 := af_nx hw.2.1 hk
  have a1 := a0.tr (af_tkn (lo := 0) (hh := 11) a0.1)
  have a2 : Af b n (ys y) (clA b n (ys y)) := a1.tr (af_eat a1.1 (by decide))
  have g3 := gd_trL b n (sW (yg y)) 6 0 _ a2.1
  have hq : qi (ys y) ≤ qi (clB b n (yg y) (ys y)) := Nat.le_trans a2.2.1 g3.2.1
  unfold rCl
  split
  · have a := af_fl (w := 4) hw.2.1 (by decide)
    exact ⟨yw_s hw a, a.2.1⟩
  · rename_i h8
    split
    · rename_i e
      refine ⟨?_, hq⟩
      have ty := ty_trL hw.1.1 _ e
      have e2 := a2.2.2 ty.1.1
      have t0 := (eat_e (show qe (eat b n 26 (tkn b n 0 11 (nx (ys y)))) = 0 from ty.1.1)).2
      have t1 := tkn_e t0
      have ht := t1.2.2.2.2
      rw [qi_nx] at ht
      have k4 := hw.2.2.2 e2.1
      refine ⟨wf_cl hw.1 h8 (by omega), g3.1, ⟨hw.2.2.1.1, Nat.le_refl 1, fun z => absurd (show 1 = 0 from z) (by decide)⟩, fun _ => ⟨Nat.le_trans k4.1 hq, fun c hc => ?_, ?_⟩⟩
      · have hc : c < sC (yg y) + 1 := hc
        show va_up (ye y) (sC (yg y)) (qn (clB b n (yg y) (ys y))) c ≤ qn (clB b n (yg y) (ys y)) ∧ va_up (yb y) (sC (yg y)) (qn (ys y)) c = pv (va_up (ye y) (sC (yg y)) (qn (clB b n (yg y) (ys y)))) c ∧ Sg (sW (yg y)) (qc (clB b n (yg y) (ys y))) (va_up (yb y) (sC (yg y)) (qn (ys y)) c) (va_up (ye y) (sC (yg y)) (qn (clB b n (yg y) (ys y))) c) true 18
        have pvk : ∀ v, ∀ c, c ≤ sC (yg y) → pv (va_up (ye y) (sC (yg y)) v) c = pv (ye y) c := by
          intro v c hc
          cases c with
          | zero => rfl
          | succ c => exact va_up_n (by omega)
        have hqn : qn (ys y) ≤ qn (clB b n (yg y) (ys y)) := by have := ty.1.2.1; rw [e2.2.1] at this; exact this
        rcases Nat.lt_or_ge c (sC (yg y)) with z | z
        · obtain ⟨c1, c2, c3⟩ := k4.2.1 c z
          rw [va_up_n (by omega), va_up_n (by omega), pvk _ c (by omega)]
          refine ⟨Nat.le_trans c1 hqn, c2, c3.co (fun j _ hj => ?_)⟩
          have := ty.1.2.2 j (by rw [e2.2.1]; omega)
          rw [e2.2.2] at this
          exact this
        · have ec : c = sC (yg y) := by omega
          rw [ec, va_up_s, va_up_s, pvk _ _ (Nat.le_refl _)]
          refine ⟨Nat.le_refl _, k4.2.2, ?_⟩
          have := ty.2
          rw [e2.2.1] at this
          exact this
      · show qn (clB b n (yg y) (ys y)) = va_up (ye y) (sC (yg y)) (qn (clB b n (yg y) (ys y))) (sC (yg y))
        rw [va_up_s]
    · rename_i e
      refine ⟨⟨hw.1, g3.1, hw.2.2.1, fun z => absurd z e⟩, hq⟩
theorem yw_one {b : Nat → Nat} {n : Nat} {y : LnG} {s : PsG} {g2 : ShG} (hw : YW b n y) (a : Af b n (ys y) s) (h : ShW g2) (e1 : sW g2 = sW (yg y)) (e2 : sC g2 = sC (yg y)) (e3 : tot g2 = tot (yg y)) (e4 : sO g2 = sO (yg y)) (e5 : sL g2 = sL (yg y)) : YW b n (s, g2, y.2.2) := by
  have h1 := yw_s hw a
  exact yw_g (g := yg y) h1 h e1 e2 (by rw [e3]; exact h1.2.2.1.1) h1.2.2.1.2.1 (fun z => ⟨z, e4, rfl⟩) (fun e => by rw [e5]; exact yw_sl h1 e)
theorem yw_ln {b : Nat → Nat} {n : Nat} {y : LnG} (hw : YW b n y) (hk : ¬ kd b n (qi (ys y)) = 22) : YW b n (rLn b n y) ∧ qi (ys y) ≤ qi (ys (rLn b n y)) := by
  have a0 := af_nx hw.2.1 hk
  unfold rLn
  split
  · rename_i z; exact yw_wh hw hk z.2
  split
  · exact yw_cl hw hk
  split
  · have a := a0.tr (af_tkn (lo := 1) (hh := 61) a0.1)
    unfold rPu
    split
    · rename_i e
      have q := (tkn_e e).2.2.2; rw [qi_nx] at q
      exact ⟨yw_one hw a (wf_pu hw.1 ⟨q.1, by omega⟩) rfl rfl rfl rfl rfl, a.2.1⟩
    · exact ⟨yw_s hw a, a.2.1⟩
  split
  · have a1 := a0.tr (af_tkn (lo := 1) (hh := 10) a0.1)
    have a := a1.tr (af_tkn (lo := 1) (hh := 1000) a1.1)
    unfold rBa
    split
    · rename_i e
      have q := tkn_e (show qe (tkn b n 1 1000 (tkn b n 1 10 (nx (ys y)))) = 0 from e)
      have q2 := tkn_e q.2.1
      have e9 : qi (tkn b n 1 10 (nx (ys y))) = qi (ys y) + 2 := by rw [q2.1]; rfl
      have v2 := q.2.2.2; rw [e9] at v2
      have v1 := q2.2.2.2; rw [qi_nx] at v1
      exact ⟨yw_one hw a (wf_ba hw.1 (by omega) (by omega)) rfl rfl rfl rfl rfl, a.2.1⟩
    · exact ⟨yw_s hw a, a.2.1⟩
  split
  · have a := a0.tr (af_tkn (lo := 1) (hh := 1000) a0.1)
    unfold rSa
    split
    · rename_i e
      have q := (tkn_e e).2.2.2; rw [qi_nx] at q
      exact ⟨yw_one hw a (wf_sa hw.1 (by omega)) rfl rfl rfl rfl rfl, a.2.1⟩
    · exact ⟨yw_s hw a, a.2.1⟩
  split
  · have q := af_mt (C := sC (yg y)) 900 (nx (ys y)) 0 a0.1 (Nat.pow_pos (by decide))
    have a := a0.tr q.1
    unfold rMt
    split
    · have a := af_fl (w := 4) hw.2.1 (by decide)
      exact ⟨yw_s hw a, a.2.1⟩
    · rename_i h4
      split
      · exact ⟨yw_one hw a (wf_mt hw.1 h4 q.2) rfl rfl rfl rfl rfl, a.2.1⟩
      · exact ⟨yw_s hw a, a.2.1⟩
  split
  · have q := af_fgA hw.1 hw.2.1 hk
    unfold rSe
    split
    · rename_i e
      refine ⟨?_, q.1.2.1⟩
      have h1 := yw_s hw q.1
      exact yw_g (g := yg y) h1 (wf_se hw.1 (q.2 e)) rfl rfl h1.2.2.1.1 (Nat.le_refl 1) (fun z => absurd z (by decide)) (fun e => yw_sl h1 e)
    · exact ⟨yw_s hw q.1, q.1.2.1⟩
  split
  · have q := af_fgA hw.1 hw.2.1 hk
    unfold rAt
    split
    · rename_i e
      refine ⟨?_, q.1.2.1⟩
      have h1 := yw_s hw q.1
      exact yw_g (g := yg y) h1 hw.1 rfl rfl (q.2 e) (Nat.le_refl 1) (fun z => absurd z (by decide)) (fun e => yw_sl h1 e)
    · exact ⟨yw_s hw q.1, q.1.2.1⟩
  · have a := af_fl (w := 2) hw.2.1 (by decide)
    exact ⟨yw_s hw a, a.2.1⟩
theorem yw_en {b : Nat → Nat} {n : Nat} {y : LnG} (hn : n ≤ 900) (hw : YW b n y) : YW b n (rEn b n y) ∧ (qe (ys (rEn b n y)) = 0 → qi (ys y) + 1 ≤ qi (ys (rEn b n y))) := by
  have a := af_eat (k := 25) hw.2.1 (by decide)
  unfold rEn
  split
  · rename_i e
    have h1 := yw_s hw a
    have e1 := eat_e e
    have e2 : qi (eat b n 25 (ys y)) = qi (ys y) + 1 := by rw [e1.1]; rfl
    have h0 := yw_sl hw e1.2
    have h9 := iv_n a.1
    refine ⟨yw_g (g := yg y) h1 (wf_ln hw.1 (by omega)) rfl rfl h1.2.2.1.1 h1.2.2.1.2.1 (fun z => ⟨z, rfl, rfl⟩) (fun e => ?_), fun _ => ?_⟩
    · show sL (yg y) + 1 ≤ qi (eat b n 25 (ys y))
      omega
    · show qi (ys y) + 1 ≤ qi (eat b n 25 (ys y))
      omega
  · rename_i e
    exact ⟨yw_s hw a, fun z => absurd z e⟩
theorem yw_00 (b : Nat → Nat) (n : Nat) : YW b n y00 := ⟨g00_w, ⟨Nat.zero_le _, fun _ => Nat.le_refl _⟩, ⟨by show 0 < tot g00; decide, by show 0 ≤ 1; decide, fun _ => ⟨rfl, rfl, rfl⟩⟩, fun _ => ⟨by show 0 ≤ 0; decide, fun c hc => absurd (show c < 0 from hc) (Nat.not_lt_zero _), rfl⟩⟩
theorem rTx_y {b : Nat → Nat} {n f : Nat} {y : LnG} (hf : 1 ≤ f) (h1 : qe (ys y) = 0) (h2 : ¬ kd b n (qi (ys y)) = 22) : rTx b n f y = rTx b n (f - 1) (rEn b n (rLn b n y)) := by
  rcases f with _ | f
  · omega
  · rw [rTx, if_pos ⟨h1, h2⟩]; rfl
theorem rTx_n {b : Nat → Nat} {n f : Nat} {y : LnG} (h : ¬ (qe (ys y) = 0 ∧ ¬ kd b n (qi (ys y)) = 22)) : rTx b n f y = y := by
  rcases f with _ | f
  · rfl
  · rw [rTx, if_neg h]
