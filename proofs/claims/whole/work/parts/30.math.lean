/-! What a shed and a lock ARE, as numbers. -/
/-- wheels, figures, stiffness, round, clues, tenths, mates, what they know, pull, bar after, bar seconds, saw, what opens, lines, which clues hold -/
abbrev ShG : Type := Nat × (Nat → Nat) × (Nat → Nat) × (Nat → Nat) × Nat × (Nat → Nat) × Nat × (Nat → Nat) × Nat × Nat × Nat × Nat × Option Nat × Nat × (Nat → Nat)
def sW (g : ShG) : Nat := g.1
def sF (g : ShG) : Nat → Nat := g.2.1
def sS (g : ShG) : Nat → Nat := g.2.2.1
def sR (g : ShG) : Nat → Nat := g.2.2.2.1
def sC (g : ShG) : Nat := g.2.2.2.2.1
def sT (g : ShG) : Nat → Nat := g.2.2.2.2.2.1
def sM (g : ShG) : Nat := g.2.2.2.2.2.2.1
def sK (g : ShG) : Nat → Nat := g.2.2.2.2.2.2.2.1
def sP (g : ShG) : Nat := g.2.2.2.2.2.2.2.2.1
def sBA (g : ShG) : Nat := g.2.2.2.2.2.2.2.2.2.1
def sBS (g : ShG) : Nat := g.2.2.2.2.2.2.2.2.2.2.1
def sSw (g : ShG) : Nat := g.2.2.2.2.2.2.2.2.2.2.2.1
def sO (g : ShG) : Option Nat := g.2.2.2.2.2.2.2.2.2.2.2.2.1
def sL (g : ShG) : Nat := g.2.2.2.2.2.2.2.2.2.2.2.2.2.1
def sH (g : ShG) : Nat → Nat := g.2.2.2.2.2.2.2.2.2.2.2.2.2.2
/-- how many numbers there are; what a figure of a wheel is worth -/
def tot (g : ShG) : Nat := sF g 0 * (sF g 1 * (sF g 2 * sF g 3))
def wor (g : ShG) (w : Nat) : Nat := match w with
  | 0 => sF g 1 * (sF g 2 * sF g 3)
  | 1 => sF g 2 * sF g 3
  | 2 => sF g 3
  | _ => 1
def fgo (g : ShG) (n w : Nat) : Nat := n / wor g w % sF g w
def absd (a b : Nat) : Nat := (a - b) + (b - a)
/-- the steps of a wheel from one figure to another -/
def stw (g : ShG) (w a b : Nat) : Nat := if sR g w = 1 then min (absd a b) (sF g w - absd a b) else absd a b
def tnw (g : ShG) (w a b : Nat) : Nat := stw g w a b * sS g w
def sumN (f : Nat → Nat) : Nat → Nat
  | 0 => 0
  | n + 1 => sumN f n + f n
def cntN (p : Nat → Bool) : Nat → Nat
  | 0 => 0
  | n + 1 => cntN p n + (if p n then 1 else 0)
def trn (g : ShG) (a b : Nat) : Nat := sumN (fun w => tnw g w (fgo g a w) (fgo g b w)) (sW g)
/-- a shed as it must be -/
def ShW (g : ShG) : Prop := sW g ≤ 4 ∧ (∀ w, w < sW g → 2 ≤ sF g w ∧ sF g w ≤ 10 ∧ 1 ≤ sS g w ∧ sS g w ≤ 9 ∧ sR g w ≤ 1) ∧ (∀ w, sW g ≤ w → sF g w = 1 ∧ sS g w = 1 ∧ sR g w = 0) ∧ sC g ≤ 8 ∧ (∀ c, sT g c ≤ 10) ∧ sM g ≤ 4 ∧ (∀ m, sK g m < 2 ^ sC g) ∧ (1 ≤ sP g ∧ sP g ≤ 60) ∧ sBA g ≤ 9 ∧ sBS g ≤ 999 ∧ sSw g ≤ 999 ∧ (∀ n, sO g = some n → n < tot g) ∧ sL g ≤ 900 ∧ ∀ n, sH g n < 2 ^ sC g
theorem sF_b {g : ShG} (h : ShW g) (w : Nat) : 1 ≤ sF g w ∧ sF g w ≤ 10 := by
  by_cases hw : w < sW g
  · have := h.2.1 w hw; omega
  · have := h.2.2.1 w (by omega); omega
theorem sS_b {g : ShG} (h : ShW g) (w : Nat) : 1 ≤ sS g w ∧ sS g w ≤ 9 := by
  by_cases hw : w < sW g
  · have := h.2.1 w hw; omega
  · have := h.2.2.1 w (by omega); omega
theorem sR_b {g : ShG} (h : ShW g) (w : Nat) : sR g w ≤ 1 := by
  by_cases hw : w < sW g
  · have := h.2.1 w hw; omega
  · have := h.2.2.1 w (by omega); omega
theorem mul_b {a b x y : Nat} (ha : 1 ≤ a ∧ a ≤ x) (hb : 1 ≤ b ∧ b ≤ y) : 1 ≤ a * b ∧ a * b ≤ x * y := ⟨Nat.mul_pos ha.1 hb.1, Nat.mul_le_mul ha.2 hb.2⟩
theorem wor_b {g : ShG} (h : ShW g) (w : Nat) : 1 ≤ wor g w ∧ wor g w ≤ 1000 := by
  have h1 := sF_b h 1
  have h2 := sF_b h 2
  have h3 := sF_b h 3
  have a := mul_b h2 h3
  have b := mul_b h1 a
  unfold wor
  split <;> omega
theorem tot_b {g : ShG} (h : ShW g) : 1 ≤ tot g ∧ tot g ≤ 10000 := by
  have b := mul_b (sF_b h 0) (mul_b (sF_b h 1) (mul_b (sF_b h 2) (sF_b h 3)))
  exact b
theorem fgo_lt {g : ShG} (h : ShW g) (n w : Nat) : fgo g n w < sF g w := Nat.mod_lt _ (by have := sF_b h w; omega)
theorem stw_b {g : ShG} (h : ShW g) {w a b : Nat} (ha : a < sF g w) (hb : b < sF g w) : stw g w a b ≤ 9 := by
  have := sF_b h w
  unfold stw absd
  split <;> omega
theorem tnw_b {g : ShG} (h : ShW g) {w a b : Nat} (ha : a < sF g w) (hb : b < sF g w) : tnw g w a b ≤ 81 := by
  have h1 := stw_b h ha hb
  have h2 := sS_b h w
  exact Nat.mul_le_mul h1 h2.2
theorem sumN_le {f : Nat → Nat} {c : Nat} : ∀ n, (∀ k, k < n → f k ≤ c) → sumN f n ≤ n * c
  | 0, _ => by simp [sumN]
  | n + 1, h => by
    have h1 := sumN_le n (fun k hk => h k (by omega))
    have h2 := h n (by omega)
    rw [sumN, Nat.succ_mul]
    omega
theorem trn_b {g : ShG} (h : ShW g) (a b : Nat) : trn g a b ≤ 324 := by
  have h1 : trn g a b ≤ sW g * 81 := sumN_le _ (fun k _ => tnw_b h (fgo_lt h _ _) (fgo_lt h _ _))
  have h2 := h.1
  omega
theorem cntN_le (p : Nat → Bool) : ∀ n, cntN p n ≤ n
  | 0 => Nat.le_refl _
  | n + 1 => by
    have := cntN_le p n
    rw [cntN]
    split <;> omega
/-- an option as an int -/
def oI : Option Nat → Int32
  | none => -1
  | some n => nI n
/-- the bit c of m -/
def btn (m c : Nat) : Nat := m / 2 ^ c % 2
theorem btn_le (m c : Nat) : btn m c ≤ 1 := by unfold btn; omega
/-- the weight by the clues kn, of which those of m hold: of the first c clues -/
def wtf (g : ShG) (kn m c : Nat) : Nat := if btn kn c = 1 then (if btn m c = 1 then sT g c else 10 - sT g c) else 1
def wt (g : ShG) (kn m : Nat) : Nat → Nat
  | 0 => 1
  | c + 1 => wt g kn m c * wtf g kn m c
def evr (g : ShG) : Nat := 2 ^ sC g - 1
def wtK (g : ShG) (kn m : Nat) : Nat := wt g kn m (sC g)
def wtA (g : ShG) (m : Nat) : Nat := wtK g (evr g) m
theorem wtf_b {g : ShG} (h : ShW g) (kn m c : Nat) : wtf g kn m c ≤ 10 := by
  have := h.2.2.2.2.1 c
  unfold wtf
  repeat' split
  all_goals omega
theorem wt_b {g : ShG} (h : ShW g) (kn m : Nat) : ∀ c, wt g kn m c ≤ 10 ^ c
  | 0 => Nat.le_refl _
  | c + 1 => by
    rw [wt, Nat.pow_succ]
    exact Nat.mul_le_mul (wt_b h kn m c) (wtf_b h kn m c)
theorem wtK_b {g : ShG} (h : ShW g) (kn m : Nat) : wtK g kn m ≤ 100000000 := by
  have h1 := wt_b h kn m (sC g)
  have h2 : 10 ^ sC g ≤ 10 ^ 8 := Nat.pow_le_pow_right (by omega) h.2.2.2.1
  unfold wtK
  omega
theorem wtA_b {g : ShG} (h : ShW g) (m : Nat) : wtA g m ≤ 100000000 := wtK_b h _ m
theorem evr_b {g : ShG} (h : ShW g) : 1 ≤ 2 ^ sC g ∧ 2 ^ sC g ≤ 256 := by
  have h2 : 2 ^ sC g ≤ 2 ^ 8 := Nat.pow_le_pow_right (by omega) h.2.2.2.1
  have h1 : 0 < 2 ^ sC g := Nat.two_pow_pos _
  omega
/-- the class's shed at the name a -/
def CS (a : Nat) (g : ShG) (h : Hp) : Prop := ShW g ∧ rI h a 0 = nI (sW g) ∧ rI h a 5 = nI (tot g) ∧ (∀ w, w < 4 → rI h (a + 1) w = nI (sF g w) ∧ rI h (a + 2) w = nI (sS g w) ∧ rI h (a + 3) w = nI (sR g w) ∧ rI h (a + 4) w = nI (wor g w)) ∧ rI h a 6 = nI (sC g) ∧ rI h a 9 = nI (sP g) ∧ rI h a 10 = nI (sBA g) ∧ rI h a 11 = nI (sBS g) ∧ rI h a 12 = nI (sSw g) ∧ rI h a 13 = nI (sM g) ∧ rI h a 15 = oI (sO g) ∧ rI h a 17 = nI (sL g) ∧ (∀ c, c < sC g → rI h (a + 5) c = nI (sT g c)) ∧ (∀ m, m < 2 ^ sC g → rI h (a + 6) m = nI (wtA g m)) ∧ ∀ m, m < sM g → rI h (a + 7) m = nI (sK g m)
/-! What was done: where the wheels stand, seconds, wrong tries, open, felt, tried. -/
abbrev LkG : Type := Nat × Int32 × Int32 × Nat × (Nat → Nat) × (Nat → Nat)
def lA (l : LkG) : Nat := l.1
def lX (l : LkG) : Int32 := l.2.1
def lG (l : LkG) : Int32 := l.2.2.1
def lO (l : LkG) : Nat := l.2.2.2.1
def lF (l : LkG) : Nat → Nat := l.2.2.2.2.1
def lT (l : LkG) : Nat → Nat := l.2.2.2.2.2
/-- the first w wheels agree with what was felt -/
def agr (g : ShG) (l : LkG) (n : Nat) : Nat → Nat
  | 0 => 1
  | w + 1 => agr g l n w * btn (lF l w) (fgo g n w)
def agA (g : ShG) (l : LkG) (n : Nat) : Nat := agr g l n (sW g)
theorem agr_le (g : ShG) (l : LkG) (n : Nat) : ∀ w, agr g l n w ≤ 1
  | 0 => Nat.le_refl _
  | w + 1 => by
    have h1 := agr_le g l n w
    have h2 := btn_le (lF l w) (fgo g n w)
    have h3 : agr g l n (w + 1) ≤ 1 * 1 := Nat.mul_le_mul h1 h2
    omega
def nol (g : ShG) (n : Nat) : Nat := if wtA g (sH g n) = 0 then 1 else 0
def cel (g : ShG) (l : LkG) (n : Nat) : Nat := sH g n + 256 * lT l n + 512 * (1 - agA g l n) + 1024 * nol g n
def LkW (g : ShG) (l : LkG) : Prop := lA l < tot g ∧ lO l ≤ 1 ∧ (∀ n, lT l n ≤ 1) ∧ ∀ w, lF l w < 1024
def lft (g : ShG) (l : LkG) (n : Nat) : Bool := decide (cel g l n < 256)
/-- the class's lock at the name a -/
def CL (a : Nat) (g : ShG) (l : LkG) (h : Hp) : Prop := LkW g l ∧ rI h a 1 = nI (tot g) ∧ rI h a 3 = nI (lA l) ∧ rI h a 4 = lX l ∧ rI h a 5 = lG l ∧ rI h a 7 = nI (lO l) ∧ rI h a 6 = nI (cntN (fun n => lT l n == 1) (tot g)) ∧ tot g ≤ al h (a + 1) ∧ al h (a + 1) < 2 ^ 31 ∧ (∀ n, n < tot g → rI h (a + 1) n = nI (cel g l n)) ∧ ∀ w, w < sW g → rI h (a + 2) w = nI (lF l w % 2 ^ sF g w)
theorem sH_b {g : ShG} (h : ShW g) (n : Nat) : sH g n < 256 := Nat.lt_of_lt_of_le (h.2.2.2.2.2.2.2.2.2.2.2.2.2 n) (evr_b h).2
theorem nol_le (g : ShG) (n : Nat) : nol g n ≤ 1 := by unfold nol; split <;> omega
theorem cel_b {g : ShG} {l : LkG} (h : ShW g) (hl : LkW g l) (n : Nat) : cel g l n < 2048 := by
  have h1 := sH_b h n
  have h2 := hl.2.2.1 n
  have h3 := nol_le g n
  unfold cel
  omega
theorem cel_low {g : ShG} {l : LkG} (h : ShW g) (n : Nat) : cel g l n % 256 = sH g n := by
  have h1 := sH_b h n
  unfold cel
  omega
theorem cel_tri {g : ShG} {l : LkG} (h : ShW g) (hl : LkW g l) (n : Nat) : cel g l n / 256 % 2 = lT l n := by
  have h1 := sH_b h n
  have h2 := hl.2.2.1 n
  unfold cel
  omega
