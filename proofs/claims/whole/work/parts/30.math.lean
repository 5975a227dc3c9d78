/-! What a shed and a lock ARE, as numbers. -/
/-- wheels, figures, stiffness, round, clues, tenths, mates, what they know, pull, bar after, bar seconds, saw, what opens, lines, which clues hold -/
abbrev ShG : Type := Nat × (Nat → Nat) × (Nat → Nat) × (Nat → Nat) × Nat × (Nat → Nat) × Nat × (Nat → Nat) × Nat × Nat × Nat × Nat × Option Nat × Nat × (Nat → Nat)
def sW (g : ShG) : Nat := g.1
def sF (g : ShG) : Nat → Nat := g.2.1
def sS (g : ShG) : Nat → Nat := g.2.2.1
def sR (g : ShG) : Nat → Nat := g.2.2.2.1
def sC (g : ShG) : Nat := g.2.2.2.2.1
def sT (g : ShG) : Nat → Nat := g.2.2.2.2.2.1
def sM (g : ShG) : Nat := g.2.2.2.2.2.2.1
def sK (g : ShG) : Nat → Nat := g.2.2.2.2.2.2.2.1
def sP (g : ShG) : Nat := g.2.2.2.2.2.2.2.2.1
def sBA (g : ShG) : Nat := g.2.2.2.2.2.2.2.2.2.1
def sBS (g : ShG) : Nat := g.2.2.2.2.2.2.2.2.2.2.1
def sSw (g : ShG) : Nat := g.2.2.2.2.2.2.2.2.2.2.2.1
def sO (g : ShG) : Option Nat := g.2.2.2.2.2.2.2.2.2.2.2.2.1
def sL (g : ShG) : Nat := g.2.2.2.2.2.2.2.2.2.2.2.2.2.1
def sH (g : ShG) : Nat → Nat := g.2.2.2.2.2.2.2.2.2.2.2.2.2.2
/-- how many numbers there are; what a figure of a wheel is worth -/
def tot (g : ShG) : Nat := sF g 0 * (sF g 1 * (sF g 2 * sF g 3))
def wor (g : ShG) (w : Nat) : Nat := match w with
  | 0 => sF g 1 * (sF g 2 * sF g 3)
  | 1 => sF g 2 * sF g 3
  | 2 => sF g 3
  | _ => 1
def fgo (g : ShG) (n w : Nat) : Nat := n / wor g w % sF g w
def absd (a b : Nat) : Nat := (a - b) + (b - a)
/-- the steps of a wheel from one figure to another -/
def stw (g : ShG) (w a b : Nat) : Nat := if sR g w = 1 then min (absd a b) (sF g w - absd a b) else absd a b
def tnw (g : ShG) (w a b : Nat) : Nat := stw g w a b * sS g w
def sumN (f : Nat → Nat) : Nat → Nat
  | 0 => 0
  | n + 1 => sumN f n + f n
def cntN (p : Nat → Bool) : Nat → Nat
  | 0 => 0
  | n + 1 => cntN p n + (if p n then 1 else 0)
def trn (g : ShG) (a b : Nat) : Nat := sumN (fun w => tnw g w (fgo g a w) (fgo g b w)) (sW g)
/-- a shed as it must be -/
def ShW (g : ShG) : Prop := sW g ≤ 4 ∧ (∀ w, w < sW g → 2 ≤ sF g w ∧ sF g w ≤ 10 ∧ 1 ≤ sS g w ∧ sS g w ≤ 9 ∧ sR g w ≤ 1) ∧ (∀ w, sW g ≤ w → sF g w = 1 ∧ sS g w = 1 ∧ sR g w = 0) ∧ sC g ≤ 8 ∧ (∀ c, sT g c ≤ 10) ∧ sM g ≤ 4 ∧ (∀ m, sK g m < 2 ^ sC g) ∧ (1 ≤ sP g ∧ sP g ≤ 60) ∧ sBA g ≤ 9 ∧ sBS g ≤ 999 ∧ sSw g ≤ 999 ∧ (∀ n, sO g = some n → n < tot g) ∧ sL g ≤ 900 ∧ ∀ n, sH g n < 2 ^ sC g
theorem sF_b {g : ShG} (h : ShW g) (w : Nat) : 1 ≤ sF g w ∧ sF g w ≤ 10 := by
  by_cases hw : w < sW g
  · have := h.2.1 w hw; omega
  · have := h.2.2.1 w (by omega); omega
theorem sS_b {g : ShG} (h : ShW g) (w : Nat) : 1 ≤ sS g w ∧ sS g w ≤ 9 := by
  by_cases hw : w < sW g
  · have := h.2.1 w hw; omega
  · have := h.2.2.1 w (by omega); omega
theorem sR_b {g : ShG} (h : ShW g) (w : Nat) : sR g w ≤ 1 := by
  by_cases hw : w < sW g
  · have := h.2.1 w hw; omega
  · have := h.2.2.1 w (by omega); omega
theorem mul_b {a b x y : Nat} (ha : 1 ≤ a ∧ a ≤ x) (hb : 1 ≤ b ∧ b ≤ y) : 1 ≤ a * b ∧ a * b ≤ x * y := ⟨Nat.mul_pos ha.1 hb.1, Nat.mul_le_mul ha.2 hb.2⟩
theorem wor_b {g : ShG} (h : ShW g) (w : Nat) : 1 ≤ wor g w ∧ wor g w ≤ 1000 := by
  have h1 := sF_b h 1
  have h2 := sF_b h 2
  have h3 := sF_b h 3
  have a := mul_b h2 h3
  have b := mul_b h1 a
  unfold wor
  split <;> omega
theorem tot_b {g : ShG} (h : ShW g) : 1 ≤ tot g ∧ tot g ≤ 10000 := by
  have b := mul_b (sF_b h 0) (mul_b (sF_b h 1) (mul_b (sF_b h 2) (sF_b h 3)))
  exact b
theorem fgo_lt {g : ShG} (h : ShW g) (n w : Nat) : fgo g n w < sF g w := Nat.mod_lt _ (by have := sF_b h w; omega)
theorem stw_b {g : ShG} (h : ShW g) {w a b : Nat} (ha : a < sF g w) (hb : b < sF g w) : stw g w a b ≤ 9 := by
  have := sF_b h w
  unfold stw absd
  split <;> omega
theorem tnw_b {g : ShG} (h : ShW g) {w a b : Nat} (ha : a < sF g w) (hb : b < sF g w) : tnw g w a b ≤ 81 := by
  have h1 := stw_b h ha hb
  have h2 := sS_b h w
  exact Nat.mul_le_mul h1 h2.2
theorem sumN_le {f : Nat → Nat} {c : Nat} : ∀ n, (∀ k, k < n → f k ≤ c) → sumN f n ≤ n * c
  | 0, _ => by simp [sumN]
  | n + 1, h => by
    have h1 := sumN_le n (fun k hk => h k (by omega))
    have h2 := h n (by omega)
    rw [sumN, Nat.succ_mul]
    omega
theorem trn_b {g : ShG} (h : ShW g) (a b : Nat) : trn g a b ≤ 324 := by
  have h1 : trn g a b ≤ sW g * 81 := sumN_le _ (fun k _ => tnw_b h (fgo_lt h _ _) (fgo_lt h _ _))
  have h2 := h.1
  omega
theorem cntN_le (p : Nat → Bool) : ∀ n, cntN p n ≤ n
  | 0 => Nat.le_refl _
  | n + 1 => by
    have := cntN_le p n
    rw [cntN]
    split <;> omega
/-- an option as an int -/
def oI : Option Nat → Int32
  | none => -1
  | some n => nI n
/-- the class's shed at the name a -/
def CS (a : Nat) (g : ShG) (h : Hp) : Prop := ShW g ∧ rI h a 0 = nI (sW g) ∧ rI h a 5 = nI (tot g) ∧ (∀ w, w < 4 → rI h (a + 1) w = nI (sF g w) ∧ rI h (a + 2) w = nI (sS g w) ∧ rI h (a + 3) w = nI (sR g w) ∧ rI h (a + 4) w = nI (wor g w))
