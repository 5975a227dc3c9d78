/-! The class's grid of ways. -/
/-- the row 86 grows -/
theorem grow86 {h : Hp} {m : Nat} (hm : m = 26569) (w : WF h) (hl : rL h 86 < m) : Gq scC h (adp (nwH h 99 m) 86) ∧ rL (adp (nwH h 99 m) 86) 86 = m := by
  have eL : rL (adp (nwH h 99 m) 86) = va_up (va_up (rL h) 99 m) 86 m := by
    show va_up (va_up h.2.2.1 99 m) 86 (va_up h.2.2.1 99 m 99) = _
    rw [up_eq]; rfl
  have eD : rD (adp (nwH h 99 m) 86) = rD h := by
    funext b
    show va_up (va_up h.2.2.2.2.1 99 true) 99 false b = h.2.2.2.2.1 b
    by_cases e : b = 99
    · subst e; rw [up_eq]; exact w.1.symm
    · rw [up_ne e, up_ne e]
  have l1 : rL (adp (nwH h 99 m) 86) 86 = m := by rw [eL, up_eq]
  have lo : ∀ a, a ≠ 86 → a ≠ 99 → rL (adp (nwH h 99 m) 86) a = rL h a := fun a h1 h2 => by rw [eL, up_ne h1, up_ne h2]
  have hN : ∀ a k, ¬ a = 99 → rN (adp (nwH h 99 m) 86) a k = rN h a k := fun a k e => congrFun (up_ne (f := rN h) (a := 99) e) k
  refine ⟨⟨fun a i e => ⟨?_, ?_⟩, ⟨hN, eD⟩, fun a e => ?_, fun _ => ⟨?_, fun y => ?_, fun a k e => ?_⟩, ?_, ?_⟩, l1⟩
  · show va_up (va_up h.1 99 (fun _ => 0)) 86 (va_up h.1 99 (fun _ => 0) 99) a i = h.1 a i
    rw [up_ne (fun q => by rw [q] at e; exact Bool.noConfusion e), up_ne (fun q => by rw [q] at e; exact Bool.noConfusion e)]
  · show va_up h.2.1 99 (fun _ => 0) a i = h.2.1 a i
    rw [up_ne (fun q => by rw [q] at e; exact Bool.noConfusion e)]
  · exact lo a (fun q => by rw [q] at e; exact Bool.noConfusion e) (fun q => by rw [q] at e; exact Bool.noConfusion e)
  · rw [eD]; exact w.1
  · by_cases q : y = 86
    · rw [q, l1]; omega
    · by_cases q2 : y = 99
      · rw [eL, up_ne q, q2, up_eq]; omega
      · rw [lo y q q2]; exact w.2.1 y
  · rw [hN a k (fun q => by rw [q] at e; exact absurd e (by show ¬ false = true; decide))]
    exact w.2.2 a k e
  · have c1 : rC (adp (nwH h 99 m) 86) = rC h + 1 := rfl
    have w1 : wyC m + 1 ≤ wyC (rL h 86) := by unfold wyC; rw [if_neg (by omega), if_pos (by omega)]; omega
    unfold ptC
    rw [eD, l1, lo 40 (by decide) (by decide), lo 72 (by decide) (by decide), lo 98 (by decide) (by decide), lo 117 (by decide) (by decide), lo 120 (by decide) (by decide), c1]
    omega
  · have c1 : rS (adp (nwH h 99 m) 86) = rS h + m := rfl
    have w1 : wyS m + m ≤ wyS (rL h 86) := by unfold wyS; rw [if_neg (by omega), if_pos (by omega)]; omega
    unfold ptS
    rw [eD, l1, lo 40 (by decide) (by decide), lo 72 (by decide) (by decide), lo 98 (by decide) (by decide), lo 117 (by decide) (by decide), lo 120 (by decide) (by decide), c1]
    omega
/-- ways of the upper half: a full rows, then the first b of the next -/
def wyF (g : ShG) (sa a b x y : Nat) : Nat := sumN (fun a => if t2 g 0 sa a = x then cntN (fun b => decide (t2 g 0 a b = y)) (upp g) else 0) a + (if t2 g 0 sa a = x then cntN (fun b => decide (t2 g 0 a b = y)) b else 0)
theorem wy_0 (g : ShG) (sa x y : Nat) : wyF g sa 0 0 x y = 0 := by unfold wyF; split <;> rfl
theorem wy_hit {g : ShG} {sa a b : Nat} : wyF g sa a b (t2 g 0 sa a) (t2 g 0 a b) + 1 = wyF g sa a (b + 1) (t2 g 0 sa a) (t2 g 0 a b) := by
  unfold wyF
  rw [if_pos rfl, if_pos rfl, ← cn_y (p := fun b2 => decide (t2 g 0 a b2 = t2 g 0 a b)) rfl (decide_eq_true rfl)]
  omega
theorem wy_miss {g : ShG} {sa a b x y : Nat} (h : ¬ (x = t2 g 0 sa a ∧ y = t2 g 0 a b)) : wyF g sa a (b + 1) x y = wyF g sa a b x y := by
  unfold wyF
  by_cases e : t2 g 0 sa a = x
  · rw [if_pos e, if_pos e, ← cn_n (p := fun b2 => decide (t2 g 0 a b2 = y)) rfl (decide_eq_false (fun q => h ⟨e.symm, q.symm⟩))]
  · rw [if_neg e, if_neg e]
theorem wy_row {g : ShG} {sa a x y : Nat} : wyF g sa a (upp g) x y = wyF g sa (a + 1) 0 x y := by
  unfold wyF
  rw [sumN]
  split <;> split <;> simp [cntN]
