/-! What stays as it was, where rows may grow. -/
def grS (n : Nat) : Nat := if n < 16 then 12320 else if n < 256 then 12304 else if n < 2048 then 12048 else if n < 10000 then 10000 else 0
def grC (n : Nat) : Nat := if n < 16 then 4 else if n < 256 then 3 else if n < 2048 then 2 else if n < 10000 then 1 else 0
def wyS (n : Nat) : Nat := if n < 26569 then 26569 else 0
def wyC (n : Nat) : Nat := if n < 26569 then 1 else 0
def imS (b : Bool) : Nat := bif b then 0 else 1000
/-- what may still be made -/
def ptS (h : Hp) : Nat := grS (rL h 40) + grS (rL h 72) + grS (rL h 98) + grS (rL h 117) + grS (rL h 120) + wyS (rL h 86) + imS (rD h 100) + imS (rD h 108)
def ptC (h : Hp) : Nat := grC (rL h 40) + grC (rL h 72) + grC (rL h 98) + grC (rL h 117) + grC (rL h 120) + wyC (rL h 86) + imS (rD h 100) + imS (rD h 108)
/-- lengths are small, all that is built is set -/
def WF (h : Hp) : Prop := rD h 99 = false ∧ (∀ z, rL h z ≤ 50000) ∧ ∀ a k, N0 a k = true → rN h a k = true
def Gq (s : Nat → Nat → Bool) (h h' : Hp) : Prop := (∀ a i, s a i = false → rI h' a i = rI h a i ∧ rJ h' a i = rJ h a i) ∧ ((∀ a k, ¬ a = 99 → rN h' a k = rN h a k) ∧ rD h' = rD h) ∧ (∀ a, s a 0 = false → rL h' a = rL h a) ∧ (WF h → WF h') ∧ rC h' + ptC h' ≤ rC h + ptC h ∧ rS h' + ptS h' ≤ rS h + ptS h
theorem Fq.gq {s : Nat → Nat → Bool} {h h' : Hp} (q : Fq s h h') : Gq s h h' := by
  have e := q.2
  have e1 : rL h' = rL h := congrArg (·.1) e
  have e2 : rN h' = rN h := congrArg (·.2.1) e
  have e3 : rD h' = rD h := congrArg (·.2.2.1) e
  have e4 : rC h' = rC h := congrArg (·.2.2.2.1) e
  have e5 : rS h' = rS h := congrArg (·.2.2.2.2) e
  refine ⟨q.1, ⟨fun a k _ => by rw [e2], e3⟩, fun a _ => by rw [e1], fun w => ?_, ?_, ?_⟩
  · unfold WF at *
    rw [e1, e2, e3]
    exact w
  · unfold ptC; rw [e1, e3, e4]; exact Nat.le_refl _
  · unfold ptS; rw [e1, e3, e5]; exact Nat.le_refl _
theorem Gq.rfl' {s : Nat → Nat → Bool} {h : Hp} : Gq s h h := Fq.rfl'.gq
theorem Gq.tr {s : Nat → Nat → Bool} {h h1 h2 : Hp} (p : Gq s h h1) (q : Gq s h1 h2) : Gq s h h2 := ⟨fun a i e => ⟨(q.1 a i e).1.trans (p.1 a i e).1, (q.1 a i e).2.trans (p.1 a i e).2⟩, ⟨fun a k e => (q.2.1.1 a k e).trans (p.2.1.1 a k e), q.2.1.2.trans p.2.1.2⟩, fun a e => (q.2.2.1 a e).trans (p.2.2.1 a e), fun w => q.2.2.2.1 (p.2.2.2.1 w), Nat.le_trans q.2.2.2.2.1 p.2.2.2.2.1, Nat.le_trans q.2.2.2.2.2 p.2.2.2.2.2⟩
theorem Gq.mono {s t : Nat → Nat → Bool} {h h1 : Hp} (q : Gq s h h1) (m : ∀ a i, t a i = false → s a i = false) : Gq t h h1 := ⟨fun a i e => q.1 a i (m a i e), q.2.1, fun a e => q.2.2.1 a (m a 0 e), q.2.2.2⟩
theorem Fq.mono {s t : Nat → Nat → Bool} {h h1 : Hp} (q : Fq s h h1) (m : ∀ a i, t a i = false → s a i = false) : Fq t h h1 := ⟨fun a i e => q.1 a i (m a i e), q.2⟩
theorem Gq.I {s : Nat → Nat → Bool} {h h1 : Hp} (p : Gq s h h1) {a : Nat} (hs : ∀ i, s a i = false) : rI h1 a = rI h a := funext fun i => (p.1 a i (hs i)).1
theorem Gq.J {s : Nat → Nat → Bool} {h h1 : Hp} (p : Gq s h h1) {a : Nat} (hs : ∀ i, s a i = false) : rJ h1 a = rJ h a := funext fun i => (p.1 a i (hs i)).2
theorem Gq.A {s : Nat → Nat → Bool} {h h1 : Hp} (p : Gq s h h1) {a : Nat} (hs : s a 0 = false) : al h1 a = al h a := by unfold al; rw [p.2.2.1 a hs]
theorem Gq.uI' {s : Nat → Nat → Bool} {h h1 : Hp} (p : Gq s h h1) (a i : Nat) (v : Int32) (hs : s a i = true) : Gq s h (uI h1 a i v) := p.tr (Fq.uI' Fq.rfl' a i v hs).gq
theorem Gq.uJ' {s : Nat → Nat → Bool} {h h1 : Hp} (p : Gq s h h1) (a i : Nat) (v : Int64) (hs : s a i = true) : Gq s h (uJ h1 a i v) := p.tr (Fq.uJ' Fq.rfl' a i v hs).gq
theorem Fq.uA' {s : Nat → Nat → Bool} {h h1 : Hp} (p : Fq s h h1) (a : Nat) (f : Nat → Int32) (hs : ∀ i, s a i = true) : Fq s h (uA h1 a f) := by
  refine ⟨fun b j e => ⟨?_, (p.1 b j e).2⟩, p.2⟩
  rw [rI_uA_ne (fun q => by rw [q, hs] at e; exact Bool.noConfusion e)]
  exact (p.1 b j e).1
theorem uN_id {h : Hp} {a k : Nat} (e : rN h a k = true) : rN (uN h a k true) = rN h := by
  funext b j
  show va_up h.2.2.2.1 a (va_up (h.2.2.2.1 a) k true) b j = h.2.2.2.1 b j
  by_cases hb : b = a
  · subst hb
    rw [up_eq]
    by_cases hj : j = k
    · subst hj; rw [up_eq]; exact e.symm
    · rw [up_ne hj]
  · rw [up_ne hb]
theorem Gq.uN' {s : Nat → Nat → Bool} {h h1 : Hp} (p : Gq s h h1) {a k : Nat} (e : rN h1 a k = true) : Gq s h (uN h1 a k true) := by
  refine p.tr ⟨fun _ _ _ => ⟨rfl, rfl⟩, ⟨fun _ _ _ => by rw [uN_id e], rfl⟩, fun _ _ => rfl, fun w => ⟨w.1, w.2.1, fun a k q => by rw [uN_id e]; exact w.2.2 a k q⟩, Nat.le_refl _, Nat.le_refl _⟩
theorem gr_le {a m : Nat} (h : a < m) (hm : m = 16 ∨ m = 256 ∨ m = 2048 ∨ m = 10000) : m + grS m ≤ grS a ∧ 1 + grC m ≤ grC a := by
  unfold grS grC
  rcases hm with e | e | e | e <;> subst e <;> simp <;> repeat' split
  all_goals omega
/-- a row grows: the new one takes its place -/
theorem grow {s : Nat → Nat → Bool} {h : Hp} {z m : Nat} (w : WF h) (hz : z = 40 ∨ z = 72 ∨ z = 98 ∨ z = 117 ∨ z = 120) (hs : ∀ i, s z i = true) (hs9 : ∀ i, s 99 i = true) (hm : m = 16 ∨ m = 256 ∨ m = 2048 ∨ m = 10000) (hl : rL h z < m) : Gq s h (adp (nwH h 99 m) z) ∧ rL (adp (nwH h 99 m) z) z = m ∧ rI (adp (nwH h 99 m) z) z = (fun _ => 0) := by
  have z9 : z ≠ 99 := by omega
  have eL : rL (adp (nwH h 99 m) z) = va_up (va_up (rL h) 99 m) z m := by
    show va_up (va_up h.2.2.1 99 m) z (va_up h.2.2.1 99 m 99) = _
    rw [up_eq]; rfl
  have eD : rD (adp (nwH h 99 m) z) = rD h := by
    funext b
    show va_up (va_up h.2.2.2.2.1 99 true) 99 false b = h.2.2.2.2.1 b
    by_cases e : b = 99
    · subst e; rw [up_eq]; exact w.1.symm
    · rw [up_ne e, up_ne e]
  have l1 : rL (adp (nwH h 99 m) z) z = m := by rw [eL, up_eq]
  have hg := gr_le hl hm
  have lo : ∀ a, a ≠ z → a ≠ 99 → rL (adp (nwH h 99 m) z) a = rL h a := fun a h1 h2 => by rw [eL, up_ne h1, up_ne h2]
  have hN : ∀ a k, ¬ a = 99 → rN (adp (nwH h 99 m) z) a k = rN h a k := fun a k e => congrFun (up_ne (f := rN h) (a := 99) e) k
  have lo2 : ∀ y, (y = 40 ∨ y = 72 ∨ y = 98 ∨ y = 117 ∨ y = 120) → y ≠ z → grS (rL (adp (nwH h 99 m) z) y) = grS (rL h y) ∧ grC (rL (adp (nwH h 99 m) z) y) = grC (rL h y) := fun y h1 h2 => by rw [lo y h2 (by omega)]; exact ⟨rfl, rfl⟩
  have h86 : rL (adp (nwH h 99 m) z) 86 = rL h 86 := lo 86 (by omega) (by omega)
  refine ⟨⟨fun a i e => ⟨?_, ?_⟩, ⟨hN, eD⟩, fun a e => ?_, fun _ => ⟨?_, fun y => ?_, fun a k e => ?_⟩, ?_, ?_⟩, l1, ?_⟩
  · show va_up (va_up h.1 99 (fun _ => 0)) z (va_up h.1 99 (fun _ => 0) 99) a i = h.1 a i
    rw [up_ne (fun q => by rw [q, hs] at e; exact Bool.noConfusion e), up_ne (fun q => by rw [q, hs9] at e; exact Bool.noConfusion e)]
  · show va_up h.2.1 99 (fun _ => 0) a i = h.2.1 a i
    rw [up_ne (fun q => by rw [q, hs9] at e; exact Bool.noConfusion e)]
  · exact lo a (fun q => by rw [q, hs] at e; exact Bool.noConfusion e) (fun q => by rw [q, hs9] at e; exact Bool.noConfusion e)
  · rw [eD]; exact w.1
  · by_cases q : y = z
    · rw [q, l1]; omega
    · by_cases q2 : y = 99
      · rw [eL, up_ne q, q2, up_eq]; omega
      · rw [lo y q q2]; exact w.2.1 y
  · rw [hN a k (fun q => by rw [q] at e; exact absurd e (by show ¬ false = true; decide))]
    exact w.2.2 a k e
  · have c1 : rC (adp (nwH h 99 m) z) = rC h + 1 := rfl
    unfold ptC
    rw [eD, h86, c1]
    have a1 := lo2 40 (by omega)
    have a2 := lo2 72 (by omega)
    have a3 := lo2 98 (by omega)
    have a4 := lo2 117 (by omega)
    have a5 := lo2 120 (by omega)
    rcases hz with e | e | e | e | e <;> subst e <;> rw [l1] <;> (try rw [(a1 (by decide)).2]) <;> (try rw [(a2 (by decide)).2]) <;> (try rw [(a3 (by decide)).2]) <;> (try rw [(a4 (by decide)).2]) <;> (try rw [(a5 (by decide)).2]) <;> omega
  · have c1 : rS (adp (nwH h 99 m) z) = rS h + m := rfl
    unfold ptS
    rw [eD, h86, c1]
    have a1 := lo2 40 (by omega)
    have a2 := lo2 72 (by omega)
    have a3 := lo2 98 (by omega)
    have a4 := lo2 117 (by omega)
    have a5 := lo2 120 (by omega)
    rcases hz with e | e | e | e | e <;> subst e <;> rw [l1] <;> (try rw [(a1 (by decide)).1]) <;> (try rw [(a2 (by decide)).1]) <;> (try rw [(a3 (by decide)).1]) <;> (try rw [(a4 (by decide)).1]) <;> (try rw [(a5 (by decide)).1]) <;> omega
  · show va_up (va_up h.1 99 (fun _ => 0)) z (va_up h.1 99 (fun _ => 0) 99) z = _
    rw [up_eq, up_eq]
/-- what the class uses up within a call -/
def scC (a i : Nat) : Bool := (Nat.ble 71 a && Nat.ble a 86) || Nat.beq a 98 || Nat.beq a 99 || (Nat.beq a 10 && Nat.beq i 17)
theorem cs_gq {g : ShG} {h h1 : Hp} (cs : CS 31 g h) (q : Gq scC h h1) : CS 31 g h1 := by
  unfold CS at *
  simp only [Nat.reduceAdd] at *
  rw [q.I (a := 31) (fun _ => rfl), q.I (a := 32) (fun _ => rfl), q.I (a := 33) (fun _ => rfl), q.I (a := 34) (fun _ => rfl), q.I (a := 35) (fun _ => rfl), q.I (a := 36) (fun _ => rfl), q.I (a := 37) (fun _ => rfl), q.I (a := 38) (fun _ => rfl)]
  exact cs
theorem cl_gq {g : ShG} {l : LkG} {h h1 : Hp} (cl : CL 39 g l h) (q : Gq scC h h1) : CL 39 g l h1 := by
  unfold CL at *
  simp only [Nat.reduceAdd] at *
  rw [q.I (a := 39) (fun _ => rfl), q.I (a := 40) (fun _ => rfl), q.I (a := 41) (fun _ => rfl), q.A (a := 40) rfl]
  exact cl
theorem cs_fq {g : ShG} {h h1 : Hp} (cs : CS 31 g h) (q : Fq scC h h1) : CS 31 g h1 := cs_gq cs q.gq
theorem cl_fq {g : ShG} {l : LkG} {h h1 : Hp} (cl : CL 39 g l h) (q : Fq scC h h1) : CL 39 g l h1 := cl_gq cl q.gq
