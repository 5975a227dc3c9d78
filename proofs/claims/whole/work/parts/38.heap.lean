/-! What stays as it was. -/
theorem up_ne {α : Type} {f : Nat → α} {a b : Nat} {v : α} (h : b ≠ a) : va_up f a v b = f b := if_neg h
theorem up_eq {α : Type} {f : Nat → α} {a : Nat} {v : α} : va_up f a v a = v := if_pos rfl
theorem rI_uA_ne {h : Hp} {a b : Nat} {f : Nat → Int32} (hb : b ≠ a) : rI (uA h a f) b = rI h b := up_ne hb
theorem rI_uA_eq {h : Hp} {a : Nat} {f : Nat → Int32} : rI (uA h a f) a = f := up_eq
theorem rI_uI_ne {h : Hp} {a b i : Nat} {v : Int32} (hb : b ≠ a) : rI (uI h a i v) b = rI h b := up_ne hb
theorem rI_uI_eq {h : Hp} {a i : Nat} {v : Int32} : rI (uI h a i v) a i = v := by
  show va_up h.1 a (upd (h.1 a) i v) a i = v
  rw [up_eq]; exact if_pos rfl
theorem rI_uI_at {h : Hp} {a i j : Nat} {v : Int32} (hj : j ≠ i) : rI (uI h a i v) a j = rI h a j := by
  show va_up h.1 a (upd (h.1 a) i v) a j = _
  rw [up_eq]; exact if_neg hj
theorem rI_uI (h : Hp) (a i b j : Nat) (v : Int32) : rI (uI h a i v) b j = if b = a ∧ j = i then v else rI h b j := by
  by_cases hb : b = a
  · subst hb
    by_cases hj : j = i
    · subst hj; rw [rI_uI_eq, if_pos ⟨rfl, rfl⟩]
    · rw [rI_uI_at hj, if_neg (fun q => hj q.2)]
  · rw [rI_uI_ne hb, if_neg (fun q => hb q.1)]
theorem rJ_uJ_ne {h : Hp} {a b i : Nat} {v : Int64} (hb : b ≠ a) : rJ (uJ h a i v) b = rJ h b := up_ne hb
theorem rJ_uJ_eq {h : Hp} {a i : Nat} {v : Int64} : rJ (uJ h a i v) a i = v := by
  show va_up h.2.1 a (vp_updL (h.2.1 a) i v) a i = v
  rw [up_eq]; exact if_pos rfl
theorem rJ_uJ_at {h : Hp} {a i j : Nat} {v : Int64} (hj : j ≠ i) : rJ (uJ h a i v) a j = rJ h a j := by
  show va_up h.2.1 a (vp_updL (h.2.1 a) i v) a j = _
  rw [up_eq]; exact if_neg hj
/-- all but what s names is as it was -/
def Fq (s : Nat → Nat → Bool) (h h' : Hp) : Prop := (∀ a i, s a i = false → rI h' a i = rI h a i ∧ rJ h' a i = rJ h a i) ∧ h'.2.2 = h.2.2
theorem Fq.rfl' {s : Nat → Nat → Bool} {h : Hp} : Fq s h h := ⟨fun _ _ _ => ⟨rfl, rfl⟩, rfl⟩
theorem Fq.tr {s : Nat → Nat → Bool} {h h1 h2 : Hp} (p : Fq s h h1) (q : Fq s h1 h2) : Fq s h h2 := ⟨fun a i e => ⟨(q.1 a i e).1.trans (p.1 a i e).1, (q.1 a i e).2.trans (p.1 a i e).2⟩, q.2.trans p.2⟩
theorem Fq.uI' {s : Nat → Nat → Bool} {h h1 : Hp} (p : Fq s h h1) (a i : Nat) (v : Int32) (hs : s a i = true) : Fq s h (uI h1 a i v) := by
  refine ⟨fun b j e => ⟨?_, (p.1 b j e).2⟩, p.2⟩
  rw [rI_uI, if_neg (fun q => by rw [q.1, q.2, hs] at e; exact Bool.noConfusion e)]
  exact (p.1 b j e).1
theorem Fq.uJ' {s : Nat → Nat → Bool} {h h1 : Hp} (p : Fq s h h1) (a i : Nat) (v : Int64) (hs : s a i = true) : Fq s h (uJ h1 a i v) := by
  refine ⟨fun b j e => ⟨(p.1 b j e).1, ?_⟩, p.2⟩
  by_cases hb : b = a
  · subst hb
    by_cases hj : j = i
    · subst hj; rw [hs] at e; exact Bool.noConfusion e
    · rw [rJ_uJ_at hj]; exact (p.1 b j e).2
  · rw [rJ_uJ_ne hb]; exact (p.1 b j e).2
/-- what the model uses up within a call -/
def scM (a i : Nat) : Bool := (Nat.ble 135 a && Nat.ble a 148) || (Nat.beq a 130 && (Nat.beq i 0 || Nat.beq i 22 || Nat.beq i 24 || Nat.beq i 27 || Nat.beq i 28 || Nat.beq i 34))
theorem Fq.I {s : Nat → Nat → Bool} {h h1 : Hp} (p : Fq s h h1) {a : Nat} (hs : ∀ i, s a i = false) : rI h1 a = rI h a := funext fun i => (p.1 a i (hs i)).1
theorem Fq.J {s : Nat → Nat → Bool} {h h1 : Hp} (p : Fq s h h1) {a : Nat} (hs : ∀ i, s a i = false) : rJ h1 a = rJ h a := funext fun i => (p.1 a i (hs i)).2
theorem Fq.L {s : Nat → Nat → Bool} {h h1 : Hp} (p : Fq s h h1) (a : Nat) : al h1 a = al h a := by unfold al rL; rw [p.2]
