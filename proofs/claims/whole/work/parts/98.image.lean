/-! The class makes an image. -/
def sIc (i a : Nat) : Bool := (Nat.ble (100 + 8 * i) a && Nat.ble a (107 + 8 * i)) || (Nat.ble (116 + 3 * i) a && Nat.ble a (118 + 3 * i)) || Nat.beq a 99
theorem sIc_f {i a : Nat} (h : sIc i a = false) : (a < 100 + 8 * i ∨ 107 + 8 * i < a) ∧ (a < 116 + 3 * i ∨ 118 + 3 * i < a) ∧ a ≠ 99 := by
  unfold sIc at h
  simp only [Bool.or_eq_false_iff] at h
  refine ⟨?_, ?_, fun z => by rw [z] at h; exact Bool.noConfusion h.2⟩
  · refine Classical.byContradiction fun q => ?_
    have h1 := h.1.1
    rw [Nat.ble_eq.mpr (show 100 + 8 * i ≤ a by omega), Nat.ble_eq.mpr (show a ≤ 107 + 8 * i by omega)] at h1
    exact Bool.noConfusion h1
  · refine Classical.byContradiction fun q => ?_
    have h1 := h.1.2
    rw [Nat.ble_eq.mpr (show 116 + 3 * i ≤ a by omega), Nat.ble_eq.mpr (show a ≤ 118 + 3 * i by omega)] at h1
    exact Bool.noConfusion h1
/-- only the image i is made anew -/
def Iq (i : Nat) (h h1 : Hp) : Prop := (∀ b, sIc i b = false → rI h1 b = rI h b ∧ rJ h1 b = rJ h b ∧ rL h1 b = rL h b ∧ rD h1 b = rD h b ∧ ∀ k, ((b ≠ 96 ∧ b ≠ 97) ∨ k ≠ i) → rN h1 b k = rN h b k) ∧ (WF h → WF h1) ∧ rC h1 + ptC h1 ≤ rC h + ptC h ∧ rS h1 + ptS h1 ≤ rS h + ptS h
theorem Iq.rfl' {i : Nat} {h : Hp} : Iq i h h := ⟨fun _ _ => ⟨rfl, rfl, rfl, rfl, fun _ _ => rfl⟩, id, Nat.le_refl _, Nat.le_refl _⟩
theorem Iq.tr {i : Nat} {h h1 h2 : Hp} (p : Iq i h h1) (q : Iq i h1 h2) : Iq i h h2 := ⟨fun b e => ⟨(q.1 b e).1.trans (p.1 b e).1, (q.1 b e).2.1.trans (p.1 b e).2.1, (q.1 b e).2.2.1.trans (p.1 b e).2.2.1, (q.1 b e).2.2.2.1.trans (p.1 b e).2.2.2.1, fun k z => ((q.1 b e).2.2.2.2 k z).trans ((p.1 b e).2.2.2.2 k z)⟩, fun w => q.2.1 (p.2.1 w), Nat.le_trans q.2.2.1 p.2.2.1, Nat.le_trans q.2.2.2 p.2.2.2⟩
theorem Gq.iq {i : Nat} {s : Nat → Nat → Bool} {h h1 : Hp} (q : Gq s h h1) (hs : ∀ a x, sIc i a = false → s a x = false) : Iq i h h1 := ⟨fun b e => ⟨q.I (fun x => hs b x e), q.J (fun x => hs b x e), q.2.2.1 b (hs b 0 e), by rw [q.2.1.2], fun k _ => q.2.1.1 b k (sIc_f e).2.2⟩, q.2.2.2.1, q.2.2.2.2⟩
theorem ble_no {x y : Nat} (h : ¬ x ≤ y) : Nat.ble x y = false := by rw [Bool.eq_false_iff]; intro z; exact h (Nat.ble_eq.mp z)
theorem beq_no {x y : Nat} (h : x ≠ y) : Nat.beq x y = false := by rw [Bool.eq_false_iff]; intro z; exact h (Nat.eq_of_beq_eq_true z)
theorem sSh_f {z a x : Nat} (h : a < z ∨ z + 7 < a) : sSh z a x = false := by
  unfold sSh
  rcases h with h | h
  · rw [ble_no (by omega)]; rfl
  · rw [ble_no (x := a) (by omega), Bool.and_false]
theorem sLo_f {z a x : Nat} (h : a < z ∨ z + 2 < a) (h9 : a ≠ 99) : sLo z a x = false := by
  unfold sLo
  rw [beq_no h9, Bool.or_false]
  rcases h with h | h
  · rw [ble_no (by omega)]; rfl
  · rw [ble_no (x := a) (by omega), Bool.and_false]
theorem sS8_f {z a : Nat} (h : a < z ∨ z + 7 < a) : sS8 z a = false := sSh_f (x := 0) h
theorem sL2_f {z a : Nat} (h : a < z ∨ z + 2 < a) : sL2 z a = false := by
  unfold sL2
  rcases h with h | h
  · rw [ble_no (by omega)]; rfl
  · rw [ble_no (x := a) (by omega), Bool.and_false]
theorem uN_ne {h : Hp} {a i b k : Nat} (hb : b ≠ a ∨ k ≠ i) : rN (uN h a i true) b k = rN h b k := by
  show va_up h.2.2.2.1 a (va_up (h.2.2.2.1 a) i true) b k = h.2.2.2.1 b k
  by_cases e : b = a
  · subst e; rw [up_eq, up_ne (hb.resolve_left (fun q => q rfl))]
  · rw [up_ne e]
theorem N0_im0 {b k : Nat} (h : sIc 0 b = true) : N0 b k = false := by
  have hb : b = 99 ∨ b = 100 ∨ b = 101 ∨ b = 102 ∨ b = 103 ∨ b = 104 ∨ b = 105 ∨ b = 106 ∨ b = 107 ∨ b = 116 ∨ b = 117 ∨ b = 118 := by
    refine Classical.byContradiction fun q => ?_
    unfold sIc at h
    rw [beq_no (by omega), Bool.or_false, Bool.or_eq_true, Bool.and_eq_true, Bool.and_eq_true] at h
    rcases h with h | h
    · have h1 := Nat.ble_eq.mp h.1
      have h2 := Nat.ble_eq.mp h.2
      omega
    · have h1 := Nat.ble_eq.mp h.1
      have h2 := Nat.ble_eq.mp h.2
      omega
  rcases hb with z | z | z | z | z | z | z | z | z | z | z | z <;> subst z <;> rfl
theorem mkI0 {h h1 h2 : Hp} (c0 : CIM 0 none h) (q1 : Cq (sS8 100) 7 284 (nwH h 100 18) h1) (d1 : rD h1 100 = rD (nwH h 100 18) 100) (q2 : Cq (sL2 116) 2 5 (nwH (uN h1 96 0 true) 116 8) h2) (l2 : rL h2 117 = 1) : Iq 0 h (uN h2 97 0 true) := by
  have hf : ∀ x, (x < 100 ∨ 107 < x) → (x < 116 ∨ 118 < x) → rI h2 x = rI h x ∧ rJ h2 x = rJ h x ∧ rL h2 x = rL h x ∧ rD h2 x = rD h x ∧ ∀ k, (x ≠ 96 ∨ k ≠ 0) → rN h2 x k = rN h x k := fun x u v => by
    have a1 := q2.1 x (sL2_f (by omega))
    have a2 := q1.1 x (sS8_f (by omega))
    have n1 : x ≠ 100 := by omega
    have n2 : x ≠ 116 := by omega
    refine ⟨a1.1.trans ((up_ne n2).trans (a2.1.trans (up_ne n1))), a1.2.1.trans ((up_ne n2).trans (a2.2.1.trans (up_ne n1))), a1.2.2.1.trans ((up_ne n2).trans (a2.2.2.1.trans (up_ne n1))), a1.2.2.2.2.trans ((up_ne n2).trans (a2.2.2.2.2.trans (up_ne n1))), fun k z => ?_⟩
    have e1 : rN h2 x k = rN (uN h1 96 0 true) x k := congrFun (a1.2.2.2.1.trans (up_ne n2)) k
    have e2 : rN h1 x k = rN h x k := congrFun (a2.2.2.2.1.trans (up_ne n1)) k
    rw [e1, uN_ne z, e2]
  have hda : rD h2 100 = true := by
    rw [(q2.1 100 rfl).2.2.2.2]
    show va_up (rD h1) 116 true 100 = true
    rw [up_ne (by decide), d1]
    show va_up (rD h) 100 true 100 = true
    rw [up_eq]
  have hc : rC h2 = rC h + 11 := by rw [q2.2.1]; show rC h1 + 1 + 2 = _; rw [q1.2.1]; show rC h + 1 + 7 + 1 + 2 = _; omega
  have hs : rS h2 = rS h + 315 := by rw [q2.2.2.1]; show rS h1 + 8 + 5 = _; rw [q1.2.2.1]; show rS h + 18 + 284 + 8 + 5 = _; omega
  have r40 := (hf 40 (by omega) (by omega)).2.2.1
  have r72 := (hf 72 (by omega) (by omega)).2.2.1
  have r98 := (hf 98 (by omega) (by omega)).2.2.1
  have r86 := (hf 86 (by omega) (by omega)).2.2.1
  have ro := (hf 120 (by omega) (by omega)).2.2.1
  have do_ := (hf 108 (by omega) (by omega)).2.2.2.1
  have l0 := c0.2.2.2.2
  have d0 : rD h 100 = false := c0.2.2.1 100 (by omega) (by omega)
  have l0 : rL h 117 = 0 := l0
  refine ⟨fun x e => ?_, fun w => ⟨?_, fun z => ?_, fun x k n0 => ?_⟩, ?_, ?_⟩
  · have e2 := sIc_f e
    have h5 := hf x (by omega) (by omega)
    exact ⟨h5.1, h5.2.1, h5.2.2.1, h5.2.2.2.1, fun k z => (uN_ne (by omega)).trans (h5.2.2.2.2 k (by omega))⟩
  · exact (hf 99 (by omega) (by omega)).2.2.2.1.trans w.1
  · show rL h2 z ≤ 50000
    have w1 := w.2.1 z
    rcases q2.2.2.2 z with y | y
    · have y : rL h2 z ≤ va_up (rL h1) 116 8 z := y
      by_cases e : z = 116
      · rw [e, up_eq] at y; rw [e]; omega
      · rw [up_ne e] at y
        rcases q1.2.2.2 z with y2 | y2
        · have y2 : rL h1 z ≤ va_up (rL h) 100 18 z := y2
          by_cases e2 : z = 100
          · rw [e2, up_eq] at y2; rw [e2] at y ⊢; omega
          · rw [up_ne e2] at y2; omega
        · omega
    · omega
  · have hx : sIc 0 x = false := by
      cases q : sIc 0 x with
      | false => rfl
      | true => rw [N0_im0 q] at n0; exact Bool.noConfusion n0
    have e2 := sIc_f hx
    have n96 : x ≠ 96 := fun z => by rw [z] at n0; exact absurd n0 (by show ¬ false = true; decide)
    have n97 : x ≠ 97 := fun z => by rw [z] at n0; exact absurd n0 (by show ¬ false = true; decide)
    rw [uN_ne (Or.inl n97), (hf x (by omega) (by omega)).2.2.2.2 k (Or.inl n96)]
    exact w.2.2 x k n0
  · show rC h2 + ptC h2 ≤ rC h + ptC h
    unfold ptC
    rw [hc, r40, r72, r98, r86, ro, l2, do_, hda, d0, l0]
    show _ + 11 + _ ≤ _
    simp only [grC, imS, cond_true, cond_false]
    simp
    omega
  · show rS h2 + ptS h2 ≤ rS h + ptS h
    unfold ptS
    rw [hs, r40, r72, r98, r86, ro, l2, do_, hda, d0, l0]
    simp only [grS, imS, cond_true, cond_false]
    simp
    omega
theorem N0_im1 {b k : Nat} (h : sIc 1 b = true) : N0 b k = false := by
  have hb : b = 99 ∨ b = 108 ∨ b = 109 ∨ b = 110 ∨ b = 111 ∨ b = 112 ∨ b = 113 ∨ b = 114 ∨ b = 115 ∨ b = 119 ∨ b = 120 ∨ b = 121 := by
    refine Classical.byContradiction fun q => ?_
    unfold sIc at h
    rw [beq_no (by omega), Bool.or_false, Bool.or_eq_true, Bool.and_eq_true, Bool.and_eq_true] at h
    rcases h with h | h
    · have h1 := Nat.ble_eq.mp h.1
      have h2 := Nat.ble_eq.mp h.2
      omega
    · have h1 := Nat.ble_eq.mp h.1
      have h2 := Nat.ble_eq.mp h.2
      omega
  rcases hb with z | z | z | z | z | z | z | z | z | z | z | z <;> subst z <;> rfl
theorem mkI1 {h h1 h2 : Hp} (c0 : CIM 1 none h) (q1 : Cq (sS8 108) 7 284 (nwH h 108 18) h1) (d1 : rD h1 108 = rD (nwH h 108 18) 108) (q2 : Cq (sL2 119) 2 5 (nwH (uN h1 96 1 true) 119 8) h2) (l2 : rL h2 120 = 1) : Iq 1 h (uN h2 97 1 true) := by
  have hf : ∀ x, (x < 108 ∨ 115 < x) → (x < 119 ∨ 121 < x) → rI h2 x = rI h x ∧ rJ h2 x = rJ h x ∧ rL h2 x = rL h x ∧ rD h2 x = rD h x ∧ ∀ k, (x ≠ 96 ∨ k ≠ 1) → rN h2 x k = rN h x k := fun x u v => by
    have a1 := q2.1 x (sL2_f (by omega))
    have a2 := q1.1 x (sS8_f (by omega))
    have n1 : x ≠ 108 := by omega
    have n2 : x ≠ 119 := by omega
    refine ⟨a1.1.trans ((up_ne n2).trans (a2.1.trans (up_ne n1))), a1.2.1.trans ((up_ne n2).trans (a2.2.1.trans (up_ne n1))), a1.2.2.1.trans ((up_ne n2).trans (a2.2.2.1.trans (up_ne n1))), a1.2.2.2.2.trans ((up_ne n2).trans (a2.2.2.2.2.trans (up_ne n1))), fun k z => ?_⟩
    have e1 : rN h2 x k = rN (uN h1 96 1 true) x k := congrFun (a1.2.2.2.1.trans (up_ne n2)) k
    have e2 : rN h1 x k = rN h x k := congrFun (a2.2.2.2.1.trans (up_ne n1)) k
    rw [e1, uN_ne z, e2]
  have hda : rD h2 108 = true := by
    rw [(q2.1 108 rfl).2.2.2.2]
    show va_up (rD h1) 119 true 108 = true
    rw [up_ne (by decide), d1]
    show va_up (rD h) 108 true 108 = true
    rw [up_eq]
  have hc : rC h2 = rC h + 11 := by rw [q2.2.1]; show rC h1 + 1 + 2 = _; rw [q1.2.1]; show rC h + 1 + 7 + 1 + 2 = _; omega
  have hs : rS h2 = rS h + 315 := by rw [q2.2.2.1]; show rS h1 + 8 + 5 = _; rw [q1.2.2.1]; show rS h + 18 + 284 + 8 + 5 = _; omega
  have r40 := (hf 40 (by omega) (by omega)).2.2.1
  have r72 := (hf 72 (by omega) (by omega)).2.2.1
  have r98 := (hf 98 (by omega) (by omega)).2.2.1
  have r86 := (hf 86 (by omega) (by omega)).2.2.1
  have ro := (hf 117 (by omega) (by omega)).2.2.1
  have do_ := (hf 100 (by omega) (by omega)).2.2.2.1
  have l0 := c0.2.2.2.2
  have d0 : rD h 108 = false := c0.2.2.1 108 (by omega) (by omega)
  have l0 : rL h 120 = 0 := l0
  refine ⟨fun x e => ?_, fun w => ⟨?_, fun z => ?_, fun x k n0 => ?_⟩, ?_, ?_⟩
  · have e2 := sIc_f e
    have h5 := hf x (by omega) (by omega)
    exact ⟨h5.1, h5.2.1, h5.2.2.1, h5.2.2.2.1, fun k z => (uN_ne (by omega)).trans (h5.2.2.2.2 k (by omega))⟩
  · exact (hf 99 (by omega) (by omega)).2.2.2.1.trans w.1
  · show rL h2 z ≤ 50000
    have w1 := w.2.1 z
    rcases q2.2.2.2 z with y | y
    · have y : rL h2 z ≤ va_up (rL h1) 119 8 z := y
      by_cases e : z = 119
      · rw [e, up_eq] at y; rw [e]; omega
      · rw [up_ne e] at y
        rcases q1.2.2.2 z with y2 | y2
        · have y2 : rL h1 z ≤ va_up (rL h) 108 18 z := y2
          by_cases e2 : z = 108
          · rw [e2, up_eq] at y2; rw [e2] at y ⊢; omega
          · rw [up_ne e2] at y2; omega
        · omega
    · omega
  · have hx : sIc 1 x = false := by
      cases q : sIc 1 x with
      | false => rfl
      | true => rw [N0_im1 q] at n0; exact Bool.noConfusion n0
    have e2 := sIc_f hx
    have n96 : x ≠ 96 := fun z => by rw [z] at n0; exact absurd n0 (by show ¬ false = true; decide)
    have n97 : x ≠ 97 := fun z => by rw [z] at n0; exact absurd n0 (by show ¬ false = true; decide)
    rw [uN_ne (Or.inl n97), (hf x (by omega) (by omega)).2.2.2.2 k (Or.inl n96)]
    exact w.2.2 x k n0
  · show rC h2 + ptC h2 ≤ rC h + ptC h
    unfold ptC
    rw [hc, r40, r72, r98, r86, ro, l2, do_, hda, d0, l0]
    show _ + 11 + _ ≤ _
    simp only [grC, imS, cond_true, cond_false]
    simp
    omega
  · show rS h2 + ptS h2 ≤ rS h + ptS h
    unfold ptS
    rw [hs, r40, r72, r98, r86, ro, l2, do_, hda, d0, l0]
    simp only [grS, imS, cond_true, cond_false]
    simp
    omega
