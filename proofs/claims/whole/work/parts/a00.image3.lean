/-! An image is made: the call as a whole. -/
theorem ix_sm {x : Int32} {N i : Nat} (hN : N < 2 ^ 31) (hx : ixN x N = some i) : i < N ∧ x = nI i := by
  unfold ixN at hx
  split at hx
  · cases hx
  · rename_i q
    obtain ⟨j, e1, e2, e3⟩ := ix_in hN (fun z => q (Or.inl z)) (fun z => q (Or.inr z))
    unfold ixN at e1
    rw [if_neg q, hx] at e1
    cases e1
    exact ⟨e3, e2⟩
theorem sIc_o {i j a : Nat} (hi : i < 2) (hj : j < 2) (h : i ≠ j) (ha : (100 + 8 * j ≤ a ∧ a ≤ 107 + 8 * j) ∨ (116 + 3 * j ≤ a ∧ a ≤ 118 + 3 * j)) : sIc i a = false := by
  unfold sIc
  rw [beq_no (by omega), Bool.or_false, Bool.or_eq_false_iff, Bool.eq_false_iff, Bool.eq_false_iff]
  constructor
  · intro z
    rw [Bool.and_eq_true] at z
    have h1 := Nat.ble_eq.mp z.1
    have h2 := Nat.ble_eq.mp z.2
    omega
  · intro z
    rw [Bool.and_eq_true] at z
    have h1 := Nat.ble_eq.mp z.1
    have h2 := Nat.ble_eq.mp z.2
    omega
theorem cim_iq {i j : Nat} {m : ImG} {h h1 : Hp} (hi : i < 2) (hj : j < 2) (hij : i ≠ j) (c : CIM j m h) (q : Iq i h h1) : CIM j m h1 := by
  have ho : ∀ a, ((100 + 8 * j ≤ a ∧ a ≤ 107 + 8 * j) ∨ (116 + 3 * j ≤ a ∧ a ≤ 118 + 3 * j)) → rI h1 a = rI h a ∧ rJ h1 a = rJ h a ∧ rL h1 a = rL h a ∧ rD h1 a = rD h a ∧ ∀ k, rN h1 a k = rN h a k := fun a ha => by
    have q1 := q.1 a (sIc_o hi hj hij ha)
    exact ⟨q1.1, q1.2.1, q1.2.2.1, q1.2.2.2.1, fun k => q1.2.2.2.2 k (Or.inl (by omega))⟩
  have n6 : rN h1 96 j = rN h 96 j := (q.1 96 (iq_lo (by omega))).2.2.2.2 j (Or.inr (fun z => hij z.symm))
  have n7 : rN h1 97 j = rN h 97 j := (q.1 97 (iq_lo (by omega))).2.2.2.2 j (Or.inr (fun z => hij z.symm))
  match m, c with
  | none, c => exact ⟨n6.trans c.1, n7.trans c.2.1, fun a u v => ((ho a (Or.inl ⟨u, v⟩)).2.2.2.1).trans (c.2.2.1 a u v), fun a u v => ((ho a (Or.inr ⟨u, v⟩)).2.2.2.1).trans (c.2.2.2.1 a u v), ((ho (117 + 3 * j) (by omega)).2.2.1).trans c.2.2.2.2⟩
  | some (g, l), c =>
    have s0 := ho (100 + 8 * j) (by omega)
    have b0 := ho (116 + 3 * j) (by omega)
    obtain ⟨c1, c2, c3, c4, c5, c6⟩ := c
    refine ⟨n6.trans c1, n7.trans c2, ?_, ?_, ?_, ?_⟩
    · unfold IMs at *
      simp only [s0.2.2.2.2]
      exact c3
    · unfold IMl at *
      simp only [b0.2.2.2.2]
      exact c4
    · unfold CS at *
      rw [s0.1, (ho (100 + 8 * j + 1) (by omega)).1, (ho (100 + 8 * j + 2) (by omega)).1, (ho (100 + 8 * j + 3) (by omega)).1, (ho (100 + 8 * j + 4) (by omega)).1, (ho (100 + 8 * j + 5) (by omega)).1, (ho (100 + 8 * j + 6) (by omega)).1, (ho (100 + 8 * j + 7) (by omega)).1]
      exact c5
    · unfold CL at *
      rw [b0.1, (ho (116 + 3 * j + 1) (by omega)).1, (ho (116 + 3 * j + 2) (by omega)).1, show al h1 (116 + 3 * j + 1) = al h (116 + 3 * j + 1) from by unfold al; rw [(ho (116 + 3 * j + 1) (by omega)).2.2.1]]
      exact c6
theorem c_image {d : Nat} {h : Hp} {g : ShG} {l : LkG} {m : Nat → ImG} {x : Int32} {Q : Po} (wf : WF h) (cs : CS 31 g h) (cl : CL 39 g l h) (ci : ∀ i, i < 2 → CIM i (m i) h) (k0 : ixN x 2 = none → Q (.int (-2)) h) (k1 : ∀ i, ixN x 2 = some i → i < 2 → ∀ h1, Iq i h h1 → (∀ j, j < 2 → CIM j (va_up m i (some (g, l)) j) h1) → Q (.int 0) h1) : wpC (d + 4) true 152 [.ref 10, .int x] h Q := by
  cases hx : ixN x 2 with
  | none => exact c_imgX hx (k0 hx)
  | some i =>
    obtain ⟨hi2, ex⟩ := ix_sm (by decide) hx
    have c0 := ci i hi2
    have kk : ∀ h1, Iq i h h1 → CIM i (some (g, l)) h1 → Q (.int 0) h1 := fun h1 q c => k1 i hx hi2 h1 q (fun j hj => by
      by_cases z : j = i
      · subst z; rw [up_eq]; exact c
      · rw [up_ne z]; exact cim_iq hi2 hj (fun y => z y.symm) (ci j hj) q)
    subst ex
    cases hm : m i with
    | none =>
      rw [hm] at c0
      rcases (show i = 0 ∨ i = 1 by omega) with z | z <;> subst z
      · exact c_imgN0 wf cs cl c0 kk
      · exact c_imgN1 wf cs cl c0 kk
    | some q =>
      rw [hm] at c0
      rcases (show i = 0 ∨ i = 1 by omega) with z | z <;> subst z
      · exact c_imgS0 wf cs cl c0 kk
      · exact c_imgS1 wf cs cl c0 kk
