/-! Marks in a ring. -/
def sMk (i a _x : Nat) : Bool := Nat.ble (44 + 3 * i) a && Nat.ble a (46 + 3 * i)
theorem sMk_ne {i j a x : Nat} (h : i ≠ j) (ha : 44 + 3 * j ≤ a) (ha2 : a ≤ 46 + 3 * j) : sMk i a x = false := by
  unfold sMk
  rw [Bool.eq_false_iff]
  intro z
  rw [Bool.and_eq_true] at z
  have h1 := Nat.ble_eq.mp z.1
  have h2 := Nat.ble_eq.mp z.2
  omega
theorem sLm_ne {i j a x : Nat} (h : i ≠ j) (ha : 44 + 3 * j ≤ a) (ha2 : a ≤ 46 + 3 * j) : sLm i a x = false := by
  unfold sLm
  rw [Bool.or_eq_false_iff, Bool.eq_false_iff, Bool.eq_false_iff]
  constructor
  · intro z
    rw [Bool.and_eq_true] at z
    have h2 := Nat.ble_eq.mp z.2
    omega
  · intro z
    rw [Bool.and_eq_true] at z
    have h1 := Nat.ble_eq.mp z.1
    have h2 := Nat.ble_eq.mp z.2
    omega
theorem sL3_ne {a x : Nat} (ha : 42 ≤ a) : sL3 a x = false := by
  unfold sL3
  rw [Bool.eq_false_iff]
  intro z
  rw [Bool.and_eq_true] at z
  have h2 := Nat.ble_eq.mp z.2
  omega
theorem mk_q {g : ShG} {i c : Nat} {l0 l : LkG} {h h1 : Hp} {s : Nat → Nat → Bool} (mk : CMK g i l0 l c h) (q : Fq s h h1) (hs : ∀ a x, 44 + 3 * i ≤ a → a ≤ 46 + 3 * i → s a x = false) : CMK g i l0 l c h1 := mk_fq mk (q.I (fun _ => hs _ _ (by omega) (by omega))) (q.I (fun _ => hs _ _ (by omega) (by omega))) (q.I (fun _ => hs _ _ (by omega) (by omega)))
theorem c_take0 {d : Nat} {h : Hp} {g : ShG} {l : LkG} {Q : Po} (hg : ShW g) (cl : CL 39 g l h) (k : ∀ h1, Fq (sMk 0) h h1 → CMK g 0 l l 0 h1 → Q mk_ h1) : wpC (d + 1) true 39 [.ref 44, .ref 39] h Q := by
  have h4 := hg.1
  refine go_in rfl ?_
  refine exf_go 6 (show Go d true 39 10 [.ref 44, .ref 39] [.int (rI h 39 3), .ref 44] (uI h 44 1 0) Q from ?_)
  rw [show (rI h 39 3 : Int32) = nI (lA l) from cl_A cl]
  refine exf_go 4 (show Go d true 39 18 [.ref 44, .ref 39] [.int (rI h 39 4), .ref 44] (uI (uI h 44 1 0) 44 3 (nI (lA l))) Q from ?_)
  rw [show (rI h 39 4 : Int32) = lX l from cl_X cl]
  refine exf_go 4 (show Go d true 39 26 [.ref 44, .ref 39] [.int (rI h 39 5), .ref 44] (uI (uI (uI h 44 1 0) 44 3 (nI (lA l))) 44 4 (lX l)) Q from ?_)
  rw [show (rI h 39 5 : Int32) = lG l from cl_G cl]
  refine exf_go 4 (show Go d true 39 34 [.ref 44, .ref 39] [.int (rI h 39 7), .ref 44] (uI (uI (uI (uI h 44 1 0) 44 3 (nI (lA l))) 44 4 (lX l)) 44 5 (lG l)) Q from ?_)
  rw [show (rI h 39 7 : Int32) = nI (lO l) from cl_O cl]
  refine exf_go 10 (show ((nI (lO l)) = 0 ∨ (nI (lO l)) = 1) ∧ ¬ (0 : Int32) < 0 ∧ ¬ (0 : Int32) < 0 ∧ ¬ (4 : Int32) < 0 ∧ 0 + 4 ≤ 4 ∧ 0 + 4 ≤ 4 ∧ Q (mk_) (uA (uI (uI (uI (uI (uI h 44 1 0) 44 3 (nI (lA l))) 44 4 (lX l)) 44 5 (lG l)) 44 6 (nI (lO l))) 46 (va_cpy (rI h 41) (rI h 46) 0 0 4)) from ⟨(lO_b cl.1), (by decide), (by decide), (by decide), (by first | decide | omega), (by first | decide | omega), ?_⟩)
  exact k _ ((((((Fq.uI' Fq.rfl' _ _ _ rfl).uI' _ _ _ rfl).uI' _ _ _ rfl).uI' _ _ _ rfl).uI' _ _ _ rfl).uA' _ _ (fun _ => rfl)) ⟨by decide, ⟨rfl, rfl, rfl, rfl, rfl⟩, fun v hv => (cpy4 _ _ (by omega)).trans (cl_Fl cl v hv), cl.1, fun _ => 0, fun j hj => absurd hj (Nat.not_lt_zero _), fun j k hj => absurd hj (Nat.not_lt_zero _), fun n _ _ => rfl⟩
theorem c_mk0 {d : Nat} {h : Hp} {g : ShG} {l : LkG} {Q : Po} (wf : WF h) (hg : ShW g) (cl : CL 39 g l h) (hp : rI h 42 1 = 0) (k : ∀ h1, Fq (sMk 0) h h1 → CMK g 0 l l 0 h1 → Q (.ref 44) h1) : wpC (d + 2) true 13 [.ref 42, .ref 39] h Q := by
  refine go_in rfl ?_
  refine exf_go 4 (show Go (d + 1) true 13 8 [.ref 42, .ref 39] [.int (rI h 42 1), .ref 43] h Q from ?_)
  rw [show (rI h 42 1 : Int32) = 0 from hp]
  refine exf_go 1 (show vp_in (0 : Int32) 9 ∧ (rN h 43 0 = true → Go (d + 1) true 13 9 [.ref 42, .ref 39] [.ref 44] h Q) ∧ (rN h 43 0 = false → Go (d + 1) true 13 9 [.ref 42, .ref 39] [.null] h Q) from ⟨vp_in_nI (n := 0) (by decide) (by decide), fun c1 => ?_, fun c1 => ?_⟩)
  · skip
    refine exf_go 2 (show wpC (d + 1) true 39 [.ref 44, .ref 39] h (fun _ h' => Go (d + 1) true 13 13 [.ref 42, .ref 39] [] h' Q) from ?_)
    refine c_take0 hg cl (fun h1 q1 mk1 => ?_)
    have hp1 : rI h1 42 1 = 0 := by rw [q1.I (a := 42) (fun _ => rfl)]; exact hp
    have hn1 : rN h1 43 0 = true := by rw [show rN h1 = rN h from congrArg (·.2.1) q1.2]; exact wf.2.2 43 0 rfl
    show Go (d + 1) true 13 13 [.ref 42, .ref 39] [] h1 Q
    refine exf_go 4 (show Go (d + 1) true 13 21 [.ref 42, .ref 39] [.int (rI h1 42 1), .ref 43] h1 Q from ?_)
    rw [show (rI h1 42 1 : Int32) = 0 from hp1]
    refine exf_go 1 (show vp_in (0 : Int32) 9 ∧ (rN h1 43 0 = true → Go (d + 1) true 13 22 [.ref 42, .ref 39] [.ref 44] h1 Q) ∧ (rN h1 43 0 = false → Go (d + 1) true 13 22 [.ref 42, .ref 39] [.null] h1 Q) from ⟨vp_in_nI (n := 0) (by decide) (by decide), fun c2 => ?_, fun c2 => ?_⟩)
    · skip
      refine exf_go 1 (show Q (.ref 44) h1 from ?_)
      exact k h1 q1 mk1
    · skip
      exact absurd ((hn1).symm.trans c2) (by decide)
  · skip
    exact absurd (((wf.2.2 43 0 rfl)).symm.trans c1) (by decide)
theorem c_keep {d : Nat} {h : Hp} {i m : Nat} {Q : Po} (hp : rI h 42 1 = nI i) (hm : rI h 42 2 = nI m) (hi : i < 9) (hm8 : m ≤ 8) (k : Q mk_ (uI (uI h 42 1 (nI ((i + 1) % 9))) 42 2 (nI (min 8 (m + 1))))) : wpC (d + 2) true 14 [.ref 42] h Q := by
  refine go_in rfl ?_
  refine exf_go 3 (show Go (d + 1) true 14 5 [.ref 42] [.int (rI h 42 1), .ref 42] h Q from ?_)
  rw [show (rI h 42 1 : Int32) = nI i from hp]
  refine exf_go 2 (show Go (d + 1) true 14 7 [.ref 42] [.int ((nI i) + 1), .ref 42] h Q from ?_)
  rw [show ((nI i) + 1 : Int32) = nI (i + 1) from nI_add i 1]
  refine exf_go 2 (show ¬ 9 = 0 ∧ (Go (d + 1) true 14 10 [.ref 42] [.int ((nI (i + 1)) - (nI (i + 1)) / 9 * 9), .ref 42] h Q) from ⟨(by decide), ?_⟩)
  rw [show ((nI (i + 1)) - (nI (i + 1)) / 9 * 9 : Int32) = nI ((i + 1) % 9) from pk_rem (a := (i + 1)) (d := 9) (by omega) (by omega) (by omega)]
  refine exf_go 5 (show Go (d + 1) true 14 20 [.ref 42] [.int (rI h 42 2), .int 8, .ref 42] (uI h 42 1 (nI ((i + 1) % 9))) Q from ?_)
  rw [show (rI h 42 2 : Int32) = nI m from hm]
  refine exf_go 2 (show Go (d + 1) true 14 22 [.ref 42] [.int ((nI m) + 1), .int 8, .ref 42] (uI h 42 1 (nI ((i + 1) % 9))) Q from ?_)
  rw [show ((nI m) + 1 : Int32) = nI (m + 1) from nI_add m 1]
  refine exf_go 1 (show wpC (d + 1) true 304 [.int 8, .int (nI (m + 1))] (uI h 42 1 (nI ((i + 1) % 9))) (fun r h' => Go (d + 1) true 14 25 [.ref 42] [r, .ref 42] h' Q) from ?_)
  refine c_min (a := 8) (b := m + 1) (by omega) (by omega) ?_
  show Go (d + 1) true 14 25 [.ref 42] [.int (nI (min 8 (m + 1))), .ref 42] (uI h 42 1 (nI ((i + 1) % 9))) Q
  refine exf_go 2 (show Q (mk_) (uI (uI h 42 1 (nI ((i + 1) % 9))) 42 2 (nI (min 8 (m + 1)))) from ?_)
  exact k
theorem c_forget {d : Nat} {h : Hp} {Q : Po} (k : Q mk_ (uI h 42 2 0)) : wpC (d + 1) true 16 [.ref 42] h Q := by
  refine go_in rfl ?_
  refine exf_go 4 (show Q (mk_) (uI h 42 2 0) from ?_)
  exact k
/-- one step back along the calls that can be taken back -/
def curL (l : LkG) (hl : Nat → LkG) : Nat → LkG
  | 0 => l
  | k + 1 => hl k
def psh (l : LkG) (hl : Nat → LkG) : Nat → LkG
  | 0 => l
  | k + 1 => hl k
/-- the class's calls that can be taken back: so many, where each led from -/
def CH (g : ShG) (l : LkG) (m : Nat) (hl : Nat → LkG) (i : Nat) (h : Hp) : Prop := i < 9 ∧ m ≤ 8 ∧ rI h 42 1 = nI i ∧ rI h 42 2 = nI m ∧ ∀ k, k < m → ∃ c, CMK g ((i + 8 - k) % 9) (hl k) (curL l hl k) c h
theorem ch_keep {g : ShG} {l l0 : LkG} {m i c : Nat} {hl : Nat → LkG} {h h1 : Hp} {s : Nat → Nat → Bool} (ch : CH g l0 m hl i h) (q : Fq s h h1) (hs : ∀ a x, 42 ≤ a → a ≤ 70 → (a < 44 + 3 * i ∨ 46 + 3 * i < a) → s a x = false) (mk : CMK g i l0 l c h1) : CH g l (min 8 (m + 1)) (psh l0 hl) ((i + 1) % 9) (uI (uI h1 42 1 (nI ((i + 1) % 9))) 42 2 (nI (min 8 (m + 1)))) := by
  obtain ⟨a1, a2, a3, a4, a5⟩ := ch
  refine ⟨by omega, by omega, rfl, rfl, fun k hk => ?_⟩
  have hu : ∀ {j c2 : Nat} {x y : LkG}, j < 9 → CMK g j x y c2 h1 → CMK g j x y c2 (uI (uI h1 42 1 (nI ((i + 1) % 9))) 42 2 (nI (min 8 (m + 1)))) := fun hj mk2 => mk_fq mk2 ((rI_uI_ne (by omega)).trans (rI_uI_ne (by omega))) ((rI_uI_ne (by omega)).trans (rI_uI_ne (by omega))) ((rI_uI_ne (by omega)).trans (rI_uI_ne (by omega)))
  cases k with
  | zero =>
    refine ⟨c, ?_⟩
    rw [show ((i + 1) % 9 + 8 - 0) % 9 = i from by omega]
    exact hu a1 mk
  | succ k =>
    obtain ⟨c2, m2⟩ := a5 k (by omega)
    refine ⟨c2, ?_⟩
    rw [show ((i + 1) % 9 + 8 - (k + 1)) % 9 = (i + 8 - k) % 9 from by omega]
    have m3 : CMK g ((i + 8 - k) % 9) (hl k) (curL l0 hl k) c2 h1 := mk_q m2 q (fun a x u v => hs a x (by omega) (by omega) (by omega))
    have e : curL l (psh l0 hl) (k + 1) = curL l0 hl k := by cases k <;> rfl
    rw [show psh l0 hl (k + 1) = hl k from rfl, e]
    exact hu (by omega) m3
theorem ch_keep0 {g : ShG} {l : LkG} {m i : Nat} {hl : Nat → LkG} {h h1 : Hp} {s : Nat → Nat → Bool} (ch : CH g l m hl i h) (q : Fq s h h1) (hs : ∀ a x, 42 ≤ a → a ≤ 70 → (a < 44 + 3 * i ∨ 46 + 3 * i < a) → s a x = false) : CH g l m hl i h1 := by
  obtain ⟨a1, a2, a3, a4, a5⟩ := ch
  refine ⟨a1, a2, ?_, ?_, fun k hk => ?_⟩
  · rw [q.I (a := 42) (fun x => hs 42 x (by omega) (by omega) (by omega))]; exact a3
  · rw [q.I (a := 42) (fun x => hs 42 x (by omega) (by omega) (by omega))]; exact a4
  · obtain ⟨c2, m2⟩ := a5 k hk
    exact ⟨c2, mk_q m2 q (fun a x u v => hs a x (by omega) (by omega) (by omega))⟩
theorem c_lat0 {d : Nat} {h : Hp} {j m : Nat} {Q : Po} (wf : WF h) (hp : rI h 42 1 = nI j) (hm : rI h 42 2 = nI (m + 1)) (hj : j < 9) (hm8 : m < 8) (hi : (j + 8) % 9 = 0) (k : Q (.ref 44) (uI (uI h 42 1 0) 42 2 (nI m))) : wpC (d + 2) true 15 [.ref 42] h Q := by
  have hj8 : nI (j + 9) - 1 = nI (j + 8) := nI_pred (j + 8)
  have hj2 : nI (j + 8) - nI (j + 8) / 9 * 9 = 0 := (pk_rem (a := j + 8) (d := 9) (by omega) (by omega) (by omega)).trans (by rw [hi]; rfl)
  refine go_in rfl ?_
  refine exf_go 3 (show Go (d + 1) true 15 5 [.ref 42] [.int (rI h 42 1), .ref 42] h Q from ?_)
  rw [show (rI h 42 1 : Int32) = nI j from hp]
  refine exf_go 2 (show Go (d + 1) true 15 8 [.ref 42] [.int ((nI j) + 9), .ref 42] h Q from ?_)
  rw [show ((nI j) + 9 : Int32) = nI (j + 9) from nI_add j 9]
  refine exf_go 2 (show Go (d + 1) true 15 10 [.ref 42] [.int ((nI (j + 9)) - 1), .ref 42] h Q from ?_)
  rw [show ((nI (j + 9)) - 1 : Int32) = nI (j + 8) from hj8]
  refine exf_go 2 (show ¬ 9 = 0 ∧ (Go (d + 1) true 15 13 [.ref 42] [.int ((nI (j + 8)) - (nI (j + 8)) / 9 * 9), .ref 42] h Q) from ⟨(by decide), ?_⟩)
  rw [show ((nI (j + 8)) - (nI (j + 8)) / 9 * 9 : Int32) = 0 from hj2]
  refine exf_go 5 (show Go (d + 1) true 15 22 [.ref 42] [.int (rI h 42 2), .int 0, .ref 42] (uI h 42 1 0) Q from ?_)
  rw [show (rI h 42 2 : Int32) = nI (m + 1) from hm]
  refine exf_go 2 (show Go (d + 1) true 15 24 [.ref 42] [.int ((nI (m + 1)) - 1), .int 0, .ref 42] (uI h 42 1 0) Q from ?_)
  rw [show ((nI (m + 1)) - 1 : Int32) = nI m from nI_pred m]
  refine exf_go 1 (show wpC (d + 1) true 302 [.int 0, .int (nI m)] (uI h 42 1 0) (fun r h' => Go (d + 1) true 15 27 [.ref 42] [r, .ref 42] h' Q) from ?_)
  refine c_max (a := 0) (b := m) (by omega) (by omega) ?_
  rw [show max 0 m = m from by omega]
  show Go (d + 1) true 15 27 [.ref 42] [.int (nI m), .ref 42] (uI h 42 1 0) Q
  refine exf_go 6 (show vp_in (0 : Int32) 9 ∧ (rN (uI (uI h 42 1 0) 42 2 (nI m)) 43 0 = true → Go (d + 1) true 15 39 [.ref 42] [.ref 44] (uI (uI h 42 1 0) 42 2 (nI m)) Q) ∧ (rN (uI (uI h 42 1 0) 42 2 (nI m)) 43 0 = false → Go (d + 1) true 15 39 [.ref 42] [.null] (uI (uI h 42 1 0) 42 2 (nI m)) Q) from ⟨vp_in_nI (n := 0) (by decide) (by decide), fun c1 => ?_, fun c1 => ?_⟩)
  · skip
    refine exf_go 1 (show Q (.ref 44) (uI (uI h 42 1 0) 42 2 (nI m)) from ?_)
    exact k
  · skip
    exact absurd (((wf.2.2 43 0 rfl)).symm.trans c1) (by decide)
