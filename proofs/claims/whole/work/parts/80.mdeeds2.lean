/-! The model's calls that do something. -/
def blk (b j : Nat) : Nat := 372 + 321 * b + j
/-- the model's calls that can be taken back -/
def MH (g : ShG) (m : Nat) (hl : Nat → LkG) (h : Hp) : Prop := rI h 131 371 = nI m ∧ m ≤ 8 ∧ ∀ k, k < m → LkW g (hl k) ∧ SN (fun j => rI h 131 (blk (m - 1 - k) j)) g (hl k)
def MD (g : ShG) (e : DeG) (h : Hp) : Prop := MS g e.1 h ∧ MH g e.2.1 e.2.2 h
def sDe (a i : Nat) : Bool := scM a i || (Nat.beq a 131 && (Nat.ble 50 i && Nat.ble i 2939))
theorem sDe_f {i : Nat} (h : i < 50 ∨ 2939 < i) : sDe 131 i = false := by
  unfold sDe
  rw [show scM 131 i = false from rfl, Bool.false_or, Bool.eq_false_iff]
  intro z
  simp only [Bool.and_eq_true] at z
  have h1 := Nat.ble_eq.mp z.2.1
  have h2 := Nat.ble_eq.mp z.2.2
  omega
theorem sDe_x {a i : Nat} (h : sDe a i = false) : scM a i = false ∧ (a = 131 → i < 50 ∨ 2939 < i) := by
  unfold sDe at h
  rw [Bool.or_eq_false_iff] at h
  refine ⟨h.1, fun e => ?_⟩
  subst e
  have h2 := h.2
  rw [Nat.beq_refl, Bool.true_and, Bool.eq_false_iff] at h2
  refine Classical.byContradiction fun q => h2 ?_
  rw [Bool.and_eq_true]
  exact ⟨Nat.ble_eq.mpr (by omega), Nat.ble_eq.mpr (by omega)⟩
theorem go_D {h h1 : Hp} (q : Fq sGo h h1) : Fq sDe h h1 := q.mono (fun a i e => by
  have h2 := sDe_x e
  by_cases q : a = 131
  · rw [q]; exact sGo_f (by have := h2.2 q; omega)
  · unfold sGo
    rw [show Nat.beq a 131 = false from by rw [Bool.eq_false_iff]; intro z; exact q (Nat.eq_of_beq_eq_true z)]
    rfl)
theorem nt_D {h h1 : Hp} (q : Fq sNt h h1) : Fq sDe h h1 := q.mono (fun a i e => by
  have h2 := sDe_x e
  by_cases q : a = 131
  · rw [q]; exact sNt_f (by have := h2.2 q; omega)
  · unfold sNt
    rw [show Nat.beq a 131 = false from by rw [Bool.eq_false_iff]; intro z; exact q (Nat.eq_of_beq_eq_true z)]
    rfl)
theorem mh_D {g : ShG} {m : Nat} {hl : Nat → LkG} {h h1 : Hp} (hg : ShW g) (mh : MH g m hl h) (hq : ∀ i, 371 ≤ i → i ≤ 2939 → rI h1 131 i = rI h 131 i) : MH g m hl h1 := by
  obtain ⟨a1, a2, a3⟩ := mh
  refine ⟨(hq 371 (by omega) (by omega)).trans a1, a2, fun k hk => ⟨(a3 k hk).1, sn_cg hg (a3 k hk).2 (fun j hj => hq _ (by unfold blk; omega) (by unfold blk; omega))⟩⟩
/-- what is noted comes ahead of all others -/
theorem mh_note {g : ShG} {e : DeG} {h h1 : Hp} {W : Nat → Int32} (hg : ShW g) (hl : LkW g e.1) (mh : MH g e.2.1 e.2.2 h) (sn : SN W g e.1) (h0 : rI h1 131 371 = nI (min 8 (e.2.1 + 1))) (h2 : ∀ j, j < 321 → rI h1 131 (blk (min 7 e.2.1) j) = W j) (h3 : ∀ b j, b < min 7 e.2.1 → j < 321 → rI h1 131 (blk b j) = rI h 131 (blk (if e.2.1 = 8 then b + 1 else b) j)) (l : LkG) : MH g (keepD e l).2.1 (keepD e l).2.2 h1 := by
  obtain ⟨a1, a2, a3⟩ := mh
  refine ⟨h0, (by show min 8 (e.2.1 + 1) ≤ 8; omega), fun k hk => ?_⟩
  have hk2 : k < min 8 (e.2.1 + 1) := hk
  cases k with
  | zero =>
    refine ⟨hl, sn_cg hg sn (fun j hj => ?_)⟩
    show rI h1 131 (blk (min 8 (e.2.1 + 1) - 1 - 0) j) = W j
    rw [show min 8 (e.2.1 + 1) - 1 - 0 = min 7 e.2.1 from by omega]
    exact h2 j hj
  | succ k =>
    have ih := a3 k (by omega)
    refine ⟨ih.1, sn_cg hg ih.2 (fun j hj => ?_)⟩
    show rI h1 131 (blk (min 8 (e.2.1 + 1) - 1 - (k + 1)) j) = rI h 131 (blk (e.2.1 - 1 - k) j)
    rw [h3 _ j (by omega) hj]
    refine congrArg (rI h 131) (congrArg (blk · j) ?_)
    split <;> omega
theorem m_notes {d : Nat} {h : Hp} {m : Nat} {Q : Po} (hm : rI h 131 371 = nI m) (hm8 : m ≤ 8) (k : ∀ h1, Fq sNt h h1 → rI h1 131 371 = nI (min 8 (m + 1)) → (∀ j, j < 321 → rI h1 131 (blk (min 7 m) j) = rI h 141 j) → (∀ b j, b < min 7 m → j < 321 → rI h1 131 (blk b j) = rI h 131 (blk (if m = 8 then b + 1 else b) j)) → Q mk_ h1) : wpC (d + 1) true 250 [.ref 130] h Q := by
  refine go_in rfl ?_
  have X60 : ∀ (z1 : Value) (m1 : Nat) (h1 : Hp), (m1 = min 7 m) → (Fq sNt h h1) → (rI h1 131 371 = nI m1) → (∀ b j, b < m1 → j < 321 → rI h1 131 (blk b j) = rI h 131 (blk (if m = 8 then b + 1 else b) j)) → Go d true 250 60 [.ref 130, z1] [] h1 Q := by
    intro z1 m1 h1 em q1 hm1 hb1
    refine exf_go 2 (show Go d true 250 62 [.ref 130, .int 0] [] h1 Q from ?_)
    have L62 : ∀ (k62 : Nat) (i : Nat) (h2 : Hp), (321 - i) < k62 → (i ≤ 321) → (Fq sNt h h2) → (rI h2 131 371 = nI m1) → (∀ b j, b < m1 → j < 321 → rI h2 131 (blk b j) = rI h 131 (blk (if m = 8 then b + 1 else b) j)) → (∀ j, j < i → rI h2 131 (blk m1 j) = rI h 141 j) → Go d true 250 62 [.ref 130, .int (nI i)] [] h2 Q := by
      intro k62
      induction k62 with
      | zero => intro i h2 hk; exact absurd hk (Nat.not_lt_zero _)
      | succ k62 ih62 =>
        intro i h2 hk hi q2 hm2 hb2 hw
        refine exf_go 3 (show (321 ≤ (nI i) → Go d true 250 104 [.ref 130, .int (nI i)] [] h2 Q) ∧ (¬ (321 ≤ (nI i)) → Go d true 250 69 [.ref 130, .int (nI i)] [] h2 Q) from ⟨fun c1 => ?_, fun c1 => ?_⟩)
        · skip
          have c1 : 321 ≤ i := (nI_leI (a := 321) (b := i) (by omega) (by omega)).mp c1
          refine exf_go 5 (show vp_in 371 41523 ∧ (Go d true 250 113 [.ref 130, .int (nI i)] [.int (rI h2 131 371), .int 371, .ref 131] h2 Q) from ⟨(vp_in_nI (n := 371) (by decide) (by decide)), ?_⟩)
          rw [show (rI h2 131 371 : Int32) = nI m1 from hm2]
          refine exf_go 2 (show Go d true 250 115 [.ref 130, .int (nI i)] [.int ((nI m1) + 1), .int 371, .ref 131] h2 Q from ?_)
          rw [show ((nI m1) + 1 : Int32) = nI (m1 + 1) from nI_add m1 1]
          refine exf_go 2 (show vp_in 371 41523 ∧ Q (mk_) (uI h2 131 371 (nI (m1 + 1))) from ⟨(vp_in_nI (n := 371) (by decide) (by decide)), ?_⟩)
          exact k _ (q2.uI' _ _ _ (sNt_t (by omega) (by omega))) (by rw [rI_uI_eq]; exact congrArg nI (by omega)) (fun j hj => by rw [← em, rI_uI_at (by unfold blk; omega)]; exact hw j (by omega)) (fun b j hb hj => by rw [rI_uI_at (by unfold blk; omega)]; exact hb2 b j (by omega) hj)
        · skip
          have c1 : ¬ 321 ≤ i := fun q => c1 ((nI_leI (a := 321) (b := i) (by omega) (by omega)).mpr q)
          refine exf_go 8 (show vp_in 371 41523 ∧ (Go d true 250 87 [.ref 130, .int (nI i)] [.int (rI h2 131 371), .int 321, .int 372, .ref 131] h2 Q) from ⟨(vp_in_nI (n := 371) (by decide) (by decide)), ?_⟩)
          rw [show (rI h2 131 371 : Int32) = nI m1 from hm2]
          refine exf_go 1 (show Go d true 250 88 [.ref 130, .int (nI i)] [.int (321 * (nI m1)), .int 372, .ref 131] h2 Q from ?_)
          rw [show (321 * (nI m1) : Int32) = nI (321 * m1) from pk_mul 321 m1]
          refine exf_go 1 (show Go d true 250 89 [.ref 130, .int (nI i)] [.int (372 + (nI (321 * m1))), .ref 131] h2 Q from ?_)
          rw [show (372 + (nI (321 * m1)) : Int32) = nI (372 + (321 * m1)) from nI_add 372 (321 * m1)]
          refine exf_go 2 (show Go d true 250 91 [.ref 130, .int (nI i)] [.int ((nI (372 + (321 * m1))) + (nI i)), .ref 131] h2 Q from ?_)
          rw [show ((nI (372 + (321 * m1))) + (nI i) : Int32) = nI ((372 + (321 * m1)) + i) from nI_add (372 + (321 * m1)) i]
          refine exf_go 6 (show vp_in (nI i) 321 ∧ vp_in (nI ((372 + (321 * m1)) + i)) 41523 ∧ (Go d true 250 101 [.ref 130, .int ((nI i) + 1)] [] (uI h2 131 ((nI ((372 + (321 * m1)) + i)).toNatClampNeg) (rI h2 141 ((nI i).toNatClampNeg))) Q) from ⟨(vp_in_nI (by omega) (by omega)), (vp_in_nI (by omega) (by omega)), ?_⟩)
          rw [show ((nI i) + 1 : Int32) = nI (i + 1) from nI_add i 1]
          refine exf_go 1 (show Go d true 250 62 [.ref 130, .int (nI (i + 1))] [] (uI h2 131 ((nI ((372 + (321 * m1)) + i)).toNatClampNeg) (rI h2 141 ((nI i).toNatClampNeg))) Q from ?_)
          exact ih62 (i + 1) _ (by omega) (by omega) (q2.uI' _ _ _ (sNt_t (by rw [nI_clamp (by omega)]; omega) (by rw [nI_clamp (by omega)]; omega))) (by rw [nI_clamp (by omega), rI_uI_at (by omega)]; exact hm2) (fun b j hb hj => by rw [nI_clamp (by omega), rI_uI_at (by unfold blk; omega)]; exact hb2 b j hb hj) (fun j hj => by rw [nI_clamp (by omega)]; exact (Decidable.em (j = i)).elim (fun e => by rw [e, show 372 + 321 * m1 + i = blk m1 i from rfl, rI_uI_eq, nI_clamp (by omega), q2.I (a := 141) (fun _ => rfl)]) (fun e => by rw [rI_uI_at (by unfold blk; omega)]; exact hw j (by omega)))
    exact L62 (321 + 1) 0 h1 (by omega) (by omega) q1 hm1 hb1 (fun j hj => absurd hj (Nat.not_lt_zero _))
  refine exf_go 4 (show vp_in 371 41523 ∧ (Go d true 250 8 [.ref 130, mk_] [.int (rI h 131 371)] h Q) from ⟨(vp_in_nI (n := 371) (by decide) (by decide)), ?_⟩)
  rw [show (rI h 131 371 : Int32) = nI m from hm]
  refine exf_go 2 (show (¬ (nI m) = 8 → Go d true 250 60 [.ref 130, mk_] [] h Q) ∧ (¬ (¬ (nI m) = 8) → Go d true 250 13 [.ref 130, mk_] [] h Q) from ⟨fun c2 => ?_, fun c2 => ?_⟩)
  · skip
    have c2 : ¬ m = 8 := fun q => c2 ((nI_eq (a := m) (b := 8) (by omega) (by omega)).mpr q)
    exact X60 mk_ m h (by omega) Fq.rfl' hm (fun b j hb hj => by rw [if_neg (by omega)])
  · skip
    have c2 : m = 8 := (nI_eq (a := m) (b := 8) (by omega) (by omega)).mp (Classical.not_not.mp c2)
    refine exf_go 2 (show Go d true 250 15 [.ref 130, .int 0] [] h Q from ?_)
    have L15 : ∀ (k15 : Nat) (i : Nat) (h3 : Hp), (2247 - i) < k15 → (i ≤ 2247) → (Fq sNt h h3) → (rI h3 131 371 = nI 8) → (∀ x, x < i → rI h3 131 (372 + x) = rI h 131 (693 + x)) → (∀ y, 372 + i ≤ y → rI h3 131 y = rI h 131 y) → Go d true 250 15 [.ref 130, .int (nI i)] [] h3 Q := by
      intro k15
      induction k15 with
      | zero => intro i h3 hk; exact absurd hk (Nat.not_lt_zero _)
      | succ k15 ih15 =>
        intro i h3 hk hi q3 hm3 ha hb
        refine exf_go 3 (show (2247 ≤ (nI i) → Go d true 250 48 [.ref 130, .int (nI i)] [] h3 Q) ∧ (¬ (2247 ≤ (nI i)) → Go d true 250 22 [.ref 130, .int (nI i)] [] h3 Q) from ⟨fun c3 => ?_, fun c3 => ?_⟩)
        · skip
          have c3 : 2247 ≤ i := (nI_leI (a := 2247) (b := i) (by omega) (by omega)).mp c3
          refine exf_go 5 (show vp_in 371 41523 ∧ (Go d true 250 57 [.ref 130, .int (nI i)] [.int (rI h3 131 371), .int 371, .ref 131] h3 Q) from ⟨(vp_in_nI (n := 371) (by decide) (by decide)), ?_⟩)
          rw [show (rI h3 131 371 : Int32) = nI 8 from hm3]
          refine exf_go 2 (show Go d true 250 59 [.ref 130, .int (nI i)] [.int ((nI 8) - 1), .int 371, .ref 131] h3 Q from ?_)
          rw [show ((nI 8) - 1 : Int32) = nI 7 from nI_pred 7]
          refine exf_go 1 (show vp_in 371 41523 ∧ (Go d true 250 60 [.ref 130, .int (nI i)] [] (uI h3 131 371 (nI 7)) Q) from ⟨(vp_in_nI (n := 371) (by decide) (by decide)), ?_⟩)
          exact X60 (.int (nI i)) 7 _ (by omega) (q3.uI' _ _ _ (sNt_t (by omega) (by omega))) rI_uI_eq (fun b j hb hj => by rw [if_pos (by omega), rI_uI_at (by unfold blk; omega)]; have := ha (321 * b + j) (by omega); rw [show 372 + (321 * b + j) = blk b j from by unfold blk; omega, show 693 + (321 * b + j) = blk (b + 1) j from by unfold blk; omega] at this; exact this)
        · skip
          have c3 : ¬ 2247 ≤ i := fun q => c3 ((nI_leI (a := 2247) (b := i) (by omega) (by omega)).mpr q)
          refine exf_go 5 (show Go d true 250 31 [.ref 130, .int (nI i)] [.int (372 + (nI i)), .ref 131] h3 Q from ?_)
          rw [show (372 + (nI i) : Int32) = nI (372 + i) from nI_add 372 i]
          refine exf_go 5 (show Go d true 250 40 [.ref 130, .int (nI i)] [.int (693 + (nI i)), .ref 131, .int (nI (372 + i)), .ref 131] h3 Q from ?_)
          rw [show (693 + (nI i) : Int32) = nI (693 + i) from nI_add 693 i]
          refine exf_go 3 (show vp_in (nI (693 + i)) 41523 ∧ vp_in (nI (372 + i)) 41523 ∧ (Go d true 250 45 [.ref 130, .int ((nI i) + 1)] [] (uI h3 131 ((nI (372 + i)).toNatClampNeg) (rI h3 131 ((nI (693 + i)).toNatClampNeg))) Q) from ⟨(vp_in_nI (by omega) (by omega)), (vp_in_nI (by omega) (by omega)), ?_⟩)
          rw [show ((nI i) + 1 : Int32) = nI (i + 1) from nI_add i 1]
          refine exf_go 1 (show Go d true 250 15 [.ref 130, .int (nI (i + 1))] [] (uI h3 131 ((nI (372 + i)).toNatClampNeg) (rI h3 131 ((nI (693 + i)).toNatClampNeg))) Q from ?_)
          exact ih15 (i + 1) _ (by omega) (by omega) (q3.uI' _ _ _ (sNt_t (by rw [nI_clamp (by omega)]; omega) (by rw [nI_clamp (by omega)]; omega))) (by rw [nI_clamp (by omega), rI_uI_at (by omega)]; exact hm3) (fun x hx => by rw [nI_clamp (by omega)]; exact (Decidable.em (x = i)).elim (fun e => by rw [e, rI_uI_eq, nI_clamp (by omega), hb _ (by omega)]) (fun e => by rw [rI_uI_at (by omega)]; exact ha x (by omega))) (fun y hy => by rw [nI_clamp (by omega), rI_uI_at (by omega)]; exact hb y (by omega))
    exact L15 (2247 + 1) 0 h (by omega) (by omega) Fq.rfl' (by rw [hm]; exact congrArg nI (by omega)) (fun x hx => absurd hx (Nat.not_lt_zero _)) (fun y hy => rfl)
theorem md_M {g : ShG} {e : DeG} {h h1 : Hp} (md : MD g e h) (q : Fq scM h h1) : MD g e h1 := ⟨ms_fq md.1 q, mh_D md.1.1.1 md.2 (fun i _ _ => (q.1 131 i rfl).1)⟩
theorem M_D {h h1 : Hp} (q : Fq scM h h1) : Fq sDe h h1 := q.mono (fun a i e => (sDe_x e).1)
theorem md_note {g : ShG} {e : DeG} {l : LkG} {h h1 h2 h3 : Hp} (md : MD g e h) (q0 : Fq (sAt 141) h h1) (hk : ∀ i, i < 321 → rI h1 141 i = rI h 131 (50 + i)) (q1 : Fq sGo h1 h2) (ms2 : MS g l h2) (q2 : Fq sNt h2 h3) (h0 : rI h3 131 371 = nI (min 8 (e.2.1 + 1))) (h2' : ∀ j, j < 321 → rI h3 131 (blk (min 7 e.2.1) j) = rI h2 141 j) (h3' : ∀ b j, b < min 7 e.2.1 → j < 321 → rI h3 131 (blk b j) = rI h2 131 (blk (if e.2.1 = 8 then b + 1 else b) j)) : MD g (keepD e l) h3 := by
  refine ⟨ms_nt ms2 q2, ?_⟩
  have hb : ∀ i, 371 ≤ i → i ≤ 2939 → rI h2 131 i = rI h 131 i := fun i u v => (q1.1 131 i (sGo_f (by omega))).1.trans (q0.1 131 i rfl).1
  refine mh_note (W := rI h2 141) md.1.1.1 md.1.1.2 md.2 (sn_cg md.1.1.1 (sn_ms md.1) (fun j hj => by rw [q1.I (a := 141) (fun _ => rfl)]; exact hk j hj)) h0 h2' (fun b j u v => ?_) l
  rw [h3' b j u v]
  exact hb _ (by unfold blk; omega) (by have := md.2.2.1; unfold blk; split <;> omega)
theorem m_tries {d : Nat} {h : Hp} {g : ShG} {e : DeG} {x : Int32} {Q : Po} (md : MD g e h) (k : ∀ h1, Fq sDe h h1 → MD g (dTries g e x).1 h1 → Q (.int (dTries g e x).2) h1) : wpC (d + 4) true 253 [.ref 130, .int x] h Q := by
  have hN := tot_b md.1.1.1
  have h4 := md.1.1.1.1
  have md0 := md
  obtain ⟨ms, mh⟩ := md
  have hm8 := mh.2.1; have hO1 := ms.1.2.2.1; have hA := ms.1.2.1
  refine go_in rfl ?_
  refine exf_go 7 (show wpC (d + 3) true 218 [.ref 130, .long x.toInt64] (uI h 130 0 0) (fun r h' => Go (d + 3) true 253 11 [.ref 130, .int x] [r] h' Q) from ?_)
  refine m_isNumber (x := x) (ms_fq ms (Fq.uI' Fq.rfl' _ _ _ rfl)) (fun j1 e1 q1 r1 => ?_) (fun e1 => ?_)
  · skip
    subst q1
    show Go (d + 3) true 253 11 [.ref 130, .int (nI j1)] [.int 1] (uI h 130 0 0) Q
    refine exf_go 1 (show (¬ (1 : Int32) = 0 → Go (d + 3) true 253 17 [.ref 130, .int (nI j1)] [] (uI h 130 0 0) Q) ∧ (¬ (¬ (1 : Int32) = 0) → Go (d + 3) true 253 14 [.ref 130, .int (nI j1)] [] (uI h 130 0 0) Q) from ⟨fun c2 => ?_, fun c2 => ?_⟩)
    · skip
      refine exf_go 4 (show vp_in 53 41523 ∧ (Go (d + 3) true 253 24 [.ref 130, .int (nI j1)] [.int (rI h 131 53)] (uI h 130 0 0) Q) from ⟨(vp_in_nI (n := 53) (by decide) (by decide)), ?_⟩)
      rw [show (rI h 131 53 : Int32) = nI (lO e.1) from ms_Op ms]
      refine exf_go 2 (show (¬ (nI (lO e.1)) = 1 → Go (d + 3) true 253 31 [.ref 130, .int (nI j1)] [] (uI h 130 0 0) Q) ∧ (¬ (¬ (nI (lO e.1)) = 1) → Go (d + 3) true 253 28 [.ref 130, .int (nI j1)] [] (uI h 130 0 0) Q) from ⟨fun c3 => ?_, fun c3 => ?_⟩)
      · skip
        have c3 : ¬ (lO e.1) = 1 := fun q => c3 ((nI_eq (a := (lO e.1)) (b := 1) (by omega) (by omega)).mpr q)
        refine exf_go 2 (show wpC (d + 3) true 248 [.ref 130] (uI h 130 0 0) (fun _ h' => Go (d + 3) true 253 35 [.ref 130, .int (nI j1)] [] h' Q) from ?_)
        have mdk := (md_M (h1 := uI h 130 0 0) md0 (Fq.uI' Fq.rfl' _ _ _ rfl))
        have qdk : Fq sDe h _ := M_D (h1 := uI h 130 0 0) (Fq.uI' Fq.rfl' _ _ _ rfl)
        refine m_keeps (fun h1 q1 hk1 => ?_)
        have ms1 := ms_fq mdk.1 (q1.mono (sAt_s (fun _ => rfl)))
        show Go (d + 3) true 253 35 [.ref 130, .int (nI j1)] [] h1 Q
        refine exf_go 3 (show wpC (d + 3) true 252 [.ref 130, .int (nI j1)] h1 (fun _ h' => Go (d + 3) true 253 40 [.ref 130, .int (nI j1)] [] h' Q) from ?_)
        refine m_goesTo ms1 (n := j1) (by omega) (fun h2 q2 ms2 => ?_)
        have mh2 : rI h2 131 371 = nI e.2.1 := (q2.1 131 371 rfl).1.trans ((q1.1 131 371 rfl).1.trans mdk.2.1)
        show Go (d + 3) true 253 40 [.ref 130, .int (nI j1)] [] h2 Q
        refine exf_go 2 (show wpC (d + 3) true 250 [.ref 130] h2 (fun _ h' => Go (d + 3) true 253 44 [.ref 130, .int (nI j1)] [] h' Q) from ?_)
        refine m_notes mh2 hm8 (fun h3 q3 n0 n1 n2 => ?_)
        have md3 := md_note mdk q1 hk1 q2 ms2 q3 n0 n1 n2
        have qd3 : Fq sDe h h3 := ((qdk.tr (q1.mono (sAt_s (fun _ => rfl)))).tr (go_D q2)).tr (nt_D q3)
        show Go (d + 3) true 253 44 [.ref 130, .int (nI j1)] [] h3 Q
        refine exf_go 4 (show vp_in 53 41523 ∧ (Go (d + 3) true 253 51 [.ref 130, .int (nI j1)] [.int (rI h3 131 53)] h3 Q) from ⟨(vp_in_nI (n := 53) (by decide) (by decide)), ?_⟩)
        rw [show (rI h3 131 53 : Int32) = nI (lO (tryL g e.1 j1)) from ms_Op md3.1]
        refine exf_go 1 (show Q (.int (nI (lO (tryL g e.1 j1)))) h3 from ?_)
        simp only [dTries, e1] at k; rw [if_neg (by omega)] at k
        exact k _ qd3 md3
      · skip
        have c3 : (lO e.1) = 1 := (nI_eq (a := (lO e.1)) (b := 1) (by omega) (by omega)).mp (Classical.not_not.mp c3)
        refine exf_go 2 (show Q (.int (-5)) (uI h 130 0 0) from ?_)
        simp only [dTries, e1] at k; rw [if_pos (by omega)] at k
        exact k _ (M_D (Fq.uI' Fq.rfl' _ _ _ rfl)) (md_M (h1 := uI h 130 0 0) md0 (Fq.uI' Fq.rfl' _ _ _ rfl))
    · skip
      exact absurd (by decide) c2
  · skip
    show Go (d + 3) true 253 11 [.ref 130, .int x] [.int 0] (uI h 130 0 0) Q
    refine exf_go 1 (show (¬ (0 : Int32) = 0 → Go (d + 3) true 253 17 [.ref 130, .int x] [] (uI h 130 0 0) Q) ∧ (¬ (¬ (0 : Int32) = 0) → Go (d + 3) true 253 14 [.ref 130, .int x] [] (uI h 130 0 0) Q) from ⟨fun c4 => ?_, fun c4 => ?_⟩)
    · skip
      exact absurd c4 (by decide)
    · skip
      refine exf_go 2 (show Q (.int (-3)) (uI h 130 0 0) from ?_)
      simp only [dTries, e1] at k
      exact k _ (M_D (Fq.uI' Fq.rfl' _ _ _ rfl)) (md_M (h1 := uI h 130 0 0) md0 (Fq.uI' Fq.rfl' _ _ _ rfl))
theorem ms_fel {g : ShG} {l : LkG} {h h1 : Hp} {o w f : Nat} (ms : MS g l h) (hw : w < 4) (e1 : rI h1 131 51 = lX l + 2) (e2 : rI h1 131 (54 + w) = nI (felN g l o w f)) (hc : ∀ j, j ≠ 51 → j ≠ 54 + w → rI h1 131 j = rI h 131 j) : MS g (felL g l o w f) h1 := by
  have sn := sn_ms ms
  refine ms_sn ms (LkW_fel ms.1.2 o w f) ⟨(hc 50 (by omega) (by omega)).trans sn.1, e1, (hc 52 (by omega) (by omega)).trans sn.2.2.1, (hc 53 (by omega) (by omega)).trans sn.2.2.2.1, fun v hv => ?_, fun m hm => ?_⟩ (fun j u v => hc j (by omega) (by omega))
  · show rI h1 131 (50 + (4 + v)) = nI (va_up (lF l) w (felN g l o w f) v)
    by_cases e : v = w
    · subst e; rw [up_eq, show 50 + (4 + v) = 54 + v from by omega]; exact e2
    · rw [up_ne e, hc _ (by omega) (by omega)]; exact sn.2.2.2.2.1 v hv
  · show tbt (rI h1 131 (50 + (8 + m / 32))) (m % 32) = _
    rw [hc _ (by omega) (by omega)]
    exact sn.2.2.2.2.2 m hm
theorem m_feel {d : Nat} {h : Hp} {g : ShG} {e : DeG} {x y : Int32} {Q : Po} (md : MD g e h) (k : ∀ h1, Fq sDe h h1 → MD g (dFeel g e x y).1 h1 → Q (.int (dFeel g e x y).2) h1) : wpC (d + 4) true 254 [.ref 130, .int x, .int y] h Q := by
  have hN := tot_b md.1.1.1
  have h4 := md.1.1.1.1
  have md0 := md
  obtain ⟨ms, mh⟩ := md
  have hm8 := mh.2.1; have hO1 := ms.1.2.2.1; have hA := ms.1.2.1
  have hob := ms.1.1.2.2.2.2.2.2.2.2.2.2.2.1
  refine go_in rfl ?_
  refine exf_go 6 (show wpC (d + 3) true 219 [.ref 130, .int x] (uI h 130 0 0) (fun r h' => Go (d + 3) true 254 10 [.ref 130, .int x, .int y, mk_] [r] h' Q) from ?_)
  refine m_isWheel (x := x) (ms_fq ms (Fq.uI' Fq.rfl' _ _ _ rfl)) (fun j1 e1 q1 r1 => ?_) (fun e1 => ?_)
  · skip
    subst q1
    show Go (d + 3) true 254 10 [.ref 130, .int (nI j1), .int y, mk_] [.int 1] (uI h 130 0 0) Q
    refine exf_go 1 (show (¬ (1 : Int32) = 0 → Go (d + 3) true 254 16 [.ref 130, .int (nI j1), .int y, mk_] [] (uI h 130 0 0) Q) ∧ (¬ (¬ (1 : Int32) = 0) → Go (d + 3) true 254 13 [.ref 130, .int (nI j1), .int y, mk_] [] (uI h 130 0 0) Q) from ⟨fun c2 => ?_, fun c2 => ?_⟩)
    · skip
      refine exf_go 8 (show Go (d + 3) true 254 27 [.ref 130, .int (nI j1), .int y, mk_] [.int (10 + (nI j1)), .ref 131, .long 0, .long y.toInt64] (uI h 130 0 0) Q from ?_)
      rw [show (10 + (nI j1) : Int32) = nI (10 + j1) from nI_add 10 j1]
      refine exf_go 1 (show vp_in (nI (10 + j1)) 41523 ∧ (Go (d + 3) true 254 28 [.ref 130, .int (nI j1), .int y, mk_] [.int (rI h 131 ((nI (10 + j1)).toNatClampNeg)), .long 0, .long y.toInt64] (uI h 130 0 0) Q) from ⟨(vp_in_nI (by omega) (by omega)), ?_⟩)
      rw [show (rI h 131 ((nI (10 + j1)).toNatClampNeg) : Int32) = nI (sF g j1) from ms_F ms (n := j1) (by omega)]
      have := sF_b ms.1.1 j1
      refine exf_go 2 (show Go (d + 3) true 254 30 [.ref 130, .int (nI j1), .int y, mk_] [.int ((nI (sF g j1)) - 1), .long 0, .long y.toInt64] (uI h 130 0 0) Q from ?_)
      rw [show ((nI (sF g j1)) - 1 : Int32) = pI (sF g j1) from pI_sub _]
      refine exf_go 2 (show wpC (d + 3) true 183 [.long y.toInt64, .long 0, .long ((pI (sF g j1)).toInt64)] (uI h 130 0 0) (fun r h' => Go (d + 3) true 254 34 [.ref 130, .int (nI j1), .int y, mk_] [r] h' Q) from ?_)
      refine m_within (fun u3 v3 => ?_) (fun u3 => ?_)
      · skip
        obtain ⟨j3, e3, e3q, e3r⟩ := wi_in (n := sF g j1) (by have := sF_b ms.1.1 j1; omega) u3 v3
        subst e3q
        show Go (d + 3) true 254 34 [.ref 130, .int (nI j1), .int (nI j3), mk_] [.int 1] (uI h 130 0 0) Q
        refine exf_go 1 (show (¬ (1 : Int32) = 0 → Go (d + 3) true 254 40 [.ref 130, .int (nI j1), .int (nI j3), mk_] [] (uI h 130 0 0) Q) ∧ (¬ (¬ (1 : Int32) = 0) → Go (d + 3) true 254 37 [.ref 130, .int (nI j1), .int (nI j3), mk_] [] (uI h 130 0 0) Q) from ⟨fun c4 => ?_, fun c4 => ?_⟩)
        · skip
          refine exf_go 4 (show vp_in 9 41523 ∧ (Go (d + 3) true 254 47 [.ref 130, .int (nI j1), .int (nI j3), mk_] [.int (rI h 131 9)] (uI h 130 0 0) Q) from ⟨(vp_in_nI (n := 9) (by decide) (by decide)), ?_⟩)
          rw [show (rI h 131 9 : Int32) = oI (sO g) from ms_O ms]
          refine exf_go 2 (show (¬ (oI (sO g)) = (-1) → Go (d + 3) true 254 54 [.ref 130, .int (nI j1), .int (nI j3), mk_] [] (uI h 130 0 0) Q) ∧ (¬ (¬ (oI (sO g)) = (-1)) → Go (d + 3) true 254 51 [.ref 130, .int (nI j1), .int (nI j3), mk_] [] (uI h 130 0 0) Q) from ⟨fun c5 => ?_, fun c5 => ?_⟩)
          · skip
            obtain ⟨o, hso⟩ : ∃ o, sO g = some o := by cases hq : sO g with | none => exact absurd (by rw [hq]; rfl) c5 | some o => exact ⟨o, rfl⟩
            refine exf_go 2 (show wpC (d + 3) true 248 [.ref 130] (uI h 130 0 0) (fun _ h' => Go (d + 3) true 254 58 [.ref 130, .int (nI j1), .int (nI j3), mk_] [] h' Q) from ?_)
            have mdk := (md_M (h1 := uI h 130 0 0) md0 (Fq.uI' Fq.rfl' _ _ _ rfl))
            have qdk : Fq sDe h _ := M_D (h1 := uI h 130 0 0) (Fq.uI' Fq.rfl' _ _ _ rfl)
            refine m_keeps (fun h1 q1 hk1 => ?_)
            have ms1 := ms_fq mdk.1 (q1.mono (sAt_s (fun _ => rfl)))
            show Go (d + 3) true 254 58 [.ref 130, .int (nI j1), .int (nI j3), mk_] [] h1 Q
            refine exf_go 5 (show vp_in 9 41523 ∧ (Go (d + 3) true 254 66 [.ref 130, .int (nI j1), .int (nI j3), mk_] [.int (rI h1 131 9), .ref 130] h1 Q) from ⟨(vp_in_nI (n := 9) (by decide) (by decide)), ?_⟩)
            rw [show (rI h1 131 9 : Int32) = nI o from (ms_O ms1).trans (by rw [hso]; rfl)]
            refine exf_go 2 (show wpC (d + 3) true 220 [.ref 130, .int (nI o), .int (nI j1)] h1 (fun r h' => Go (d + 3) true 254 70 [.ref 130, .int (nI j1), .int (nI j3), mk_] [r] h' Q) from ?_)
            have hoN := hob o hso; have hfb := sF_b ms.1.1 j1; have hlf := ms.1.2.2.2.2 j1
            refine m_figureOf ms1 (n := o) (w := j1) (by omega) (by omega) ?_
            have hfg := fgo_lt ms.1.1 o j1
            show Go (d + 3) true 254 70 [.ref 130, .int (nI j1), .int (nI j3), mk_] [.int (nI (fgo g o j1))] h1 Q
            refine exf_go 2 (show (¬ (nI (fgo g o j1)) = (nI j3) → Go (d + 3) true 254 78 [.ref 130, .int (nI j1), .int (nI j3), mk_] [] h1 Q) ∧ (¬ (¬ (nI (fgo g o j1)) = (nI j3)) → Go (d + 3) true 254 74 [.ref 130, .int (nI j1), .int (nI j3), mk_] [] h1 Q) from ⟨fun c6 => ?_, fun c6 => ?_⟩)
            · skip
              have c6 : ¬ (fgo g o j1) = j3 := fun q => c6 ((nI_eq (a := (fgo g o j1)) (b := j3) (by omega) (by omega)).mpr q)
              refine exf_go 7 (show vp_in 51 41523 ∧ (Go (d + 3) true 254 88 [.ref 130, .int (nI j1), .int (nI j3), .int 0] [.int (rI h1 131 51), .int 51, .ref 131] h1 Q) from ⟨(vp_in_nI (n := 51) (by decide) (by decide)), ?_⟩)
              rw [show (rI h1 131 51 : Int32) = lX e.1 from ms_X ms1]
              refine exf_go 8 (show vp_in 51 41523 ∧ (Go (d + 3) true 254 99 [.ref 130, .int (nI j1), .int (nI j3), .int 0] [.int (54 + (nI j1)), .ref 131] (uI h1 131 51 ((lX e.1) + 2)) Q) from ⟨(vp_in_nI (n := 51) (by decide) (by decide)), ?_⟩)
              rw [show (54 + (nI j1) : Int32) = nI (54 + j1) from nI_add 54 j1]
              refine exf_go 4 (show vp_in (nI (54 + j1)) 41523 ∧ (((0 : Int32) = 0 → Go (d + 3) true 254 111 [.ref 130, .int (nI j1), .int (nI j3), .int 0] [.int (rI (uI h1 131 51 ((lX e.1) + 2)) 131 ((nI (54 + j1)).toNatClampNeg)), .int (nI (54 + j1)), .ref 131] (uI h1 131 51 ((lX e.1) + 2)) Q) ∧ (¬ ((0 : Int32) = 0) → Go (d + 3) true 254 105 [.ref 130, .int (nI j1), .int (nI j3), .int 0] [.int (rI (uI h1 131 51 ((lX e.1) + 2)) 131 ((nI (54 + j1)).toNatClampNeg)), .int (nI (54 + j1)), .ref 131] (uI h1 131 51 ((lX e.1) + 2)) Q)) from ⟨(vp_in_nI (by omega) (by omega)), fun c7 => ?_, fun c7 => ?_⟩)
              · skip
                refine exf_go 3 (show Go (d + 3) true 254 114 [.ref 130, .int (nI j1), .int (nI j3), .int 0] [.int (1 <<< ((nI j3) &&& 31)), .int (rI (uI h1 131 51 ((lX e.1) + 2)) 131 ((nI (54 + j1)).toNatClampNeg)), .int (nI (54 + j1)), .ref 131] (uI h1 131 51 ((lX e.1) + 2)) Q from ?_)
                rw [show (1 <<< ((nI j3) &&& 31) : Int32) = nI (2 ^ j3) from nI_1shl (k := j3) (by omega)]
                refine exf_go 3 (show Go (d + 3) true 254 117 [.ref 130, .int (nI j1), .int (nI j3), .int 0] [.int ((rI (uI h1 131 51 ((lX e.1) + 2)) 131 ((nI (54 + j1)).toNatClampNeg)) &&& ((nI (2 ^ j3)) ^^^ (-1))), .int (nI (54 + j1)), .ref 131] (uI h1 131 51 ((lX e.1) + 2)) Q from ?_)
                rw [show ((rI (uI h1 131 51 ((lX e.1) + 2)) 131 ((nI (54 + j1)).toNatClampNeg)) &&& ((nI (2 ^ j3)) ^^^ (-1)) : Int32) = nI (felN g e.1 o j1 j3) from by rw [nI_clamp (by omega), rI_uI_at (by omega)]; have := ms_Fe ms1 (n := j1) (by omega); rw [nI_clamp (by omega)] at this; rw [this]; rw [and_nbit j3 (by omega) _ (by omega)]; exact congrArg nI (by unfold felN; rw [if_neg (by assumption)])]
                refine exf_go 3 (show vp_in (nI (54 + j1)) 41523 ∧ (wpC (d + 3) true 250 [.ref 130] (uI (uI h1 131 51 ((lX e.1) + 2)) 131 ((nI (54 + j1)).toNatClampNeg) (nI (felN g e.1 o j1 j3))) (fun _ h' => Go (d + 3) true 254 122 [.ref 130, .int (nI j1), .int (nI j3), .int 0] [] h' Q)) from ⟨(vp_in_nI (by omega) (by omega)), ?_⟩)
                have q2 : Fq sGo h1 (uI (uI h1 131 51 ((lX e.1) + 2)) 131 ((nI (54 + j1)).toNatClampNeg) (nI (felN g e.1 o j1 j3))) := (Fq.uI' Fq.rfl' _ _ _ (sGo_t (by omega) (by omega))).uI' _ _ _ (sGo_t (by rw [nI_clamp (by omega)]; omega) (by rw [nI_clamp (by omega)]; omega))
                have ms2 : MS g (felL g e.1 o j1 j3) (uI (uI h1 131 51 ((lX e.1) + 2)) 131 ((nI (54 + j1)).toNatClampNeg) (nI (felN g e.1 o j1 j3))) := ms_fel ms1 (by omega) (by rw [nI_clamp (by omega), rI_uI_at (by omega), rI_uI_eq]) (by rw [nI_clamp (by omega), rI_uI_eq]) (fun j u v => by rw [nI_clamp (by omega), rI_uI_at v, rI_uI_at u])
                have mh2 : rI (uI (uI h1 131 51 ((lX e.1) + 2)) 131 ((nI (54 + j1)).toNatClampNeg) (nI (felN g e.1 o j1 j3))) 131 371 = nI e.2.1 := (q2.1 131 371 rfl).1.trans ((q1.1 131 371 rfl).1.trans mdk.2.1)
                refine m_notes mh2 hm8 (fun h3 q3 n0 n1 n2 => ?_)
                have md3 := md_note mdk q1 hk1 q2 ms2 q3 n0 n1 n2
                have qd3 : Fq sDe h h3 := ((qdk.tr (q1.mono (sAt_s (fun _ => rfl)))).tr (go_D q2)).tr (nt_D q3)
                show Go (d + 3) true 254 122 [.ref 130, .int (nI j1), .int (nI j3), .int 0] [] h3 Q
                refine exf_go 2 (show ((0 : Int32) = 0 → Go (d + 3) true 254 130 [.ref 130, .int (nI j1), .int (nI j3), .int 0] [] h3 Q) ∧ (¬ ((0 : Int32) = 0) → Go (d + 3) true 254 126 [.ref 130, .int (nI j1), .int (nI j3), .int 0] [] h3 Q) from ⟨fun c8 => ?_, fun c8 => ?_⟩)
                · skip
                  refine exf_go 2 (show Q (.int 0) h3 from ?_)
                  simp only [dFeel, e1, e3, hso] at k; rw [if_neg (by assumption)] at k
                  exact k _ qd3 md3
                · skip
                  exact absurd (by decide) c8
              · skip
                exact absurd (by decide) c7
            · skip
              have c6 : (fgo g o j1) = j3 := (nI_eq (a := (fgo g o j1)) (b := j3) (by omega) (by omega)).mp (Classical.not_not.mp c6)
              refine exf_go 8 (show vp_in 51 41523 ∧ (Go (d + 3) true 254 88 [.ref 130, .int (nI j1), .int (nI j3), .int 1] [.int (rI h1 131 51), .int 51, .ref 131] h1 Q) from ⟨(vp_in_nI (n := 51) (by decide) (by decide)), ?_⟩)
              rw [show (rI h1 131 51 : Int32) = lX e.1 from ms_X ms1]
              refine exf_go 8 (show vp_in 51 41523 ∧ (Go (d + 3) true 254 99 [.ref 130, .int (nI j1), .int (nI j3), .int 1] [.int (54 + (nI j1)), .ref 131] (uI h1 131 51 ((lX e.1) + 2)) Q) from ⟨(vp_in_nI (n := 51) (by decide) (by decide)), ?_⟩)
              rw [show (54 + (nI j1) : Int32) = nI (54 + j1) from nI_add 54 j1]
              refine exf_go 4 (show vp_in (nI (54 + j1)) 41523 ∧ (((1 : Int32) = 0 → Go (d + 3) true 254 111 [.ref 130, .int (nI j1), .int (nI j3), .int 1] [.int (rI (uI h1 131 51 ((lX e.1) + 2)) 131 ((nI (54 + j1)).toNatClampNeg)), .int (nI (54 + j1)), .ref 131] (uI h1 131 51 ((lX e.1) + 2)) Q) ∧ (¬ ((1 : Int32) = 0) → Go (d + 3) true 254 105 [.ref 130, .int (nI j1), .int (nI j3), .int 1] [.int (rI (uI h1 131 51 ((lX e.1) + 2)) 131 ((nI (54 + j1)).toNatClampNeg)), .int (nI (54 + j1)), .ref 131] (uI h1 131 51 ((lX e.1) + 2)) Q)) from ⟨(vp_in_nI (by omega) (by omega)), fun c9 => ?_, fun c9 => ?_⟩)
              · skip
                exact absurd c9 (by decide)
              · skip
                refine exf_go 3 (show Go (d + 3) true 254 108 [.ref 130, .int (nI j1), .int (nI j3), .int 1] [.int (1 <<< ((nI j3) &&& 31)), .int (rI (uI h1 131 51 ((lX e.1) + 2)) 131 ((nI (54 + j1)).toNatClampNeg)), .int (nI (54 + j1)), .ref 131] (uI h1 131 51 ((lX e.1) + 2)) Q from ?_)
                rw [show (1 <<< ((nI j3) &&& 31) : Int32) = nI (2 ^ j3) from nI_1shl (k := j3) (by omega)]
                refine exf_go 2 (show Go (d + 3) true 254 117 [.ref 130, .int (nI j1), .int (nI j3), .int 1] [.int ((rI (uI h1 131 51 ((lX e.1) + 2)) 131 ((nI (54 + j1)).toNatClampNeg)) &&& (nI (2 ^ j3))), .int (nI (54 + j1)), .ref 131] (uI h1 131 51 ((lX e.1) + 2)) Q from ?_)
                rw [show ((rI (uI h1 131 51 ((lX e.1) + 2)) 131 ((nI (54 + j1)).toNatClampNeg)) &&& (nI (2 ^ j3)) : Int32) = nI (felN g e.1 o j1 j3) from by rw [nI_clamp (by omega), rI_uI_at (by omega)]; have := ms_Fe ms1 (n := j1) (by omega); rw [nI_clamp (by omega)] at this; rw [this]; rw [nI_and]; exact congrArg nI (by unfold felN; rw [if_pos (by assumption)])]
                refine exf_go 3 (show vp_in (nI (54 + j1)) 41523 ∧ (wpC (d + 3) true 250 [.ref 130] (uI (uI h1 131 51 ((lX e.1) + 2)) 131 ((nI (54 + j1)).toNatClampNeg) (nI (felN g e.1 o j1 j3))) (fun _ h' => Go (d + 3) true 254 122 [.ref 130, .int (nI j1), .int (nI j3), .int 1] [] h' Q)) from ⟨(vp_in_nI (by omega) (by omega)), ?_⟩)
                have q2 : Fq sGo h1 (uI (uI h1 131 51 ((lX e.1) + 2)) 131 ((nI (54 + j1)).toNatClampNeg) (nI (felN g e.1 o j1 j3))) := (Fq.uI' Fq.rfl' _ _ _ (sGo_t (by omega) (by omega))).uI' _ _ _ (sGo_t (by rw [nI_clamp (by omega)]; omega) (by rw [nI_clamp (by omega)]; omega))
                have ms2 : MS g (felL g e.1 o j1 j3) (uI (uI h1 131 51 ((lX e.1) + 2)) 131 ((nI (54 + j1)).toNatClampNeg) (nI (felN g e.1 o j1 j3))) := ms_fel ms1 (by omega) (by rw [nI_clamp (by omega), rI_uI_at (by omega), rI_uI_eq]) (by rw [nI_clamp (by omega), rI_uI_eq]) (fun j u v => by rw [nI_clamp (by omega), rI_uI_at v, rI_uI_at u])
                have mh2 : rI (uI (uI h1 131 51 ((lX e.1) + 2)) 131 ((nI (54 + j1)).toNatClampNeg) (nI (felN g e.1 o j1 j3))) 131 371 = nI e.2.1 := (q2.1 131 371 rfl).1.trans ((q1.1 131 371 rfl).1.trans mdk.2.1)
                refine m_notes mh2 hm8 (fun h3 q3 n0 n1 n2 => ?_)
                have md3 := md_note mdk q1 hk1 q2 ms2 q3 n0 n1 n2
                have qd3 : Fq sDe h h3 := ((qdk.tr (q1.mono (sAt_s (fun _ => rfl)))).tr (go_D q2)).tr (nt_D q3)
                show Go (d + 3) true 254 122 [.ref 130, .int (nI j1), .int (nI j3), .int 1] [] h3 Q
                refine exf_go 2 (show ((1 : Int32) = 0 → Go (d + 3) true 254 130 [.ref 130, .int (nI j1), .int (nI j3), .int 1] [] h3 Q) ∧ (¬ ((1 : Int32) = 0) → Go (d + 3) true 254 126 [.ref 130, .int (nI j1), .int (nI j3), .int 1] [] h3 Q) from ⟨fun c10 => ?_, fun c10 => ?_⟩)
                · skip
                  exact absurd c10 (by decide)
                · skip
                  refine exf_go 3 (show Q (.int 1) h3 from ?_)
                  simp only [dFeel, e1, e3, hso] at k; rw [if_pos (by assumption)] at k
                  exact k _ qd3 md3
          · skip
            have hso : sO g = none := by cases hq : sO g with | none => rfl | some o => exact absurd (show nI o = -1 from by have z := Classical.not_not.mp c5; rw [hq] at z; exact z) (ng_eq (by have := hob o hq; omega) (by decide))
            refine exf_go 2 (show Q (.int (-5)) (uI h 130 0 0) from ?_)
            simp only [dFeel, e1, e3, hso] at k
            exact k _ (M_D (Fq.uI' Fq.rfl' _ _ _ rfl)) (md_M (h1 := uI h 130 0 0) md0 (Fq.uI' Fq.rfl' _ _ _ rfl))
        · skip
          exact absurd (by decide) c4
      · skip
        have e3 : ixN y (sF g j1) = none := u3.elim wi_neg (wi_ge (by have := sF_b ms.1.1 j1; omega))
        show Go (d + 3) true 254 34 [.ref 130, .int (nI j1), .int y, mk_] [.int 0] (uI h 130 0 0) Q
        refine exf_go 1 (show (¬ (0 : Int32) = 0 → Go (d + 3) true 254 40 [.ref 130, .int (nI j1), .int y, mk_] [] (uI h 130 0 0) Q) ∧ (¬ (¬ (0 : Int32) = 0) → Go (d + 3) true 254 37 [.ref 130, .int (nI j1), .int y, mk_] [] (uI h 130 0 0) Q) from ⟨fun c11 => ?_, fun c11 => ?_⟩)
        · skip
          exact absurd c11 (by decide)
        · skip
          refine exf_go 2 (show Q (.int (-3)) (uI h 130 0 0) from ?_)
          simp only [dFeel, e1, e3] at k
          exact k _ (M_D (Fq.uI' Fq.rfl' _ _ _ rfl)) (md_M (h1 := uI h 130 0 0) md0 (Fq.uI' Fq.rfl' _ _ _ rfl))
    · skip
      exact absurd (by decide) c2
  · skip
    show Go (d + 3) true 254 10 [.ref 130, .int x, .int y, mk_] [.int 0] (uI h 130 0 0) Q
    refine exf_go 1 (show (¬ (0 : Int32) = 0 → Go (d + 3) true 254 16 [.ref 130, .int x, .int y, mk_] [] (uI h 130 0 0) Q) ∧ (¬ (¬ (0 : Int32) = 0) → Go (d + 3) true 254 13 [.ref 130, .int x, .int y, mk_] [] (uI h 130 0 0) Q) from ⟨fun c12 => ?_, fun c12 => ?_⟩)
    · skip
      exact absurd c12 (by decide)
    · skip
      refine exf_go 2 (show Q (.int (-2)) (uI h 130 0 0) from ?_)
      simp only [dFeel, e1] at k
      exact k _ (M_D (Fq.uI' Fq.rfl' _ _ _ rfl)) (md_M (h1 := uI h 130 0 0) md0 (Fq.uI' Fq.rfl' _ _ _ rfl))
theorem lu_n {x : Int32} (h : x.toInt64 < 1 ∨ 8 < x.toInt64) : ixN (x - 1) 8 = none := lw_n (n := 8) (by decide) h
theorem md_und {g : ShG} {e : DeG} {j : Nat} {h h1 : Hp} (md : MD g e h) (hj : j < e.2.1) (h0 : rI h1 131 371 = nI (e.2.1 - (j + 1))) (hb : ∀ i, i < 321 → rI h1 131 (50 + i) = rI h 131 (blk (e.2.1 - (j + 1)) i)) (hc : ∀ i, (i < 50 ∨ 371 < i) → rI h1 131 i = rI h 131 i) : MD g (undD e (j + 1)) h1 := by
  obtain ⟨ms, a1, a2, a3⟩ := md
  have hu := und_at e (j + 1)
  have hk := a3 j hj
  have el : (undD e (j + 1)).1 = e.2.2 j := hu.2.2
  refine ⟨?_, ?_, ?_, fun k hk2 => ?_⟩
  · rw [el]
    refine ms_sn ms hk.1 (sn_cg ms.1.1 hk.2 (fun i hi => ?_)) (fun i u v => hc i (by omega))
    show rI h1 131 (50 + i) = rI h 131 (blk (e.2.1 - 1 - j) i)
    rw [hb i hi, show e.2.1 - (j + 1) = e.2.1 - 1 - j from by omega]
  · rw [h0, hu.1]
  · rw [hu.1]; omega
  · rw [hu.1] at hk2
    have h3 := a3 (j + 1 + k) (by omega)
    rw [hu.2.1 k, hu.1]
    refine ⟨h3.1, sn_cg ms.1.1 h3.2 (fun i hi => ?_)⟩
    show rI h1 131 (blk (e.2.1 - (j + 1) - 1 - k) i) = rI h 131 (blk (e.2.1 - 1 - (j + 1 + k)) i)
    rw [hc _ (by unfold blk; omega), show e.2.1 - (j + 1) - 1 - k = e.2.1 - 1 - (j + 1 + k) from by omega]
def sUn (a i : Nat) : Bool := scM a i || (Nat.beq a 131 && (Nat.ble 50 i && Nat.ble i 371))
theorem sUn_t {i : Nat} (h : 50 ≤ i) (h2 : i ≤ 371) : sUn 131 i = true := by
  unfold sUn
  rw [Nat.ble_eq.mpr h, Nat.ble_eq.mpr h2]; rfl
theorem M_Q {h h1 : Hp} (q : Fq sUn h h1) : Fq sDe h h1 := q.mono (fun a i e => by
  have h2 := sDe_x e
  unfold sUn
  rw [h2.1, Bool.false_or, Bool.eq_false_iff]
  intro z
  simp only [Bool.and_eq_true] at z
  have h3 := h2.2 (Nat.eq_of_beq_eq_true z.1)
  have h4 := Nat.ble_eq.mp z.2.1
  have h5 := Nat.ble_eq.mp z.2.2
  omega)
theorem m_undo {d : Nat} {h : Hp} {g : ShG} {e : DeG} {x : Int32} {Q : Po} (md : MD g e h) (k : ∀ h1, Fq sDe h h1 → MD g (dUndo e x).1 h1 → Q (.int (dUndo e x).2) h1) : wpC (d + 2) true 255 [.ref 130, .int x] h Q := by
  have hN := tot_b md.1.1.1
  have h4 := md.1.1.1.1
  have md0 := md
  obtain ⟨ms, mh⟩ := md
  have hm8 := mh.2.1; have hO1 := ms.1.2.2.1; have hA := ms.1.2.1
  refine go_in rfl ?_
  refine exf_go 8 (show wpC (d + 1) true 183 [.long x.toInt64, .long 1, .long 8] (uI h 130 0 0) (fun r h' => Go (d + 1) true 255 14 [.ref 130, .int x, mk_] [r] h' Q) from ?_)
  refine m_within (fun u1 v1 => ?_) (fun u1 => ?_)
  · skip
    obtain ⟨j, e1, e2, e3⟩ := len_in (n := 8) (by omega) (lw_1 u1) (lw_2 (n := 8) (by omega) v1)
    subst e2
    show Go (d + 1) true 255 14 [.ref 130, .int (nI (j + 1)), mk_] [.int 1] (uI h 130 0 0) Q
    refine exf_go 1 (show ((1 : Int32) = 0 → Go (d + 1) true 255 29 [.ref 130, .int (nI (j + 1)), mk_] [] (uI h 130 0 0) Q) ∧ (¬ ((1 : Int32) = 0) → Go (d + 1) true 255 17 [.ref 130, .int (nI (j + 1)), mk_] [] (uI h 130 0 0) Q) from ⟨fun c1 => ?_, fun c1 => ?_⟩)
    · skip
      exact absurd c1 (by decide)
    · skip
      refine exf_go 5 (show vp_in 371 41523 ∧ (Go (d + 1) true 255 26 [.ref 130, .int (nI (j + 1)), mk_] [.int (rI h 131 371), .int (nI (j + 1))] (uI h 130 0 0) Q) from ⟨(vp_in_nI (n := 371) (by decide) (by decide)), ?_⟩)
      rw [show (rI h 131 371 : Int32) = nI e.2.1 from mh.1]
      refine exf_go 1 (show ((nI (j + 1)) ≤ (nI e.2.1) → Go (d + 1) true 255 32 [.ref 130, .int (nI (j + 1)), mk_] [] (uI h 130 0 0) Q) ∧ (¬ ((nI (j + 1)) ≤ (nI e.2.1)) → Go (d + 1) true 255 29 [.ref 130, .int (nI (j + 1)), mk_] [] (uI h 130 0 0) Q) from ⟨fun c2 => ?_, fun c2 => ?_⟩)
      · skip
        have c2 : (j + 1) ≤ e.2.1 := (nI_leI (a := (j + 1)) (b := e.2.1) (by omega) (by omega)).mp c2
        refine exf_go 5 (show vp_in 371 41523 ∧ (Go (d + 1) true 255 41 [.ref 130, .int (nI (j + 1)), mk_] [.int (rI h 131 371), .int 371, .ref 131] (uI h 130 0 0) Q) from ⟨(vp_in_nI (n := 371) (by decide) (by decide)), ?_⟩)
        rw [show (rI h 131 371 : Int32) = nI e.2.1 from mh.1]
        refine exf_go 2 (show Go (d + 1) true 255 43 [.ref 130, .int (nI (j + 1)), mk_] [.int ((nI e.2.1) - (nI (j + 1))), .int 371, .ref 131] (uI h 130 0 0) Q from ?_)
        rw [show ((nI e.2.1) - (nI (j + 1)) : Int32) = nI (e.2.1 - (j + 1)) from pk_sub (by omega)]
        refine exf_go 3 (show vp_in 371 41523 ∧ (Go (d + 1) true 255 46 [.ref 130, .int (nI (j + 1)), .int 0] [] (uI (uI h 130 0 0) 131 371 (nI (e.2.1 - (j + 1)))) Q) from ⟨(vp_in_nI (n := 371) (by decide) (by decide)), ?_⟩)
        have L46 : ∀ (k46 : Nat) (n : Nat) (h1 : Hp), (321 - n) < k46 → (n ≤ 321) → (Fq sUn h h1) → (rI h1 131 371 = nI (e.2.1 - (j + 1))) → (∀ i, i < n → rI h1 131 (50 + i) = rI (uI h 130 0 0) 131 (blk (e.2.1 - (j + 1)) i)) → (∀ i, (i < 50 ∨ 371 < i) → rI h1 131 i = rI (uI h 130 0 0) 131 i) → Go (d + 1) true 255 46 [.ref 130, .int (nI (j + 1)), .int (nI n)] [] h1 Q := by
          intro k46
          induction k46 with
          | zero => intro n h1 hk; exact absurd hk (Nat.not_lt_zero _)
          | succ k46 ih46 =>
            intro n h1 hk hn q1 hm1 hb hc
            have mdk := md_M md0 (h1 := uI h 130 0 0) (Fq.uI' Fq.rfl' _ _ _ rfl)
            refine exf_go 3 (show (321 ≤ (nI n) → Go (d + 1) true 255 91 [.ref 130, .int (nI (j + 1)), .int (nI n)] [] h1 Q) ∧ (¬ (321 ≤ (nI n)) → Go (d + 1) true 255 53 [.ref 130, .int (nI (j + 1)), .int (nI n)] [] h1 Q) from ⟨fun c3 => ?_, fun c3 => ?_⟩)
            · skip
              have c3 : 321 ≤ n := (nI_leI (a := 321) (b := n) (by omega) (by omega)).mp c3
              refine exf_go 4 (show vp_in 371 41523 ∧ (Go (d + 1) true 255 99 [.ref 130, .int (nI (j + 1)), .int (nI n)] [.int (rI h1 131 371)] h1 Q) from ⟨(vp_in_nI (n := 371) (by decide) (by decide)), ?_⟩)
              rw [show (rI h1 131 371 : Int32) = nI (e.2.1 - (j + 1)) from hm1]
              refine exf_go 1 (show Q (.int (nI (e.2.1 - (j + 1)))) h1 from ?_)
              simp only [dUndo, e1] at k
              rw [if_pos (by omega)] at k
              exact k _ (M_Q q1) (md_und mdk (by omega) hm1 (fun i hi => hb i (by omega)) hc)
            · skip
              have c3 : ¬ 321 ≤ n := fun q => c3 ((nI_leI (a := 321) (b := n) (by omega) (by omega)).mpr q)
              refine exf_go 5 (show Go (d + 1) true 255 61 [.ref 130, .int (nI (j + 1)), .int (nI n)] [.int (50 + (nI n)), .ref 131] h1 Q from ?_)
              rw [show (50 + (nI n) : Int32) = nI (50 + n) from nI_add 50 n]
              refine exf_go 8 (show vp_in 371 41523 ∧ (Go (d + 1) true 255 79 [.ref 130, .int (nI (j + 1)), .int (nI n)] [.int (rI h1 131 371), .int 321, .int 372, .ref 131, .int (nI (50 + n)), .ref 131] h1 Q) from ⟨(vp_in_nI (n := 371) (by decide) (by decide)), ?_⟩)
              rw [show (rI h1 131 371 : Int32) = nI (e.2.1 - (j + 1)) from hm1]
              refine exf_go 1 (show Go (d + 1) true 255 80 [.ref 130, .int (nI (j + 1)), .int (nI n)] [.int (321 * (nI (e.2.1 - (j + 1)))), .int 372, .ref 131, .int (nI (50 + n)), .ref 131] h1 Q from ?_)
              rw [show (321 * (nI (e.2.1 - (j + 1))) : Int32) = nI (321 * (e.2.1 - (j + 1))) from pk_mul 321 (e.2.1 - (j + 1))]
              refine exf_go 1 (show Go (d + 1) true 255 81 [.ref 130, .int (nI (j + 1)), .int (nI n)] [.int (372 + (nI (321 * (e.2.1 - (j + 1))))), .ref 131, .int (nI (50 + n)), .ref 131] h1 Q from ?_)
              rw [show (372 + (nI (321 * (e.2.1 - (j + 1)))) : Int32) = nI (372 + (321 * (e.2.1 - (j + 1)))) from nI_add 372 (321 * (e.2.1 - (j + 1)))]
              refine exf_go 2 (show Go (d + 1) true 255 83 [.ref 130, .int (nI (j + 1)), .int (nI n)] [.int ((nI (372 + (321 * (e.2.1 - (j + 1))))) + (nI n)), .ref 131, .int (nI (50 + n)), .ref 131] h1 Q from ?_)
              rw [show ((nI (372 + (321 * (e.2.1 - (j + 1))))) + (nI n) : Int32) = nI ((372 + (321 * (e.2.1 - (j + 1)))) + n) from nI_add (372 + (321 * (e.2.1 - (j + 1)))) n]
              refine exf_go 3 (show vp_in (nI ((372 + (321 * (e.2.1 - (j + 1)))) + n)) 41523 ∧ vp_in (nI (50 + n)) 41523 ∧ (Go (d + 1) true 255 88 [.ref 130, .int (nI (j + 1)), .int ((nI n) + 1)] [] (uI h1 131 ((nI (50 + n)).toNatClampNeg) (rI h1 131 ((nI ((372 + (321 * (e.2.1 - (j + 1)))) + n)).toNatClampNeg))) Q) from ⟨(vp_in_nI (by omega) (by omega)), (vp_in_nI (by omega) (by omega)), ?_⟩)
              rw [show ((nI n) + 1 : Int32) = nI (n + 1) from nI_add n 1]
              refine exf_go 1 (show Go (d + 1) true 255 46 [.ref 130, .int (nI (j + 1)), .int (nI (n + 1))] [] (uI h1 131 ((nI (50 + n)).toNatClampNeg) (rI h1 131 ((nI ((372 + (321 * (e.2.1 - (j + 1)))) + n)).toNatClampNeg))) Q from ?_)
              exact ih46 (n + 1) _ (by omega) (by omega) (q1.uI' _ _ _ (sUn_t (by rw [nI_clamp (by omega)]; omega) (by rw [nI_clamp (by omega)]; omega))) (by rw [nI_clamp (by omega), rI_uI_at (by omega)]; exact hm1) (fun i hi => by rw [nI_clamp (by omega)]; exact (Decidable.em (i = n)).elim (fun z => by rw [z, rI_uI_eq, nI_clamp (by omega), hc _ (by omega)]; rfl) (fun z => by rw [rI_uI_at (by omega)]; exact hb i (by omega))) (fun i u => by rw [nI_clamp (by omega), rI_uI_at (by omega)]; exact hc i u)
        exact L46 (321 + 1) 0 _ (by omega) (by omega) ((Fq.uI' Fq.rfl' 130 0 0 rfl).uI' _ _ _ (sUn_t (by omega) (by omega))) rI_uI_eq (fun i hi => absurd hi (Nat.not_lt_zero _)) (fun i u => rI_uI_at (by omega))
      · skip
        have c2 : ¬ (j + 1) ≤ e.2.1 := fun q => c2 ((nI_leI (a := (j + 1)) (b := e.2.1) (by omega) (by omega)).mpr q)
        refine exf_go 2 (show Q (.int (-3)) (uI h 130 0 0) from ?_)
        simp only [dUndo, e1] at k
        first | exact k _ (M_D (Fq.uI' Fq.rfl' _ _ _ rfl)) (md_M (h1 := uI h 130 0 0) md0 (Fq.uI' Fq.rfl' _ _ _ rfl)) | (rw [if_neg (by omega)] at k; exact k _ (M_D (Fq.uI' Fq.rfl' _ _ _ rfl)) (md_M (h1 := uI h 130 0 0) md0 (Fq.uI' Fq.rfl' _ _ _ rfl)))
  · skip
    have e1 := lu_n u1
    show Go (d + 1) true 255 14 [.ref 130, .int x, mk_] [.int 0] (uI h 130 0 0) Q
    refine exf_go 1 (show ((0 : Int32) = 0 → Go (d + 1) true 255 29 [.ref 130, .int x, mk_] [] (uI h 130 0 0) Q) ∧ (¬ ((0 : Int32) = 0) → Go (d + 1) true 255 17 [.ref 130, .int x, mk_] [] (uI h 130 0 0) Q) from ⟨fun c4 => ?_, fun c4 => ?_⟩)
    · skip
      refine exf_go 2 (show Q (.int (-3)) (uI h 130 0 0) from ?_)
      simp only [dUndo, e1] at k
      first | exact k _ (M_D (Fq.uI' Fq.rfl' _ _ _ rfl)) (md_M (h1 := uI h 130 0 0) md0 (Fq.uI' Fq.rfl' _ _ _ rfl)) | (rw [if_neg (by omega)] at k; exact k _ (M_D (Fq.uI' Fq.rfl' _ _ _ rfl)) (md_M (h1 := uI h 130 0 0) md0 (Fq.uI' Fq.rfl' _ _ _ rfl)))
    · skip
      exact absurd (by decide) c4
