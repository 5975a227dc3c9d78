/-! The model makes an image. -/
def dImage (m : Nat → ImG) (x : Int32) (g : ShG) (l : LkG) : (Nat → ImG) × Int32 := match ixN x 2 with
  | none => (m, -2)
  | some i => (va_up m i (some (g, l)), 0)
def sIm (a x : Nat) : Bool := scM a x || Nat.beq a 132 || (Nat.beq a 131 && Nat.ble 13841 x)
theorem sIm_t {i : Nat} (h : 13841 ≤ i) : sIm 131 i = true := by
  unfold sIm
  rw [Nat.ble_eq.mpr h]; rfl
theorem M_I {h h1 : Hp} (q : Fq scM h h1) : Fq sIm h h1 := q.mono (fun a i e => by unfold sIm at e; rw [Bool.or_eq_false_iff, Bool.or_eq_false_iff] at e; exact e.1.1)
theorem mim_cg {i : Nat} {m : ImG} {h h1 : Hp} (mi : MIM i m h) (e1 : rI h1 132 i = rI h 132 i) (e2 : ∀ j, 13841 * (i + 1) ≤ j → j < 13841 * (i + 1) + 13841 → rI h1 131 j = rI h 131 j) : MIM i m h1 := by
  match m, mi with
  | none, mi => exact e1.trans mi
  | some (g, l), mi => exact ⟨e1.trans mi.1, ma_cg mi.2 (fun k hk _ => e2 _ (by omega) (by omega))⟩
theorem m_image {d : Nat} {h : Hp} {g : ShG} {e : DeG} {m : Nat → ImG} {x : Int32} {Q : Po} (md0 : MD g e h) (mi0 : ∀ i, i < 2 → MIM i (m i) h) (k : ∀ h1, Fq sIm h h1 → MD g e h1 → (∀ i, i < 2 → MIM i ((dImage m x g e.1).1 i) h1) → Q (.int (dImage m x g e.1).2) h1) : wpC (d + 2) true 296 [.ref 130, .int x] h Q := by
  refine go_in rfl ?_
  refine exf_go 8 (show wpC (d + 1) true 183 [.long x.toInt64, .long 0, .long 1] (uI h 130 0 0) (fun r h' => Go (d + 1) true 296 12 [.ref 130, .int x, mk_] [r] h' Q) from ?_)
  refine m_within (fun u1 v1 => ?_) (fun u1 => ?_)
  · skip
    obtain ⟨i, ex, exq, exr⟩ := wi_in (n := 2) (by decide) u1 v1
    subst exq
    show Go (d + 1) true 296 12 [.ref 130, .int (nI i), mk_] [.int 1] (uI h 130 0 0) Q
    refine exf_go 1 (show (¬ (1 : Int32) = 0 → Go (d + 1) true 296 18 [.ref 130, .int (nI i), mk_] [] (uI h 130 0 0) Q) ∧ (¬ (¬ (1 : Int32) = 0) → Go (d + 1) true 296 15 [.ref 130, .int (nI i), mk_] [] (uI h 130 0 0) Q) from ⟨fun c1 => ?_, fun c1 => ?_⟩)
    · skip
      refine exf_go 2 (show Go (d + 1) true 296 20 [.ref 130, .int (nI i), .int 0] [] (uI h 130 0 0) Q from ?_)
      have L20 : ∀ (k20 : Nat) (n : Nat) (h1 : Hp), (13841 - n) < k20 → (n ≤ 13841) → (Fq sIm h h1) → (∀ j, j < n → rI h1 131 (13841 * (i + 1) + j) = rI h 131 j) → (∀ j, (j < 13841 * (i + 1) ∨ 13841 * (i + 1) + n ≤ j) → rI h1 131 j = rI h 131 j) → (∀ j, rI h1 132 j = rI h 132 j) → Go (d + 1) true 296 20 [.ref 130, .int (nI i), .int (nI n)] [] h1 Q := by
        intro k20
        induction k20 with
        | zero => intro n h1 hk; exact absurd hk (Nat.not_lt_zero _)
        | succ k20 ih20 =>
          intro n h1 hk hn q1 hb hc q1b
          refine exf_go 3 (show (13841 ≤ (nI n) → Go (d + 1) true 296 53 [.ref 130, .int (nI i), .int (nI n)] [] h1 Q) ∧ (¬ (13841 ≤ (nI n)) → Go (d + 1) true 296 27 [.ref 130, .int (nI i), .int (nI n)] [] h1 Q) from ⟨fun c2 => ?_, fun c2 => ?_⟩)
          · skip
            have c2 : 13841 ≤ n := (nI_leI (a := 13841) (b := n) (by omega) (by omega)).mp c2
            refine exf_go 7 (show vp_in (nI i) 2 ∧ Q (.int 0) (uI h1 132 ((nI i).toNatClampNeg) (vp_nar .boolean 1)) from ⟨(vp_in_nI (by omega) (by omega)), ?_⟩)
            simp only [dImage, ex] at k
            refine k _ (q1.uI' _ _ _ rfl) ⟨ma_cg md0.1 (fun j u v => ?_), mh_D md0.1.1.1 md0.2 (fun j u v => ?_)⟩ (fun j hj => ?_)
            · exact hc j (by omega)
            · exact hc j (by omega)
            · by_cases z : j = i
              · subst z
                rw [up_eq]
                refine ⟨?_, ma_cg md0.1 (fun j2 u v => ?_)⟩
                · rw [nI_clamp (by omega), rI_uI_eq]; decide
                · exact hb j2 (by omega)
              · rw [up_ne z]
                refine mim_cg (mi0 j hj) (by rw [nI_clamp (by omega), rI_uI_at z]; exact (q1b j)) (fun j2 u v => ?_)
                exact hc j2 (by omega)
          · skip
            have c2 : ¬ 13841 ≤ n := fun q => c2 ((nI_leI (a := 13841) (b := n) (by omega) (by omega)).mpr q)
            refine exf_go 6 (show Go (d + 1) true 296 37 [.ref 130, .int (nI i), .int (nI n)] [.int ((nI i) + 1), .int 13841, .ref 131] h1 Q from ?_)
            rw [show ((nI i) + 1 : Int32) = nI (i + 1) from nI_add i 1]
            refine exf_go 1 (show Go (d + 1) true 296 38 [.ref 130, .int (nI i), .int (nI n)] [.int (13841 * (nI (i + 1))), .ref 131] h1 Q from ?_)
            rw [show (13841 * (nI (i + 1)) : Int32) = nI (13841 * (i + 1)) from pk_mul 13841 (i + 1)]
            refine exf_go 2 (show Go (d + 1) true 296 40 [.ref 130, .int (nI i), .int (nI n)] [.int ((nI (13841 * (i + 1))) + (nI n)), .ref 131] h1 Q from ?_)
            rw [show ((nI (13841 * (i + 1))) + (nI n) : Int32) = nI ((13841 * (i + 1)) + n) from nI_add (13841 * (i + 1)) n]
            refine exf_go 6 (show vp_in (nI n) 41523 ∧ vp_in (nI ((13841 * (i + 1)) + n)) 41523 ∧ (Go (d + 1) true 296 50 [.ref 130, .int (nI i), .int ((nI n) + 1)] [] (uI h1 131 ((nI ((13841 * (i + 1)) + n)).toNatClampNeg) (rI h1 131 ((nI n).toNatClampNeg))) Q) from ⟨(vp_in_nI (by omega) (by omega)), (vp_in_nI (by omega) (by omega)), ?_⟩)
            rw [show ((nI n) + 1 : Int32) = nI (n + 1) from nI_add n 1]
            refine exf_go 1 (show Go (d + 1) true 296 20 [.ref 130, .int (nI i), .int (nI (n + 1))] [] (uI h1 131 ((nI ((13841 * (i + 1)) + n)).toNatClampNeg) (rI h1 131 ((nI n).toNatClampNeg))) Q from ?_)
            exact ih20 (n + 1) _ (by omega) (by omega) (q1.uI' _ _ _ (sIm_t (by rw [nI_clamp (by omega)]; omega))) (fun j hj => by rw [nI_clamp (n := 13841 * (i + 1) + n) (by omega)]; exact (Decidable.em (j = n)).elim (fun z => by rw [z, rI_uI_eq, nI_clamp (by omega), hc _ (by omega)]) (fun z => by rw [rI_uI_at (by omega)]; exact hb j (by omega))) (fun j hj => by rw [nI_clamp (n := 13841 * (i + 1) + n) (by omega), rI_uI_at (by omega)]; exact hc j (by omega)) (fun j => by rw [rI_uI_ne (by decide)]; exact q1b j)
      exact L20 (13841 + 1) 0 _ (by omega) (by omega) (Fq.uI' Fq.rfl' _ _ _ rfl) (fun j hj => absurd hj (Nat.not_lt_zero _)) (fun j hj => rfl) (fun j => rfl)
    · skip
      exact absurd (by decide) c1
  · skip
    have ex : ixN x 2 = none := u1.elim wi_neg (wi_ge (n := 2) (by decide))
    show Go (d + 1) true 296 12 [.ref 130, .int x, mk_] [.int 0] (uI h 130 0 0) Q
    refine exf_go 1 (show (¬ (0 : Int32) = 0 → Go (d + 1) true 296 18 [.ref 130, .int x, mk_] [] (uI h 130 0 0) Q) ∧ (¬ (¬ (0 : Int32) = 0) → Go (d + 1) true 296 15 [.ref 130, .int x, mk_] [] (uI h 130 0 0) Q) from ⟨fun c3 => ?_, fun c3 => ?_⟩)
    · skip
      exact absurd c3 (by decide)
    · skip
      refine exf_go 2 (show Q (.int (-2)) (uI h 130 0 0) from ?_)
      simp only [dImage, ex] at k
      exact k _ (M_I (Fq.uI' Fq.rfl' _ _ _ rfl)) (md_M (h1 := uI h 130 0 0) md0 (Fq.uI' Fq.rfl' _ _ _ rfl)) (fun j hj => mim_cg (mi0 j hj) rfl (fun _ _ _ => rfl))
