/-! The model: best and shortest. -/
theorem wy_lt {y : Int32} {c : Int32} : y.toInt64 < c.toInt64 ↔ y < c := by
  rw [Int64.lt_iff_toInt_lt, Int32.lt_iff_toInt_lt, Int32.toInt_toInt64, Int32.toInt_toInt64]
theorem wy_in {y : Int32} (h0 : ¬ y = 0) (h1 : ¬ y.toInt64 < 10) (h2 : ¬ (17 : Int64) < y.toInt64) : ∃ w, wh y = some w := by
  have a1 : ¬ y < 10 := fun q => h1 (wy_lt (c := 10) |>.mpr q)
  have a2 : ¬ 18 ≤ y := fun q => h2 (wy_lt (y := 17) (c := y) |>.mpr (by have := Int32.le_iff_toInt_le.mp q; exact Int32.lt_iff_toInt_lt.mpr (by simp at this ⊢; omega)))
  obtain ⟨j, e, _⟩ := wh_in h0 a1 a2
  exact ⟨_, e⟩
theorem wy_no {y : Int32} (h0 : ¬ y = 0) (h : y.toInt64 < 10 ∨ (17 : Int64) < y.toInt64) : wh y = none := by
  rcases h with h | h
  · exact wh_lo h0 ((wy_lt (c := 10)).mp h)
  · exact wh_hi h0 (by have := Int32.lt_iff_toInt_lt.mp ((wy_lt (y := 17) (c := y)).mp h); exact Int32.le_iff_toInt_le.mpr (by simp at this ⊢; omega))
theorem wn_8 {n : Nat} (hn : n ≤ 40) (h1 : ¬ lN n < 1) (h2 : ¬ (8 : Int64) < lN n) : ¬ (n < 1 ∨ 8 < n) := fun q => by
  rcases q with q | q
  · exact h1 ((pk_lLT (a := n) (b := 1) (by omega) (by omega)).mpr q)
  · exact h2 ((pk_lLT (a := 8) (b := n) (by omega) (by omega)).mpr q)
theorem wn_8n {n : Nat} (hn : n ≤ 40) (h : lN n < 1 ∨ (8 : Int64) < lN n) : n < 1 ∨ 8 < n := by
  rcases h with q | q
  · exact Or.inl ((pk_lLT (a := n) (b := 1) (by omega) (by omega)).mp q)
  · exact Or.inr ((pk_lLT (a := 8) (b := n) (by omega) (by omega)).mp q)
theorem rs_end {b : Bool} {g : ShG} {l : LkG} {n : Nat} {v : Nat → Nat} {h : Hp} (r : RS n (upS (0, 0, fun _ => 0) (bsV b (FB g b v n) 0 0 0 + (lgV g (plB g b) v (FB g b v n) n 0 (lA l)).2) (pth g (plB g b) v (FB g b v n) n (fun _ => 0) 0 n 0 (lA l))) h) : rJ h 130 27 = lN (lgV g (plB g b) v (FB g b v n) n 0 (lA l)).2 ∧ ∀ j, j < n → rI h 143 j = nI (lgP g (plB g b) v (FB g b v n) n n 0 (lA l) j) := by
  rw [show bsV b (FB g b v n) 0 0 0 = 0 from by cases b <;> simp [bsV], Nat.zero_add, upS, if_neg (fun q => absurd q.1 (by decide))] at r
  exact ⟨r.2.2.2.1 rfl, fun j hj => (r.2.2.2.2 rfl j hj).trans (congrArg nI (by show (if j < 0 then 0 else lgP g (plB g b) v (FB g b v n) n n 0 (lA l) (j - 0)) = _; rw [if_neg (Nat.not_lt_zero _)]; rfl))⟩
theorem m_laysRow1 {d : Nat} {h : Hp} {g : ShG} {l : LkG} {tr : Nat → TrG} {x y : Int32} {Q : Po} (ms : MS g l h) (ma : MTA tr h) (kE : ∀ z, ¬ z = 0 → tkR g tr x y = z → Q (.int z) h) (k0 : ∀ t so n vs w h1, ixN x 4 = some t → x = nI t → t < 4 → tr t = some (so, n, vs) → wh y = some w → 1 ≤ n → n ≤ 8 → awB vs (tot g) n = true → tkR g tr x y = 0 → Fq scM h h1 → MT t (some (so, n, vs)) h1 → rJ h1 130 27 = lN (lgV g (plB g true) (vN g vs) (FB g true (vN g vs) n) n 0 (lA l)).2 → (∀ j, j < n → rI h1 143 j = nI (lgP g (plB g true) (vN g vs) (FB g true (vN g vs) n) n n 0 (lA l) j)) → Q (.int 0) h1) : wpC (d + 11) true 272 [.ref 130, .int x, .int y, .int 1] h Q := by
  have htb := tot_b ms.1.1
  have hlA := ms.1.2.1
  have he := evr_b ms.1.1
  have hev : evr g = 2 ^ sC g - 1 := rfl
  refine go_in rfl ?_
  refine exf_go 3 (show wpC (d + 10) true 257 [.ref 130, .int x] h (fun r h' => Go (d + 10) true 272 5 [.ref 130, .int x, .int y, .int 1, mk_, mk_, mk_] [r] h' Q) from ?_)
  refine m_noTray (x := x) ma (fun et => ?_) (fun tt et etq etr hq => ?_) (fun tt so n vs et etq etr hq mt => ?_)
  · skip
    show Go (d + 10) true 272 5 [.ref 130, .int x, .int y, .int 1, mk_, mk_, mk_] [.int (-2)] h Q
    refine exf_go 4 (show (((-2) : Int32) = (-2) → Go (d + 10) true 272 32 [.ref 130, .int x, .int y, .int 1, .int (-2), mk_, mk_] [] h Q) ∧ (¬ (((-2) : Int32) = (-2)) → Go (d + 10) true 272 14 [.ref 130, .int x, .int y, .int 1, .int (-2), mk_, mk_] [] h Q) from ⟨fun c1 => ?_, fun c1 => ?_⟩)
    · skip
      refine exf_go 2 (show Q (.int (-2)) h from ?_)
      exact kE _ (by decide) (by unfold tkR; rw [et])
    · skip
      exact absurd (by decide) c1
  · skip
    subst etq
    show Go (d + 10) true 272 5 [.ref 130, .int (nI tt), .int y, .int 1, mk_, mk_, mk_] [.int (-6)] h Q
    refine exf_go 4 (show (((-6) : Int32) = (-2) → Go (d + 10) true 272 32 [.ref 130, .int (nI tt), .int y, .int 1, .int (-6), mk_, mk_] [] h Q) ∧ (¬ (((-6) : Int32) = (-2)) → Go (d + 10) true 272 14 [.ref 130, .int (nI tt), .int y, .int 1, .int (-6), mk_, mk_] [] h Q) from ⟨fun c2 => ?_, fun c2 => ?_⟩)
    · skip
      exact absurd c2 (by decide)
    · skip
      refine exf_go 2 (show (y = 0 → Go (d + 10) true 272 35 [.ref 130, .int (nI tt), .int y, .int 1, .int (-6), mk_, mk_] [] h Q) ∧ (¬ (y = 0) → Go (d + 10) true 272 18 [.ref 130, .int (nI tt), .int y, .int 1, .int (-6), mk_, mk_] [] h Q) from ⟨fun c3 => ?_, fun c3 => ?_⟩)
      · skip
        have hwy : wh y = some 0 := by rw [c3]; rfl
        obtain ⟨wy, hwe⟩ : ∃ w, w = (0 : Nat) := ⟨_, rfl⟩
        rw [← hwe] at hwy
        refine exf_go 2 (show (((-6) : Int32) = 0 → Go (d + 10) true 272 43 [.ref 130, .int (nI tt), .int y, .int 1, .int (-6), mk_, mk_] [] h Q) ∧ (¬ (((-6) : Int32) = 0) → Go (d + 10) true 272 40 [.ref 130, .int (nI tt), .int y, .int 1, .int (-6), mk_, mk_] [] h Q) from ⟨fun c4 => ?_, fun c4 => ?_⟩)
        · skip
          exact absurd c4 (by decide)
        · skip
          refine exf_go 2 (show Q (.int (-6)) h from ?_)
          exact kE _ (by decide) (by unfold tkR; rw [et]; simp only [hwy, hq])
      · skip
        have hyz := c3
        refine exf_go 5 (show wpC (d + 10) true 183 [.long y.toInt64, .long 10, .long 17] h (fun r h' => Go (d + 10) true 272 29 [.ref 130, .int (nI tt), .int y, .int 1, .int (-6), mk_, mk_] [r] h' Q) from ?_)
        refine m_within (fun u5 v5 => ?_) (fun u5 => ?_)
        · skip
          obtain ⟨wy, hwy⟩ := wy_in hyz u5 v5
          show Go (d + 10) true 272 29 [.ref 130, .int (nI tt), .int y, .int 1, .int (-6), mk_, mk_] [.int 1] h Q
          refine exf_go 1 (show (¬ (1 : Int32) = 0 → Go (d + 10) true 272 35 [.ref 130, .int (nI tt), .int y, .int 1, .int (-6), mk_, mk_] [] h Q) ∧ (¬ (¬ (1 : Int32) = 0) → Go (d + 10) true 272 32 [.ref 130, .int (nI tt), .int y, .int 1, .int (-6), mk_, mk_] [] h Q) from ⟨fun c6 => ?_, fun c6 => ?_⟩)
          · skip
            refine exf_go 2 (show (((-6) : Int32) = 0 → Go (d + 10) true 272 43 [.ref 130, .int (nI tt), .int y, .int 1, .int (-6), mk_, mk_] [] h Q) ∧ (¬ (((-6) : Int32) = 0) → Go (d + 10) true 272 40 [.ref 130, .int (nI tt), .int y, .int 1, .int (-6), mk_, mk_] [] h Q) from ⟨fun c7 => ?_, fun c7 => ?_⟩)
            · skip
              exact absurd c7 (by decide)
            · skip
              refine exf_go 2 (show Q (.int (-6)) h from ?_)
              exact kE _ (by decide) (by unfold tkR; rw [et]; simp only [hwy, hq])
          · skip
            exact absurd (by decide) c6
        · skip
          have hwn := wy_no hyz u5
          show Go (d + 10) true 272 29 [.ref 130, .int (nI tt), .int y, .int 1, .int (-6), mk_, mk_] [.int 0] h Q
          refine exf_go 1 (show (¬ (0 : Int32) = 0 → Go (d + 10) true 272 35 [.ref 130, .int (nI tt), .int y, .int 1, .int (-6), mk_, mk_] [] h Q) ∧ (¬ (¬ (0 : Int32) = 0) → Go (d + 10) true 272 32 [.ref 130, .int (nI tt), .int y, .int 1, .int (-6), mk_, mk_] [] h Q) from ⟨fun c8 => ?_, fun c8 => ?_⟩)
          · skip
            exact absurd c8 (by decide)
          · skip
            refine exf_go 2 (show Q (.int (-2)) h from ?_)
            exact kE _ (by decide) (by unfold tkR; rw [et, hwn])
  · skip
    subst etq
    have hn4 := mt.2.1; have hs3 := mt.1
    show Go (d + 10) true 272 5 [.ref 130, .int (nI tt), .int y, .int 1, mk_, mk_, mk_] [.int 0] h Q
    refine exf_go 4 (show ((0 : Int32) = (-2) → Go (d + 10) true 272 32 [.ref 130, .int (nI tt), .int y, .int 1, .int 0, mk_, mk_] [] h Q) ∧ (¬ ((0 : Int32) = (-2)) → Go (d + 10) true 272 14 [.ref 130, .int (nI tt), .int y, .int 1, .int 0, mk_, mk_] [] h Q) from ⟨fun c9 => ?_, fun c9 => ?_⟩)
    · skip
      exact absurd c9 (by decide)
    · skip
      refine exf_go 2 (show (y = 0 → Go (d + 10) true 272 35 [.ref 130, .int (nI tt), .int y, .int 1, .int 0, mk_, mk_] [] h Q) ∧ (¬ (y = 0) → Go (d + 10) true 272 18 [.ref 130, .int (nI tt), .int y, .int 1, .int 0, mk_, mk_] [] h Q) from ⟨fun c10 => ?_, fun c10 => ?_⟩)
      · skip
        have hwy : wh y = some 0 := by rw [c10]; rfl
        obtain ⟨wy, hwe⟩ : ∃ w, w = (0 : Nat) := ⟨_, rfl⟩
        rw [← hwe] at hwy
        refine exf_go 2 (show ((0 : Int32) = 0 → Go (d + 10) true 272 43 [.ref 130, .int (nI tt), .int y, .int 1, .int 0, mk_, mk_] [] h Q) ∧ (¬ ((0 : Int32) = 0) → Go (d + 10) true 272 40 [.ref 130, .int (nI tt), .int y, .int 1, .int 0, mk_, mk_] [] h Q) from ⟨fun c11 => ?_, fun c11 => ?_⟩)
        · skip
          refine exf_go 4 (show vp_in (nI tt) 4 ∧ (Go (d + 10) true 272 49 [.ref 130, .int (nI tt), .int y, .int 1, .int 0, mk_, mk_] [.int (rI h 150 ((nI tt).toNatClampNeg))] h Q) from ⟨(vp_in_nI (by omega) (by omega)), ?_⟩)
          rw [show (rI h 150 ((nI tt).toNatClampNeg) : Int32) = nI n from by rw [nI_clamp (by omega)]; exact mt.2.2.2.1]
          refine exf_go 1 (show Go (d + 10) true 272 50 [.ref 130, .int (nI tt), .int y, .int 1, .int 0, mk_, mk_] [.long ((nI n).toInt64)] h Q from ?_)
          rw [show ((nI n).toInt64 : Int64) = lN n from nI_l (n := n) (by omega)]
          refine exf_go 3 (show wpC (d + 10) true 183 [.long (lN n), .long 1, .long 8] h (fun r h' => Go (d + 10) true 272 57 [.ref 130, .int (nI tt), .int y, .int 1, .int 0, mk_, mk_] [r] h' Q) from ?_)
          refine m_within (fun u12 v12 => ?_) (fun u12 => ?_)
          · skip
            have h18 := wn_8 hn4 u12 v12
            show Go (d + 10) true 272 57 [.ref 130, .int (nI tt), .int y, .int 1, .int 0, mk_, mk_] [.int 1] h Q
            refine exf_go 1 (show (¬ (1 : Int32) = 0 → Go (d + 10) true 272 63 [.ref 130, .int (nI tt), .int y, .int 1, .int 0, mk_, mk_] [] h Q) ∧ (¬ (¬ (1 : Int32) = 0) → Go (d + 10) true 272 60 [.ref 130, .int (nI tt), .int y, .int 1, .int 0, mk_, mk_] [] h Q) from ⟨fun c13 => ?_, fun c13 => ?_⟩)
            · skip
              refine exf_go 2 (show Go (d + 10) true 272 66 [.ref 130, .int (nI tt), .int y, .int 1, .int 0, .int 0, mk_] [] h Q from ?_)
              have L66 : ∀ (k66 : Nat) (z6 : Value) (k : Nat), (n - k) < k66 → (k ≤ n) → (awB vs (tot g) k = true) → (unl vs k = k) → Go (d + 10) true 272 66 [.ref 130, .int (nI tt), .int y, .int 1, .int 0, .int (nI k), z6] [] h Q := by
                intro k66
                induction k66 with
                | zero => intro z6 k hk; exact absurd hk (Nat.not_lt_zero _)
                | succ k66 ih66 =>
                  intro z6 k hk hk hka hku
                  refine exf_go 5 (show vp_in (nI tt) 4 ∧ (Go (d + 10) true 272 74 [.ref 130, .int (nI tt), .int y, .int 1, .int 0, .int (nI k), z6] [.int (rI h 150 ((nI tt).toNatClampNeg)), .int (nI k)] h Q) from ⟨(vp_in_nI (by omega) (by omega)), ?_⟩)
                  rw [show (rI h 150 ((nI tt).toNatClampNeg) : Int32) = nI n from by rw [nI_clamp (by omega)]; exact mt.2.2.2.1]
                  refine exf_go 1 (show ((nI n) ≤ (nI k) → Go (d + 10) true 272 152 [.ref 130, .int (nI tt), .int y, .int 1, .int 0, .int (nI k), z6] [] h Q) ∧ (¬ ((nI n) ≤ (nI k)) → Go (d + 10) true 272 77 [.ref 130, .int (nI tt), .int y, .int 1, .int 0, .int (nI k), z6] [] h Q) from ⟨fun c14 => ?_, fun c14 => ?_⟩)
                  · skip
                    have c14 : n ≤ k := (nI_leI (a := n) (b := k) (by omega) (by omega)).mp c14
                    refine exf_go 3 (show wpC (d + 10) true 223 [.ref 130] h (fun r h' => Go (d + 10) true 272 157 [.ref 130, .int (nI tt), .int y, .int 1, .int 0, .int (nI k), z6] [r, .ref 130] h' Q) from ?_)
                    refine m_every ms ?_
                    show Go (d + 10) true 272 157 [.ref 130, .int (nI tt), .int y, .int 1, .int 0, .int (nI k), z6] [.int (nI (evr g)), .ref 130] h Q
                    refine exf_go 1 (show wpC (d + 10) true 225 [.ref 130, .int (nI (evr g))] h (fun _ h' => Go (d + 10) true 272 160 [.ref 130, .int (nI tt), .int y, .int 1, .int 0, .int (nI k), z6] [] h' Q) from ?_)
                    refine m_laysRanks ms (by omega) (fun h1 q1 mw1 mr1 => ?_)
                    have ms1 := ms_fq ms q1
                    have mt1 : MT tt (some (so, n, vs)) h1 := mt_same mt (q1.1 149 tt rfl).1 (q1.1 150 tt rfl).1 (fun i _ => (q1.1 151 _ rfl).2)
                    show Go (d + 10) true 272 160 [.ref 130, .int (nI tt), .int y, .int 1, .int 0, .int (nI k), z6] [] h1 Q
                    refine exf_go 11 (show ((0 : Int32) = 0 ∨ (0 : Int32) = 1) ∧ vp_in 50 41523 ∧ (Go (d + 10) true 272 176 [.ref 130, .int (nI tt), .int y, .int 1, .int 0, .int (nI k), z6] [.int (rI h1 131 50), .int 0, .int 0, .int (nI tt), .ref 130] (uI h1 130 28 0) Q) from ⟨(by first | exact Or.inl rfl | exact Or.inr rfl | assumption), (vp_in_nI (n := 50) (by decide) (by decide)), ?_⟩)
                    rw [show (rI h1 131 50 : Int32) = nI (lA l) from ms_A ms1]
                    refine exf_go 4 (show wpC (d + 10) true 271 [.ref 130, .int (nI tt), .int 0, .int 0, .int (nI (lA l)), .int 0, .long 0, .int 1] (uI h1 130 28 0) (fun _ h' => Go (d + 10) true 272 182 [.ref 130, .int (nI tt), .int y, .int 1, .int 0, .int (nI k), z6] [] h' Q) from ?_)
                    have hkn : k = n := by omega
                    subst hkn
                    have hgo : GRC true 1 g l tt so k vs (d + 10) k := by have := m_goes1 (d := d + 1 + (8 - k)) (l := l) (so := so) etr (by omega) (by omega) hka k; rw [show d + 1 + (8 - k) + k + 1 = d + 10 from by omega] at this; exact this
                    refine hgo 0 0 (lA l) 0 0 (fun _ => 0) (0, 0, fun _ => 0) _ _ (ms_fq ms1 (Fq.uI' Fq.rfl' _ _ _ rfl)) (mw_fq mw1 rfl) (mt_same mt1 rfl rfl (fun _ _ => rfl)) (Nat.zero_add _) rmn_z (Nat.two_pow_pos _) (Nat.zero_le _) (Nat.zero_le _) hlA (fun j hj => absurd hj (Nat.not_lt_zero _)) ⟨Nat.zero_le _, Nat.zero_le _, rfl, fun q => absurd q (by decide), fun q => absurd q (by decide)⟩ (fun h2 q2 hrs2 ht2 => ?_)
                    show Go (d + 10) true 272 182 [.ref 130, .int (nI tt), .int y, .int 1, .int 0, .int (nI k), z6] [] h2 Q
                    refine exf_go 2 (show Q (.int 0) h2 from ?_)
                    exact k0 tt so k vs wy h2 et rfl etr hq hwy (by omega) (by omega) hka (by unfold tkR; rw [et]; simp only [hwy, hq]; rw [if_neg h18, if_pos ⟨hka, hku⟩]) ((q1.uI' _ _ _ rfl).tr (q2.mono sGw_M)) (mt_same mt1 (q2.1 149 tt rfl).1 (q2.1 150 tt rfl).1 (fun i _ => (q2.1 151 _ rfl).2)) (rs_end hrs2).1 (rs_end hrs2).2
                  · skip
                    have c14 : ¬ n ≤ k := fun q => c14 ((nI_leI (a := n) (b := k) (by omega) (by omega)).mpr q)
                    refine exf_go 6 (show Go (d + 10) true 272 86 [.ref 130, .int (nI tt), .int y, .int 1, .int 0, .int (nI k), z6] [.int (40 * (nI tt)), .ref 151, .ref 130] h Q from ?_)
                    rw [show (40 * (nI tt) : Int32) = nI (40 * tt) from pk_mul 40 tt]
                    refine exf_go 2 (show Go (d + 10) true 272 89 [.ref 130, .int (nI tt), .int y, .int 1, .int 0, .int (nI k), z6] [.int ((nI (40 * tt)) + (nI k)), .ref 151, .ref 130] h Q from ?_)
                    rw [show ((nI (40 * tt)) + (nI k) : Int32) = nI ((40 * tt) + k) from nI_add (40 * tt) k]
                    refine exf_go 1 (show vp_in (nI ((40 * tt) + k)) 160 ∧ (Go (d + 10) true 272 90 [.ref 130, .int (nI tt), .int y, .int 1, .int 0, .int (nI k), z6] [.long (rJ h 151 ((nI ((40 * tt) + k)).toNatClampNeg)), .ref 130] h Q) from ⟨(vp_in_nI (by omega) (by omega)), ?_⟩)
                    rw [show (rJ h 151 ((nI ((40 * tt) + k)).toNatClampNeg) : Int64) = vs k from by rw [nI_clamp (by omega)]; exact mt.2.2.2.2 _ (by omega)]
                    refine exf_go 1 (show wpC (d + 10) true 218 [.ref 130, .long (vs k)] h (fun r h' => Go (d + 10) true 272 93 [.ref 130, .int (nI tt), .int y, .int 1, .int 0, .int (nI k), z6] [r] h' Q) from ?_)
                    refine m_isNumL ms (x := vs k) (fun nn eix eq1 eq2 => ?_) (fun eix => ?_)
                    · skip
                      show Go (d + 10) true 272 93 [.ref 130, .int (nI tt), .int y, .int 1, .int 0, .int (nI k), z6] [.int 1] h Q
                      refine exf_go 1 (show (¬ (1 : Int32) = 0 → Go (d + 10) true 272 99 [.ref 130, .int (nI tt), .int y, .int 1, .int 0, .int (nI k), z6] [] h Q) ∧ (¬ (¬ (1 : Int32) = 0) → Go (d + 10) true 272 96 [.ref 130, .int (nI tt), .int y, .int 1, .int 0, .int (nI k), z6] [] h Q) from ⟨fun c15 => ?_, fun c15 => ?_⟩)
                      · skip
                        refine exf_go 2 (show Go (d + 10) true 272 102 [.ref 130, .int (nI tt), .int y, .int 1, .int 0, .int (nI k), .int 0] [] h Q from ?_)
                        have L102 : ∀ (k102 : Nat) (j : Nat), (k - j) < k102 → (j ≤ k) → (tld vs (vs k) j = false) → Go (d + 10) true 272 102 [.ref 130, .int (nI tt), .int y, .int 1, .int 0, .int (nI k), .int (nI j)] [] h Q := by
                          intro k102
                          induction k102 with
                          | zero => intro j hk; exact absurd hk (Nat.not_lt_zero _)
                          | succ k102 ih102 =>
                            intro j hk hj hjt
                            refine exf_go 3 (show ((nI k) ≤ (nI j) → Go (d + 10) true 272 146 [.ref 130, .int (nI tt), .int y, .int 1, .int 0, .int (nI k), .int (nI j)] [] h Q) ∧ (¬ ((nI k) ≤ (nI j)) → Go (d + 10) true 272 109 [.ref 130, .int (nI tt), .int y, .int 1, .int 0, .int (nI k), .int (nI j)] [] h Q) from ⟨fun c16 => ?_, fun c16 => ?_⟩)
                            · skip
                              have c16 : k ≤ j := (nI_leI (a := k) (b := j) (by omega) (by omega)).mp c16
                              refine exf_go 1 (show Go (d + 10) true 272 149 [.ref 130, .int (nI tt), .int y, .int 1, .int 0, .int ((nI k) + 1), .int (nI j)] [] h Q from ?_)
                              rw [show ((nI k) + 1 : Int32) = nI (k + 1) from nI_add k 1]
                              refine exf_go 1 (show Go (d + 10) true 272 66 [.ref 130, .int (nI tt), .int y, .int 1, .int 0, .int (nI (k + 1)), .int (nI j)] [] h Q from ?_)
                              exact ih66 (.int (nI j)) (k + 1) (by omega) (by omega) (by rw [awB, hka, eix]; rfl) (by unfold unl; rw [← cn_y (p := frB vs) rfl (by unfold frB; rw [show tld vs (vs k) k = false from by rw [show j = k from by omega] at hjt; exact hjt]; rfl)]; unfold unl at hku; omega)
                            · skip
                              have c16 : ¬ k ≤ j := fun q => c16 ((nI_leI (a := k) (b := j) (by omega) (by omega)).mpr q)
                              refine exf_go 5 (show Go (d + 10) true 272 117 [.ref 130, .int (nI tt), .int y, .int 1, .int 0, .int (nI k), .int (nI j)] [.int (40 * (nI tt)), .ref 151] h Q from ?_)
                              rw [show (40 * (nI tt) : Int32) = nI (40 * tt) from pk_mul 40 tt]
                              refine exf_go 2 (show Go (d + 10) true 272 120 [.ref 130, .int (nI tt), .int y, .int 1, .int 0, .int (nI k), .int (nI j)] [.int ((nI (40 * tt)) + (nI j)), .ref 151] h Q from ?_)
                              rw [show ((nI (40 * tt)) + (nI j) : Int32) = nI ((40 * tt) + j) from nI_add (40 * tt) j]
                              refine exf_go 1 (show vp_in (nI ((40 * tt) + j)) 160 ∧ (Go (d + 10) true 272 121 [.ref 130, .int (nI tt), .int y, .int 1, .int 0, .int (nI k), .int (nI j)] [.long (rJ h 151 ((nI ((40 * tt) + j)).toNatClampNeg))] h Q) from ⟨(vp_in_nI (by omega) (by omega)), ?_⟩)
                              rw [show (rJ h 151 ((nI ((40 * tt) + j)).toNatClampNeg) : Int64) = vs j from by rw [nI_clamp (by omega)]; exact mt.2.2.2.2 _ (by omega)]
                              refine exf_go 5 (show Go (d + 10) true 272 129 [.ref 130, .int (nI tt), .int y, .int 1, .int 0, .int (nI k), .int (nI j)] [.int (40 * (nI tt)), .ref 151, .long (vs j)] h Q from ?_)
                              rw [show (40 * (nI tt) : Int32) = nI (40 * tt) from pk_mul 40 tt]
                              refine exf_go 2 (show Go (d + 10) true 272 132 [.ref 130, .int (nI tt), .int y, .int 1, .int 0, .int (nI k), .int (nI j)] [.int ((nI (40 * tt)) + (nI k)), .ref 151, .long (vs j)] h Q from ?_)
                              rw [show ((nI (40 * tt)) + (nI k) : Int32) = nI ((40 * tt) + k) from nI_add (40 * tt) k]
                              refine exf_go 1 (show vp_in (nI ((40 * tt) + k)) 160 ∧ (Go (d + 10) true 272 133 [.ref 130, .int (nI tt), .int y, .int 1, .int 0, .int (nI k), .int (nI j)] [.long (rJ h 151 ((nI ((40 * tt) + k)).toNatClampNeg)), .long (vs j)] h Q) from ⟨(vp_in_nI (by omega) (by omega)), ?_⟩)
                              rw [show (rJ h 151 ((nI ((40 * tt) + k)).toNatClampNeg) : Int64) = vs k from by rw [nI_clamp (by omega)]; exact mt.2.2.2.2 _ (by omega)]
                              refine exf_go 2 (show (¬ (lg_cmp (vs j) (vs k)) = 0 → Go (d + 10) true 272 140 [.ref 130, .int (nI tt), .int y, .int 1, .int 0, .int (nI k), .int (nI j)] [] h Q) ∧ (¬ (¬ (lg_cmp (vs j) (vs k)) = 0) → Go (d + 10) true 272 137 [.ref 130, .int (nI tt), .int y, .int 1, .int 0, .int (nI k), .int (nI j)] [] h Q) from ⟨fun c17 => ?_, fun c17 => ?_⟩)
                              · skip
                                have c17 : ¬ ((vs j) = (vs k)) := fun q => c17 ((lg_cmp_eq _ _).mpr q)
                                refine exf_go 1 (show Go (d + 10) true 272 143 [.ref 130, .int (nI tt), .int y, .int 1, .int 0, .int (nI k), .int ((nI j) + 1)] [] h Q from ?_)
                                rw [show ((nI j) + 1 : Int32) = nI (j + 1) from nI_add j 1]
                                refine exf_go 1 (show Go (d + 10) true 272 102 [.ref 130, .int (nI tt), .int y, .int 1, .int 0, .int (nI k), .int (nI (j + 1))] [] h Q from ?_)
                                exact ih102 (j + 1) (by omega) (by omega) (by rw [tld, hjt, decide_eq_false (by assumption)]; rfl)
                              · skip
                                have c17 : (vs j) = (vs k) := (lg_cmp_eq _ _).mp (Classical.not_not.mp c17)
                                refine exf_go 2 (show Q (.int (-3)) h from ?_)
                                exact kE _ (by decide) (by unfold tkR; rw [et]; simp only [hwy, hq]; rw [if_neg h18, if_neg (fun q => by first | (rw [aw_no eix n (by omega)] at q; exact Bool.noConfusion q.1) | (have := cnt_nlt (p := frB vs) (show k < n from by omega) (by unfold frB; rw [(tld_iff vs (vs k) k).mpr ⟨j, by omega, by assumption⟩]; rfl); have := q.2; unfold unl at this; omega))])
                        exact L102 (k + 1) 0 (by omega) (by omega) rfl
                      · skip
                        exact absurd (by decide) c15
                    · skip
                      show Go (d + 10) true 272 93 [.ref 130, .int (nI tt), .int y, .int 1, .int 0, .int (nI k), z6] [.int 0] h Q
                      refine exf_go 1 (show (¬ (0 : Int32) = 0 → Go (d + 10) true 272 99 [.ref 130, .int (nI tt), .int y, .int 1, .int 0, .int (nI k), z6] [] h Q) ∧ (¬ (¬ (0 : Int32) = 0) → Go (d + 10) true 272 96 [.ref 130, .int (nI tt), .int y, .int 1, .int 0, .int (nI k), z6] [] h Q) from ⟨fun c18 => ?_, fun c18 => ?_⟩)
                      · skip
                        exact absurd c18 (by decide)
                      · skip
                        refine exf_go 2 (show Q (.int (-3)) h from ?_)
                        exact kE _ (by decide) (by unfold tkR; rw [et]; simp only [hwy, hq]; rw [if_neg h18, if_neg (fun q => by first | (rw [aw_no eix n (by omega)] at q; exact Bool.noConfusion q.1) | (have := cnt_nlt (p := frB vs) (show k < n from by omega) (by unfold frB; rw [(tld_iff vs (vs k) k).mpr ⟨j, by omega, by assumption⟩]; rfl); have := q.2; unfold unl at this; omega))])
              exact L66 (n + 1) mk_ 0 (by omega) (by omega) rfl rfl
            · skip
              exact absurd (by decide) c13
          · skip
            have h18 := wn_8n hn4 u12
            show Go (d + 10) true 272 57 [.ref 130, .int (nI tt), .int y, .int 1, .int 0, mk_, mk_] [.int 0] h Q
            refine exf_go 1 (show (¬ (0 : Int32) = 0 → Go (d + 10) true 272 63 [.ref 130, .int (nI tt), .int y, .int 1, .int 0, mk_, mk_] [] h Q) ∧ (¬ (¬ (0 : Int32) = 0) → Go (d + 10) true 272 60 [.ref 130, .int (nI tt), .int y, .int 1, .int 0, mk_, mk_] [] h Q) from ⟨fun c19 => ?_, fun c19 => ?_⟩)
            · skip
              exact absurd c19 (by decide)
            · skip
              refine exf_go 2 (show Q (.int (-4)) h from ?_)
              exact kE _ (by decide) (by unfold tkR; rw [et]; simp only [hwy, hq]; rw [if_pos h18])
        · skip
          exact absurd (by decide) c11
      · skip
        have hyz := c10
        refine exf_go 5 (show wpC (d + 10) true 183 [.long y.toInt64, .long 10, .long 17] h (fun r h' => Go (d + 10) true 272 29 [.ref 130, .int (nI tt), .int y, .int 1, .int 0, mk_, mk_] [r] h' Q) from ?_)
        refine m_within (fun u20 v20 => ?_) (fun u20 => ?_)
        · skip
          obtain ⟨wy, hwy⟩ := wy_in hyz u20 v20
          show Go (d + 10) true 272 29 [.ref 130, .int (nI tt), .int y, .int 1, .int 0, mk_, mk_] [.int 1] h Q
          refine exf_go 1 (show (¬ (1 : Int32) = 0 → Go (d + 10) true 272 35 [.ref 130, .int (nI tt), .int y, .int 1, .int 0, mk_, mk_] [] h Q) ∧ (¬ (¬ (1 : Int32) = 0) → Go (d + 10) true 272 32 [.ref 130, .int (nI tt), .int y, .int 1, .int 0, mk_, mk_] [] h Q) from ⟨fun c21 => ?_, fun c21 => ?_⟩)
          · skip
            refine exf_go 2 (show ((0 : Int32) = 0 → Go (d + 10) true 272 43 [.ref 130, .int (nI tt), .int y, .int 1, .int 0, mk_, mk_] [] h Q) ∧ (¬ ((0 : Int32) = 0) → Go (d + 10) true 272 40 [.ref 130, .int (nI tt), .int y, .int 1, .int 0, mk_, mk_] [] h Q) from ⟨fun c22 => ?_, fun c22 => ?_⟩)
            · skip
              refine exf_go 4 (show vp_in (nI tt) 4 ∧ (Go (d + 10) true 272 49 [.ref 130, .int (nI tt), .int y, .int 1, .int 0, mk_, mk_] [.int (rI h 150 ((nI tt).toNatClampNeg))] h Q) from ⟨(vp_in_nI (by omega) (by omega)), ?_⟩)
              rw [show (rI h 150 ((nI tt).toNatClampNeg) : Int32) = nI n from by rw [nI_clamp (by omega)]; exact mt.2.2.2.1]
              refine exf_go 1 (show Go (d + 10) true 272 50 [.ref 130, .int (nI tt), .int y, .int 1, .int 0, mk_, mk_] [.long ((nI n).toInt64)] h Q from ?_)
              rw [show ((nI n).toInt64 : Int64) = lN n from nI_l (n := n) (by omega)]
              refine exf_go 3 (show wpC (d + 10) true 183 [.long (lN n), .long 1, .long 8] h (fun r h' => Go (d + 10) true 272 57 [.ref 130, .int (nI tt), .int y, .int 1, .int 0, mk_, mk_] [r] h' Q) from ?_)
              refine m_within (fun u23 v23 => ?_) (fun u23 => ?_)
              · skip
                have h18 := wn_8 hn4 u23 v23
                show Go (d + 10) true 272 57 [.ref 130, .int (nI tt), .int y, .int 1, .int 0, mk_, mk_] [.int 1] h Q
                refine exf_go 1 (show (¬ (1 : Int32) = 0 → Go (d + 10) true 272 63 [.ref 130, .int (nI tt), .int y, .int 1, .int 0, mk_, mk_] [] h Q) ∧ (¬ (¬ (1 : Int32) = 0) → Go (d + 10) true 272 60 [.ref 130, .int (nI tt), .int y, .int 1, .int 0, mk_, mk_] [] h Q) from ⟨fun c24 => ?_, fun c24 => ?_⟩)
                · skip
                  refine exf_go 2 (show Go (d + 10) true 272 66 [.ref 130, .int (nI tt), .int y, .int 1, .int 0, .int 0, mk_] [] h Q from ?_)
                  have L66 : ∀ (k66 : Nat) (z6 : Value) (k : Nat), (n - k) < k66 → (k ≤ n) → (awB vs (tot g) k = true) → (unl vs k = k) → Go (d + 10) true 272 66 [.ref 130, .int (nI tt), .int y, .int 1, .int 0, .int (nI k), z6] [] h Q := by
                    intro k66
                    induction k66 with
                    | zero => intro z6 k hk; exact absurd hk (Nat.not_lt_zero _)
                    | succ k66 ih66 =>
                      intro z6 k hk hk hka hku
                      refine exf_go 5 (show vp_in (nI tt) 4 ∧ (Go (d + 10) true 272 74 [.ref 130, .int (nI tt), .int y, .int 1, .int 0, .int (nI k), z6] [.int (rI h 150 ((nI tt).toNatClampNeg)), .int (nI k)] h Q) from ⟨(vp_in_nI (by omega) (by omega)), ?_⟩)
                      rw [show (rI h 150 ((nI tt).toNatClampNeg) : Int32) = nI n from by rw [nI_clamp (by omega)]; exact mt.2.2.2.1]
                      refine exf_go 1 (show ((nI n) ≤ (nI k) → Go (d + 10) true 272 152 [.ref 130, .int (nI tt), .int y, .int 1, .int 0, .int (nI k), z6] [] h Q) ∧ (¬ ((nI n) ≤ (nI k)) → Go (d + 10) true 272 77 [.ref 130, .int (nI tt), .int y, .int 1, .int 0, .int (nI k), z6] [] h Q) from ⟨fun c25 => ?_, fun c25 => ?_⟩)
                      · skip
                        have c25 : n ≤ k := (nI_leI (a := n) (b := k) (by omega) (by omega)).mp c25
                        refine exf_go 3 (show wpC (d + 10) true 223 [.ref 130] h (fun r h' => Go (d + 10) true 272 157 [.ref 130, .int (nI tt), .int y, .int 1, .int 0, .int (nI k), z6] [r, .ref 130] h' Q) from ?_)
                        refine m_every ms ?_
                        show Go (d + 10) true 272 157 [.ref 130, .int (nI tt), .int y, .int 1, .int 0, .int (nI k), z6] [.int (nI (evr g)), .ref 130] h Q
                        refine exf_go 1 (show wpC (d + 10) true 225 [.ref 130, .int (nI (evr g))] h (fun _ h' => Go (d + 10) true 272 160 [.ref 130, .int (nI tt), .int y, .int 1, .int 0, .int (nI k), z6] [] h' Q) from ?_)
                        refine m_laysRanks ms (by omega) (fun h1 q1 mw1 mr1 => ?_)
                        have ms1 := ms_fq ms q1
                        have mt1 : MT tt (some (so, n, vs)) h1 := mt_same mt (q1.1 149 tt rfl).1 (q1.1 150 tt rfl).1 (fun i _ => (q1.1 151 _ rfl).2)
                        show Go (d + 10) true 272 160 [.ref 130, .int (nI tt), .int y, .int 1, .int 0, .int (nI k), z6] [] h1 Q
                        refine exf_go 11 (show ((0 : Int32) = 0 ∨ (0 : Int32) = 1) ∧ vp_in 50 41523 ∧ (Go (d + 10) true 272 176 [.ref 130, .int (nI tt), .int y, .int 1, .int 0, .int (nI k), z6] [.int (rI h1 131 50), .int 0, .int 0, .int (nI tt), .ref 130] (uI h1 130 28 0) Q) from ⟨(by first | exact Or.inl rfl | exact Or.inr rfl | assumption), (vp_in_nI (n := 50) (by decide) (by decide)), ?_⟩)
                        rw [show (rI h1 131 50 : Int32) = nI (lA l) from ms_A ms1]
                        refine exf_go 4 (show wpC (d + 10) true 271 [.ref 130, .int (nI tt), .int 0, .int 0, .int (nI (lA l)), .int 0, .long 0, .int 1] (uI h1 130 28 0) (fun _ h' => Go (d + 10) true 272 182 [.ref 130, .int (nI tt), .int y, .int 1, .int 0, .int (nI k), z6] [] h' Q) from ?_)
                        have hkn : k = n := by omega
                        subst hkn
                        have hgo : GRC true 1 g l tt so k vs (d + 10) k := by have := m_goes1 (d := d + 1 + (8 - k)) (l := l) (so := so) etr (by omega) (by omega) hka k; rw [show d + 1 + (8 - k) + k + 1 = d + 10 from by omega] at this; exact this
                        refine hgo 0 0 (lA l) 0 0 (fun _ => 0) (0, 0, fun _ => 0) _ _ (ms_fq ms1 (Fq.uI' Fq.rfl' _ _ _ rfl)) (mw_fq mw1 rfl) (mt_same mt1 rfl rfl (fun _ _ => rfl)) (Nat.zero_add _) rmn_z (Nat.two_pow_pos _) (Nat.zero_le _) (Nat.zero_le _) hlA (fun j hj => absurd hj (Nat.not_lt_zero _)) ⟨Nat.zero_le _, Nat.zero_le _, rfl, fun q => absurd q (by decide), fun q => absurd q (by decide)⟩ (fun h2 q2 hrs2 ht2 => ?_)
                        show Go (d + 10) true 272 182 [.ref 130, .int (nI tt), .int y, .int 1, .int 0, .int (nI k), z6] [] h2 Q
                        refine exf_go 2 (show Q (.int 0) h2 from ?_)
                        exact k0 tt so k vs wy h2 et rfl etr hq hwy (by omega) (by omega) hka (by unfold tkR; rw [et]; simp only [hwy, hq]; rw [if_neg h18, if_pos ⟨hka, hku⟩]) ((q1.uI' _ _ _ rfl).tr (q2.mono sGw_M)) (mt_same mt1 (q2.1 149 tt rfl).1 (q2.1 150 tt rfl).1 (fun i _ => (q2.1 151 _ rfl).2)) (rs_end hrs2).1 (rs_end hrs2).2
                      · skip
                        have c25 : ¬ n ≤ k := fun q => c25 ((nI_leI (a := n) (b := k) (by omega) (by omega)).mpr q)
                        refine exf_go 6 (show Go (d + 10) true 272 86 [.ref 130, .int (nI tt), .int y, .int 1, .int 0, .int (nI k), z6] [.int (40 * (nI tt)), .ref 151, .ref 130] h Q from ?_)
                        rw [show (40 * (nI tt) : Int32) = nI (40 * tt) from pk_mul 40 tt]
                        refine exf_go 2 (show Go (d + 10) true 272 89 [.ref 130, .int (nI tt), .int y, .int 1, .int 0, .int (nI k), z6] [.int ((nI (40 * tt)) + (nI k)), .ref 151, .ref 130] h Q from ?_)
                        rw [show ((nI (40 * tt)) + (nI k) : Int32) = nI ((40 * tt) + k) from nI_add (40 * tt) k]
                        refine exf_go 1 (show vp_in (nI ((40 * tt) + k)) 160 ∧ (Go (d + 10) true 272 90 [.ref 130, .int (nI tt), .int y, .int 1, .int 0, .int (nI k), z6] [.long (rJ h 151 ((nI ((40 * tt) + k)).toNatClampNeg)), .ref 130] h Q) from ⟨(vp_in_nI (by omega) (by omega)), ?_⟩)
                        rw [show (rJ h 151 ((nI ((40 * tt) + k)).toNatClampNeg) : Int64) = vs k from by rw [nI_clamp (by omega)]; exact mt.2.2.2.2 _ (by omega)]
                        refine exf_go 1 (show wpC (d + 10) true 218 [.ref 130, .long (vs k)] h (fun r h' => Go (d + 10) true 272 93 [.ref 130, .int (nI tt), .int y, .int 1, .int 0, .int (nI k), z6] [r] h' Q) from ?_)
                        refine m_isNumL ms (x := vs k) (fun nn eix eq1 eq2 => ?_) (fun eix => ?_)
                        · skip
                          show Go (d + 10) true 272 93 [.ref 130, .int (nI tt), .int y, .int 1, .int 0, .int (nI k), z6] [.int 1] h Q
                          refine exf_go 1 (show (¬ (1 : Int32) = 0 → Go (d + 10) true 272 99 [.ref 130, .int (nI tt), .int y, .int 1, .int 0, .int (nI k), z6] [] h Q) ∧ (¬ (¬ (1 : Int32) = 0) → Go (d + 10) true 272 96 [.ref 130, .int (nI tt), .int y, .int 1, .int 0, .int (nI k), z6] [] h Q) from ⟨fun c26 => ?_, fun c26 => ?_⟩)
                          · skip
                            refine exf_go 2 (show Go (d + 10) true 272 102 [.ref 130, .int (nI tt), .int y, .int 1, .int 0, .int (nI k), .int 0] [] h Q from ?_)
                            have L102 : ∀ (k102 : Nat) (j : Nat), (k - j) < k102 → (j ≤ k) → (tld vs (vs k) j = false) → Go (d + 10) true 272 102 [.ref 130, .int (nI tt), .int y, .int 1, .int 0, .int (nI k), .int (nI j)] [] h Q := by
                              intro k102
                              induction k102 with
                              | zero => intro j hk; exact absurd hk (Nat.not_lt_zero _)
                              | succ k102 ih102 =>
                                intro j hk hj hjt
                                refine exf_go 3 (show ((nI k) ≤ (nI j) → Go (d + 10) true 272 146 [.ref 130, .int (nI tt), .int y, .int 1, .int 0, .int (nI k), .int (nI j)] [] h Q) ∧ (¬ ((nI k) ≤ (nI j)) → Go (d + 10) true 272 109 [.ref 130, .int (nI tt), .int y, .int 1, .int 0, .int (nI k), .int (nI j)] [] h Q) from ⟨fun c27 => ?_, fun c27 => ?_⟩)
                                · skip
                                  have c27 : k ≤ j := (nI_leI (a := k) (b := j) (by omega) (by omega)).mp c27
                                  refine exf_go 1 (show Go (d + 10) true 272 149 [.ref 130, .int (nI tt), .int y, .int 1, .int 0, .int ((nI k) + 1), .int (nI j)] [] h Q from ?_)
                                  rw [show ((nI k) + 1 : Int32) = nI (k + 1) from nI_add k 1]
                                  refine exf_go 1 (show Go (d + 10) true 272 66 [.ref 130, .int (nI tt), .int y, .int 1, .int 0, .int (nI (k + 1)), .int (nI j)] [] h Q from ?_)
                                  exact ih66 (.int (nI j)) (k + 1) (by omega) (by omega) (by rw [awB, hka, eix]; rfl) (by unfold unl; rw [← cn_y (p := frB vs) rfl (by unfold frB; rw [show tld vs (vs k) k = false from by rw [show j = k from by omega] at hjt; exact hjt]; rfl)]; unfold unl at hku; omega)
                                · skip
                                  have c27 : ¬ k ≤ j := fun q => c27 ((nI_leI (a := k) (b := j) (by omega) (by omega)).mpr q)
                                  refine exf_go 5 (show Go (d + 10) true 272 117 [.ref 130, .int (nI tt), .int y, .int 1, .int 0, .int (nI k), .int (nI j)] [.int (40 * (nI tt)), .ref 151] h Q from ?_)
                                  rw [show (40 * (nI tt) : Int32) = nI (40 * tt) from pk_mul 40 tt]
                                  refine exf_go 2 (show Go (d + 10) true 272 120 [.ref 130, .int (nI tt), .int y, .int 1, .int 0, .int (nI k), .int (nI j)] [.int ((nI (40 * tt)) + (nI j)), .ref 151] h Q from ?_)
                                  rw [show ((nI (40 * tt)) + (nI j) : Int32) = nI ((40 * tt) + j) from nI_add (40 * tt) j]
                                  refine exf_go 1 (show vp_in (nI ((40 * tt) + j)) 160 ∧ (Go (d + 10) true 272 121 [.ref 130, .int (nI tt), .int y, .int 1, .int 0, .int (nI k), .int (nI j)] [.long (rJ h 151 ((nI ((40 * tt) + j)).toNatClampNeg))] h Q) from ⟨(vp_in_nI (by omega) (by omega)), ?_⟩)
                                  rw [show (rJ h 151 ((nI ((40 * tt) + j)).toNatClampNeg) : Int64) = vs j from by rw [nI_clamp (by omega)]; exact mt.2.2.2.2 _ (by omega)]
                                  refine exf_go 5 (show Go (d + 10) true 272 129 [.ref 130, .int (nI tt), .int y, .int 1, .int 0, .int (nI k), .int (nI j)] [.int (40 * (nI tt)), .ref 151, .long (vs j)] h Q from ?_)
                                  rw [show (40 * (nI tt) : Int32) = nI (40 * tt) from pk_mul 40 tt]
                                  refine exf_go 2 (show Go (d + 10) true 272 132 [.ref 130, .int (nI tt), .int y, .int 1, .int 0, .int (nI k), .int (nI j)] [.int ((nI (40 * tt)) + (nI k)), .ref 151, .long (vs j)] h Q from ?_)
                                  rw [show ((nI (40 * tt)) + (nI k) : Int32) = nI ((40 * tt) + k) from nI_add (40 * tt) k]
                                  refine exf_go 1 (show vp_in (nI ((40 * tt) + k)) 160 ∧ (Go (d + 10) true 272 133 [.ref 130, .int (nI tt), .int y, .int 1, .int 0, .int (nI k), .int (nI j)] [.long (rJ h 151 ((nI ((40 * tt) + k)).toNatClampNeg)), .long (vs j)] h Q) from ⟨(vp_in_nI (by omega) (by omega)), ?_⟩)
                                  rw [show (rJ h 151 ((nI ((40 * tt) + k)).toNatClampNeg) : Int64) = vs k from by rw [nI_clamp (by omega)]; exact mt.2.2.2.2 _ (by omega)]
                                  refine exf_go 2 (show (¬ (lg_cmp (vs j) (vs k)) = 0 → Go (d + 10) true 272 140 [.ref 130, .int (nI tt), .int y, .int 1, .int 0, .int (nI k), .int (nI j)] [] h Q) ∧ (¬ (¬ (lg_cmp (vs j) (vs k)) = 0) → Go (d + 10) true 272 137 [.ref 130, .int (nI tt), .int y, .int 1, .int 0, .int (nI k), .int (nI j)] [] h Q) from ⟨fun c28 => ?_, fun c28 => ?_⟩)
                                  · skip
                                    have c28 : ¬ ((vs j) = (vs k)) := fun q => c28 ((lg_cmp_eq _ _).mpr q)
                                    refine exf_go 1 (show Go (d + 10) true 272 143 [.ref 130, .int (nI tt), .int y, .int 1, .int 0, .int (nI k), .int ((nI j) + 1)] [] h Q from ?_)
                                    rw [show ((nI j) + 1 : Int32) = nI (j + 1) from nI_add j 1]
                                    refine exf_go 1 (show Go (d + 10) true 272 102 [.ref 130, .int (nI tt), .int y, .int 1, .int 0, .int (nI k), .int (nI (j + 1))] [] h Q from ?_)
                                    exact ih102 (j + 1) (by omega) (by omega) (by rw [tld, hjt, decide_eq_false (by assumption)]; rfl)
                                  · skip
                                    have c28 : (vs j) = (vs k) := (lg_cmp_eq _ _).mp (Classical.not_not.mp c28)
                                    refine exf_go 2 (show Q (.int (-3)) h from ?_)
                                    exact kE _ (by decide) (by unfold tkR; rw [et]; simp only [hwy, hq]; rw [if_neg h18, if_neg (fun q => by first | (rw [aw_no eix n (by omega)] at q; exact Bool.noConfusion q.1) | (have := cnt_nlt (p := frB vs) (show k < n from by omega) (by unfold frB; rw [(tld_iff vs (vs k) k).mpr ⟨j, by omega, by assumption⟩]; rfl); have := q.2; unfold unl at this; omega))])
                            exact L102 (k + 1) 0 (by omega) (by omega) rfl
                          · skip
                            exact absurd (by decide) c26
                        · skip
                          show Go (d + 10) true 272 93 [.ref 130, .int (nI tt), .int y, .int 1, .int 0, .int (nI k), z6] [.int 0] h Q
                          refine exf_go 1 (show (¬ (0 : Int32) = 0 → Go (d + 10) true 272 99 [.ref 130, .int (nI tt), .int y, .int 1, .int 0, .int (nI k), z6] [] h Q) ∧ (¬ (¬ (0 : Int32) = 0) → Go (d + 10) true 272 96 [.ref 130, .int (nI tt), .int y, .int 1, .int 0, .int (nI k), z6] [] h Q) from ⟨fun c29 => ?_, fun c29 => ?_⟩)
                          · skip
                            exact absurd c29 (by decide)
                          · skip
                            refine exf_go 2 (show Q (.int (-3)) h from ?_)
                            exact kE _ (by decide) (by unfold tkR; rw [et]; simp only [hwy, hq]; rw [if_neg h18, if_neg (fun q => by first | (rw [aw_no eix n (by omega)] at q; exact Bool.noConfusion q.1) | (have := cnt_nlt (p := frB vs) (show k < n from by omega) (by unfold frB; rw [(tld_iff vs (vs k) k).mpr ⟨j, by omega, by assumption⟩]; rfl); have := q.2; unfold unl at this; omega))])
                  exact L66 (n + 1) mk_ 0 (by omega) (by omega) rfl rfl
                · skip
                  exact absurd (by decide) c24
              · skip
                have h18 := wn_8n hn4 u23
                show Go (d + 10) true 272 57 [.ref 130, .int (nI tt), .int y, .int 1, .int 0, mk_, mk_] [.int 0] h Q
                refine exf_go 1 (show (¬ (0 : Int32) = 0 → Go (d + 10) true 272 63 [.ref 130, .int (nI tt), .int y, .int 1, .int 0, mk_, mk_] [] h Q) ∧ (¬ (¬ (0 : Int32) = 0) → Go (d + 10) true 272 60 [.ref 130, .int (nI tt), .int y, .int 1, .int 0, mk_, mk_] [] h Q) from ⟨fun c30 => ?_, fun c30 => ?_⟩)
                · skip
                  exact absurd c30 (by decide)
                · skip
                  refine exf_go 2 (show Q (.int (-4)) h from ?_)
                  exact kE _ (by decide) (by unfold tkR; rw [et]; simp only [hwy, hq]; rw [if_pos h18])
            · skip
              exact absurd (by decide) c22
          · skip
            exact absurd (by decide) c21
        · skip
          have hwn := wy_no hyz u20
          show Go (d + 10) true 272 29 [.ref 130, .int (nI tt), .int y, .int 1, .int 0, mk_, mk_] [.int 0] h Q
          refine exf_go 1 (show (¬ (0 : Int32) = 0 → Go (d + 10) true 272 35 [.ref 130, .int (nI tt), .int y, .int 1, .int 0, mk_, mk_] [] h Q) ∧ (¬ (¬ (0 : Int32) = 0) → Go (d + 10) true 272 32 [.ref 130, .int (nI tt), .int y, .int 1, .int 0, mk_, mk_] [] h Q) from ⟨fun c31 => ?_, fun c31 => ?_⟩)
          · skip
            exact absurd c31 (by decide)
          · skip
            refine exf_go 2 (show Q (.int (-2)) h from ?_)
            exact kE _ (by decide) (by unfold tkR; rw [et, hwn])
theorem m_laysRow0 {d : Nat} {h : Hp} {g : ShG} {l : LkG} {tr : Nat → TrG} {x y : Int32} {Q : Po} (ms : MS g l h) (ma : MTA tr h) (kE : ∀ z, ¬ z = 0 → tkR g tr x y = z → Q (.int z) h) (k0 : ∀ t so n vs w h1, ixN x 4 = some t → x = nI t → t < 4 → tr t = some (so, n, vs) → wh y = some w → 1 ≤ n → n ≤ 8 → awB vs (tot g) n = true → tkR g tr x y = 0 → Fq scM h h1 → MT t (some (so, n, vs)) h1 → rJ h1 130 27 = lN (lgV g (plB g false) (vN g vs) (FB g false (vN g vs) n) n 0 (lA l)).2 → (∀ j, j < n → rI h1 143 j = nI (lgP g (plB g false) (vN g vs) (FB g false (vN g vs) n) n n 0 (lA l) j)) → Q (.int 0) h1) : wpC (d + 11) true 272 [.ref 130, .int x, .int y, .int 0] h Q := by
  have htb := tot_b ms.1.1
  have hlA := ms.1.2.1
  have he := evr_b ms.1.1
  have hev : evr g = 2 ^ sC g - 1 := rfl
  refine go_in rfl ?_
  refine exf_go 3 (show wpC (d + 10) true 257 [.ref 130, .int x] h (fun r h' => Go (d + 10) true 272 5 [.ref 130, .int x, .int y, .int 0, mk_, mk_, mk_] [r] h' Q) from ?_)
  refine m_noTray (x := x) ma (fun et => ?_) (fun tt et etq etr hq => ?_) (fun tt so n vs et etq etr hq mt => ?_)
  · skip
    show Go (d + 10) true 272 5 [.ref 130, .int x, .int y, .int 0, mk_, mk_, mk_] [.int (-2)] h Q
    refine exf_go 4 (show (((-2) : Int32) = (-2) → Go (d + 10) true 272 32 [.ref 130, .int x, .int y, .int 0, .int (-2), mk_, mk_] [] h Q) ∧ (¬ (((-2) : Int32) = (-2)) → Go (d + 10) true 272 14 [.ref 130, .int x, .int y, .int 0, .int (-2), mk_, mk_] [] h Q) from ⟨fun c1 => ?_, fun c1 => ?_⟩)
    · skip
      refine exf_go 2 (show Q (.int (-2)) h from ?_)
      exact kE _ (by decide) (by unfold tkR; rw [et])
    · skip
      exact absurd (by decide) c1
  · skip
    subst etq
    show Go (d + 10) true 272 5 [.ref 130, .int (nI tt), .int y, .int 0, mk_, mk_, mk_] [.int (-6)] h Q
    refine exf_go 4 (show (((-6) : Int32) = (-2) → Go (d + 10) true 272 32 [.ref 130, .int (nI tt), .int y, .int 0, .int (-6), mk_, mk_] [] h Q) ∧ (¬ (((-6) : Int32) = (-2)) → Go (d + 10) true 272 14 [.ref 130, .int (nI tt), .int y, .int 0, .int (-6), mk_, mk_] [] h Q) from ⟨fun c2 => ?_, fun c2 => ?_⟩)
    · skip
      exact absurd c2 (by decide)
    · skip
      refine exf_go 2 (show (y = 0 → Go (d + 10) true 272 35 [.ref 130, .int (nI tt), .int y, .int 0, .int (-6), mk_, mk_] [] h Q) ∧ (¬ (y = 0) → Go (d + 10) true 272 18 [.ref 130, .int (nI tt), .int y, .int 0, .int (-6), mk_, mk_] [] h Q) from ⟨fun c3 => ?_, fun c3 => ?_⟩)
      · skip
        have hwy : wh y = some 0 := by rw [c3]; rfl
        obtain ⟨wy, hwe⟩ : ∃ w, w = (0 : Nat) := ⟨_, rfl⟩
        rw [← hwe] at hwy
        refine exf_go 2 (show (((-6) : Int32) = 0 → Go (d + 10) true 272 43 [.ref 130, .int (nI tt), .int y, .int 0, .int (-6), mk_, mk_] [] h Q) ∧ (¬ (((-6) : Int32) = 0) → Go (d + 10) true 272 40 [.ref 130, .int (nI tt), .int y, .int 0, .int (-6), mk_, mk_] [] h Q) from ⟨fun c4 => ?_, fun c4 => ?_⟩)
        · skip
          exact absurd c4 (by decide)
        · skip
          refine exf_go 2 (show Q (.int (-6)) h from ?_)
          exact kE _ (by decide) (by unfold tkR; rw [et]; simp only [hwy, hq])
      · skip
        have hyz := c3
        refine exf_go 5 (show wpC (d + 10) true 183 [.long y.toInt64, .long 10, .long 17] h (fun r h' => Go (d + 10) true 272 29 [.ref 130, .int (nI tt), .int y, .int 0, .int (-6), mk_, mk_] [r] h' Q) from ?_)
        refine m_within (fun u5 v5 => ?_) (fun u5 => ?_)
        · skip
          obtain ⟨wy, hwy⟩ := wy_in hyz u5 v5
          show Go (d + 10) true 272 29 [.ref 130, .int (nI tt), .int y, .int 0, .int (-6), mk_, mk_] [.int 1] h Q
          refine exf_go 1 (show (¬ (1 : Int32) = 0 → Go (d + 10) true 272 35 [.ref 130, .int (nI tt), .int y, .int 0, .int (-6), mk_, mk_] [] h Q) ∧ (¬ (¬ (1 : Int32) = 0) → Go (d + 10) true 272 32 [.ref 130, .int (nI tt), .int y, .int 0, .int (-6), mk_, mk_] [] h Q) from ⟨fun c6 => ?_, fun c6 => ?_⟩)
          · skip
            refine exf_go 2 (show (((-6) : Int32) = 0 → Go (d + 10) true 272 43 [.ref 130, .int (nI tt), .int y, .int 0, .int (-6), mk_, mk_] [] h Q) ∧ (¬ (((-6) : Int32) = 0) → Go (d + 10) true 272 40 [.ref 130, .int (nI tt), .int y, .int 0, .int (-6), mk_, mk_] [] h Q) from ⟨fun c7 => ?_, fun c7 => ?_⟩)
            · skip
              exact absurd c7 (by decide)
            · skip
              refine exf_go 2 (show Q (.int (-6)) h from ?_)
              exact kE _ (by decide) (by unfold tkR; rw [et]; simp only [hwy, hq])
          · skip
            exact absurd (by decide) c6
        · skip
          have hwn := wy_no hyz u5
          show Go (d + 10) true 272 29 [.ref 130, .int (nI tt), .int y, .int 0, .int (-6), mk_, mk_] [.int 0] h Q
          refine exf_go 1 (show (¬ (0 : Int32) = 0 → Go (d + 10) true 272 35 [.ref 130, .int (nI tt), .int y, .int 0, .int (-6), mk_, mk_] [] h Q) ∧ (¬ (¬ (0 : Int32) = 0) → Go (d + 10) true 272 32 [.ref 130, .int (nI tt), .int y, .int 0, .int (-6), mk_, mk_] [] h Q) from ⟨fun c8 => ?_, fun c8 => ?_⟩)
          · skip
            exact absurd c8 (by decide)
          · skip
            refine exf_go 2 (show Q (.int (-2)) h from ?_)
            exact kE _ (by decide) (by unfold tkR; rw [et, hwn])
  · skip
    subst etq
    have hn4 := mt.2.1; have hs3 := mt.1
    show Go (d + 10) true 272 5 [.ref 130, .int (nI tt), .int y, .int 0, mk_, mk_, mk_] [.int 0] h Q
    refine exf_go 4 (show ((0 : Int32) = (-2) → Go (d + 10) true 272 32 [.ref 130, .int (nI tt), .int y, .int 0, .int 0, mk_, mk_] [] h Q) ∧ (¬ ((0 : Int32) = (-2)) → Go (d + 10) true 272 14 [.ref 130, .int (nI tt), .int y, .int 0, .int 0, mk_, mk_] [] h Q) from ⟨fun c9 => ?_, fun c9 => ?_⟩)
    · skip
      exact absurd c9 (by decide)
    · skip
      refine exf_go 2 (show (y = 0 → Go (d + 10) true 272 35 [.ref 130, .int (nI tt), .int y, .int 0, .int 0, mk_, mk_] [] h Q) ∧ (¬ (y = 0) → Go (d + 10) true 272 18 [.ref 130, .int (nI tt), .int y, .int 0, .int 0, mk_, mk_] [] h Q) from ⟨fun c10 => ?_, fun c10 => ?_⟩)
      · skip
        have hwy : wh y = some 0 := by rw [c10]; rfl
        obtain ⟨wy, hwe⟩ : ∃ w, w = (0 : Nat) := ⟨_, rfl⟩
        rw [← hwe] at hwy
        refine exf_go 2 (show ((0 : Int32) = 0 → Go (d + 10) true 272 43 [.ref 130, .int (nI tt), .int y, .int 0, .int 0, mk_, mk_] [] h Q) ∧ (¬ ((0 : Int32) = 0) → Go (d + 10) true 272 40 [.ref 130, .int (nI tt), .int y, .int 0, .int 0, mk_, mk_] [] h Q) from ⟨fun c11 => ?_, fun c11 => ?_⟩)
        · skip
          refine exf_go 4 (show vp_in (nI tt) 4 ∧ (Go (d + 10) true 272 49 [.ref 130, .int (nI tt), .int y, .int 0, .int 0, mk_, mk_] [.int (rI h 150 ((nI tt).toNatClampNeg))] h Q) from ⟨(vp_in_nI (by omega) (by omega)), ?_⟩)
          rw [show (rI h 150 ((nI tt).toNatClampNeg) : Int32) = nI n from by rw [nI_clamp (by omega)]; exact mt.2.2.2.1]
          refine exf_go 1 (show Go (d + 10) true 272 50 [.ref 130, .int (nI tt), .int y, .int 0, .int 0, mk_, mk_] [.long ((nI n).toInt64)] h Q from ?_)
          rw [show ((nI n).toInt64 : Int64) = lN n from nI_l (n := n) (by omega)]
          refine exf_go 3 (show wpC (d + 10) true 183 [.long (lN n), .long 1, .long 8] h (fun r h' => Go (d + 10) true 272 57 [.ref 130, .int (nI tt), .int y, .int 0, .int 0, mk_, mk_] [r] h' Q) from ?_)
          refine m_within (fun u12 v12 => ?_) (fun u12 => ?_)
          · skip
            have h18 := wn_8 hn4 u12 v12
            show Go (d + 10) true 272 57 [.ref 130, .int (nI tt), .int y, .int 0, .int 0, mk_, mk_] [.int 1] h Q
            refine exf_go 1 (show (¬ (1 : Int32) = 0 → Go (d + 10) true 272 63 [.ref 130, .int (nI tt), .int y, .int 0, .int 0, mk_, mk_] [] h Q) ∧ (¬ (¬ (1 : Int32) = 0) → Go (d + 10) true 272 60 [.ref 130, .int (nI tt), .int y, .int 0, .int 0, mk_, mk_] [] h Q) from ⟨fun c13 => ?_, fun c13 => ?_⟩)
            · skip
              refine exf_go 2 (show Go (d + 10) true 272 66 [.ref 130, .int (nI tt), .int y, .int 0, .int 0, .int 0, mk_] [] h Q from ?_)
              have L66 : ∀ (k66 : Nat) (z6 : Value) (k : Nat), (n - k) < k66 → (k ≤ n) → (awB vs (tot g) k = true) → (unl vs k = k) → Go (d + 10) true 272 66 [.ref 130, .int (nI tt), .int y, .int 0, .int 0, .int (nI k), z6] [] h Q := by
                intro k66
                induction k66 with
                | zero => intro z6 k hk; exact absurd hk (Nat.not_lt_zero _)
                | succ k66 ih66 =>
                  intro z6 k hk hk hka hku
                  refine exf_go 5 (show vp_in (nI tt) 4 ∧ (Go (d + 10) true 272 74 [.ref 130, .int (nI tt), .int y, .int 0, .int 0, .int (nI k), z6] [.int (rI h 150 ((nI tt).toNatClampNeg)), .int (nI k)] h Q) from ⟨(vp_in_nI (by omega) (by omega)), ?_⟩)
                  rw [show (rI h 150 ((nI tt).toNatClampNeg) : Int32) = nI n from by rw [nI_clamp (by omega)]; exact mt.2.2.2.1]
                  refine exf_go 1 (show ((nI n) ≤ (nI k) → Go (d + 10) true 272 152 [.ref 130, .int (nI tt), .int y, .int 0, .int 0, .int (nI k), z6] [] h Q) ∧ (¬ ((nI n) ≤ (nI k)) → Go (d + 10) true 272 77 [.ref 130, .int (nI tt), .int y, .int 0, .int 0, .int (nI k), z6] [] h Q) from ⟨fun c14 => ?_, fun c14 => ?_⟩)
                  · skip
                    have c14 : n ≤ k := (nI_leI (a := n) (b := k) (by omega) (by omega)).mp c14
                    refine exf_go 3 (show wpC (d + 10) true 223 [.ref 130] h (fun r h' => Go (d + 10) true 272 157 [.ref 130, .int (nI tt), .int y, .int 0, .int 0, .int (nI k), z6] [r, .ref 130] h' Q) from ?_)
                    refine m_every ms ?_
                    show Go (d + 10) true 272 157 [.ref 130, .int (nI tt), .int y, .int 0, .int 0, .int (nI k), z6] [.int (nI (evr g)), .ref 130] h Q
                    refine exf_go 1 (show wpC (d + 10) true 225 [.ref 130, .int (nI (evr g))] h (fun _ h' => Go (d + 10) true 272 160 [.ref 130, .int (nI tt), .int y, .int 0, .int 0, .int (nI k), z6] [] h' Q) from ?_)
                    refine m_laysRanks ms (by omega) (fun h1 q1 mw1 mr1 => ?_)
                    have ms1 := ms_fq ms q1
                    have mt1 : MT tt (some (so, n, vs)) h1 := mt_same mt (q1.1 149 tt rfl).1 (q1.1 150 tt rfl).1 (fun i _ => (q1.1 151 _ rfl).2)
                    show Go (d + 10) true 272 160 [.ref 130, .int (nI tt), .int y, .int 0, .int 0, .int (nI k), z6] [] h1 Q
                    refine exf_go 11 (show ((0 : Int32) = 0 ∨ (0 : Int32) = 1) ∧ vp_in 50 41523 ∧ (Go (d + 10) true 272 176 [.ref 130, .int (nI tt), .int y, .int 0, .int 0, .int (nI k), z6] [.int (rI h1 131 50), .int 0, .int 0, .int (nI tt), .ref 130] (uI h1 130 28 0) Q) from ⟨(by first | exact Or.inl rfl | exact Or.inr rfl | assumption), (vp_in_nI (n := 50) (by decide) (by decide)), ?_⟩)
                    rw [show (rI h1 131 50 : Int32) = nI (lA l) from ms_A ms1]
                    refine exf_go 4 (show wpC (d + 10) true 271 [.ref 130, .int (nI tt), .int 0, .int 0, .int (nI (lA l)), .int 0, .long 0, .int 0] (uI h1 130 28 0) (fun _ h' => Go (d + 10) true 272 182 [.ref 130, .int (nI tt), .int y, .int 0, .int 0, .int (nI k), z6] [] h' Q) from ?_)
                    have hkn : k = n := by omega
                    subst hkn
                    have hgo : GRC false 0 g l tt so k vs (d + 10) k := by have := m_goes0 (d := d + 1 + (8 - k)) (l := l) (so := so) etr (by omega) (by omega) hka k; rw [show d + 1 + (8 - k) + k + 1 = d + 10 from by omega] at this; exact this
                    refine hgo 0 0 (lA l) 0 0 (fun _ => 0) (0, 0, fun _ => 0) _ _ (ms_fq ms1 (Fq.uI' Fq.rfl' _ _ _ rfl)) (mw_fq mw1 rfl) (mt_same mt1 rfl rfl (fun _ _ => rfl)) (Nat.zero_add _) rmn_z (Nat.two_pow_pos _) (Nat.zero_le _) (Nat.zero_le _) hlA (fun j hj => absurd hj (Nat.not_lt_zero _)) ⟨Nat.zero_le _, Nat.zero_le _, rfl, fun q => absurd q (by decide), fun q => absurd q (by decide)⟩ (fun h2 q2 hrs2 ht2 => ?_)
                    show Go (d + 10) true 272 182 [.ref 130, .int (nI tt), .int y, .int 0, .int 0, .int (nI k), z6] [] h2 Q
                    refine exf_go 2 (show Q (.int 0) h2 from ?_)
                    exact k0 tt so k vs wy h2 et rfl etr hq hwy (by omega) (by omega) hka (by unfold tkR; rw [et]; simp only [hwy, hq]; rw [if_neg h18, if_pos ⟨hka, hku⟩]) ((q1.uI' _ _ _ rfl).tr (q2.mono sGw_M)) (mt_same mt1 (q2.1 149 tt rfl).1 (q2.1 150 tt rfl).1 (fun i _ => (q2.1 151 _ rfl).2)) (rs_end hrs2).1 (rs_end hrs2).2
                  · skip
                    have c14 : ¬ n ≤ k := fun q => c14 ((nI_leI (a := n) (b := k) (by omega) (by omega)).mpr q)
                    refine exf_go 6 (show Go (d + 10) true 272 86 [.ref 130, .int (nI tt), .int y, .int 0, .int 0, .int (nI k), z6] [.int (40 * (nI tt)), .ref 151, .ref 130] h Q from ?_)
                    rw [show (40 * (nI tt) : Int32) = nI (40 * tt) from pk_mul 40 tt]
                    refine exf_go 2 (show Go (d + 10) true 272 89 [.ref 130, .int (nI tt), .int y, .int 0, .int 0, .int (nI k), z6] [.int ((nI (40 * tt)) + (nI k)), .ref 151, .ref 130] h Q from ?_)
                    rw [show ((nI (40 * tt)) + (nI k) : Int32) = nI ((40 * tt) + k) from nI_add (40 * tt) k]
                    refine exf_go 1 (show vp_in (nI ((40 * tt) + k)) 160 ∧ (Go (d + 10) true 272 90 [.ref 130, .int (nI tt), .int y, .int 0, .int 0, .int (nI k), z6] [.long (rJ h 151 ((nI ((40 * tt) + k)).toNatClampNeg)), .ref 130] h Q) from ⟨(vp_in_nI (by omega) (by omega)), ?_⟩)
                    rw [show (rJ h 151 ((nI ((40 * tt) + k)).toNatClampNeg) : Int64) = vs k from by rw [nI_clamp (by omega)]; exact mt.2.2.2.2 _ (by omega)]
                    refine exf_go 1 (show wpC (d + 10) true 218 [.ref 130, .long (vs k)] h (fun r h' => Go (d + 10) true 272 93 [.ref 130, .int (nI tt), .int y, .int 0, .int 0, .int (nI k), z6] [r] h' Q) from ?_)
                    refine m_isNumL ms (x := vs k) (fun nn eix eq1 eq2 => ?_) (fun eix => ?_)
                    · skip
                      show Go (d + 10) true 272 93 [.ref 130, .int (nI tt), .int y, .int 0, .int 0, .int (nI k), z6] [.int 1] h Q
                      refine exf_go 1 (show (¬ (1 : Int32) = 0 → Go (d + 10) true 272 99 [.ref 130, .int (nI tt), .int y, .int 0, .int 0, .int (nI k), z6] [] h Q) ∧ (¬ (¬ (1 : Int32) = 0) → Go (d + 10) true 272 96 [.ref 130, .int (nI tt), .int y, .int 0, .int 0, .int (nI k), z6] [] h Q) from ⟨fun c15 => ?_, fun c15 => ?_⟩)
                      · skip
                        refine exf_go 2 (show Go (d + 10) true 272 102 [.ref 130, .int (nI tt), .int y, .int 0, .int 0, .int (nI k), .int 0] [] h Q from ?_)
                        have L102 : ∀ (k102 : Nat) (j : Nat), (k - j) < k102 → (j ≤ k) → (tld vs (vs k) j = false) → Go (d + 10) true 272 102 [.ref 130, .int (nI tt), .int y, .int 0, .int 0, .int (nI k), .int (nI j)] [] h Q := by
                          intro k102
                          induction k102 with
                          | zero => intro j hk; exact absurd hk (Nat.not_lt_zero _)
                          | succ k102 ih102 =>
                            intro j hk hj hjt
                            refine exf_go 3 (show ((nI k) ≤ (nI j) → Go (d + 10) true 272 146 [.ref 130, .int (nI tt), .int y, .int 0, .int 0, .int (nI k), .int (nI j)] [] h Q) ∧ (¬ ((nI k) ≤ (nI j)) → Go (d + 10) true 272 109 [.ref 130, .int (nI tt), .int y, .int 0, .int 0, .int (nI k), .int (nI j)] [] h Q) from ⟨fun c16 => ?_, fun c16 => ?_⟩)
                            · skip
                              have c16 : k ≤ j := (nI_leI (a := k) (b := j) (by omega) (by omega)).mp c16
                              refine exf_go 1 (show Go (d + 10) true 272 149 [.ref 130, .int (nI tt), .int y, .int 0, .int 0, .int ((nI k) + 1), .int (nI j)] [] h Q from ?_)
                              rw [show ((nI k) + 1 : Int32) = nI (k + 1) from nI_add k 1]
                              refine exf_go 1 (show Go (d + 10) true 272 66 [.ref 130, .int (nI tt), .int y, .int 0, .int 0, .int (nI (k + 1)), .int (nI j)] [] h Q from ?_)
                              exact ih66 (.int (nI j)) (k + 1) (by omega) (by omega) (by rw [awB, hka, eix]; rfl) (by unfold unl; rw [← cn_y (p := frB vs) rfl (by unfold frB; rw [show tld vs (vs k) k = false from by rw [show j = k from by omega] at hjt; exact hjt]; rfl)]; unfold unl at hku; omega)
                            · skip
                              have c16 : ¬ k ≤ j := fun q => c16 ((nI_leI (a := k) (b := j) (by omega) (by omega)).mpr q)
                              refine exf_go 5 (show Go (d + 10) true 272 117 [.ref 130, .int (nI tt), .int y, .int 0, .int 0, .int (nI k), .int (nI j)] [.int (40 * (nI tt)), .ref 151] h Q from ?_)
                              rw [show (40 * (nI tt) : Int32) = nI (40 * tt) from pk_mul 40 tt]
                              refine exf_go 2 (show Go (d + 10) true 272 120 [.ref 130, .int (nI tt), .int y, .int 0, .int 0, .int (nI k), .int (nI j)] [.int ((nI (40 * tt)) + (nI j)), .ref 151] h Q from ?_)
                              rw [show ((nI (40 * tt)) + (nI j) : Int32) = nI ((40 * tt) + j) from nI_add (40 * tt) j]
                              refine exf_go 1 (show vp_in (nI ((40 * tt) + j)) 160 ∧ (Go (d + 10) true 272 121 [.ref 130, .int (nI tt), .int y, .int 0, .int 0, .int (nI k), .int (nI j)] [.long (rJ h 151 ((nI ((40 * tt) + j)).toNatClampNeg))] h Q) from ⟨(vp_in_nI (by omega) (by omega)), ?_⟩)
                              rw [show (rJ h 151 ((nI ((40 * tt) + j)).toNatClampNeg) : Int64) = vs j from by rw [nI_clamp (by omega)]; exact mt.2.2.2.2 _ (by omega)]
                              refine exf_go 5 (show Go (d + 10) true 272 129 [.ref 130, .int (nI tt), .int y, .int 0, .int 0, .int (nI k), .int (nI j)] [.int (40 * (nI tt)), .ref 151, .long (vs j)] h Q from ?_)
                              rw [show (40 * (nI tt) : Int32) = nI (40 * tt) from pk_mul 40 tt]
                              refine exf_go 2 (show Go (d + 10) true 272 132 [.ref 130, .int (nI tt), .int y, .int 0, .int 0, .int (nI k), .int (nI j)] [.int ((nI (40 * tt)) + (nI k)), .ref 151, .long (vs j)] h Q from ?_)
                              rw [show ((nI (40 * tt)) + (nI k) : Int32) = nI ((40 * tt) + k) from nI_add (40 * tt) k]
                              refine exf_go 1 (show vp_in (nI ((40 * tt) + k)) 160 ∧ (Go (d + 10) true 272 133 [.ref 130, .int (nI tt), .int y, .int 0, .int 0, .int (nI k), .int (nI j)] [.long (rJ h 151 ((nI ((40 * tt) + k)).toNatClampNeg)), .long (vs j)] h Q) from ⟨(vp_in_nI (by omega) (by omega)), ?_⟩)
                              rw [show (rJ h 151 ((nI ((40 * tt) + k)).toNatClampNeg) : Int64) = vs k from by rw [nI_clamp (by omega)]; exact mt.2.2.2.2 _ (by omega)]
                              refine exf_go 2 (show (¬ (lg_cmp (vs j) (vs k)) = 0 → Go (d + 10) true 272 140 [.ref 130, .int (nI tt), .int y, .int 0, .int 0, .int (nI k), .int (nI j)] [] h Q) ∧ (¬ (¬ (lg_cmp (vs j) (vs k)) = 0) → Go (d + 10) true 272 137 [.ref 130, .int (nI tt), .int y, .int 0, .int 0, .int (nI k), .int (nI j)] [] h Q) from ⟨fun c17 => ?_, fun c17 => ?_⟩)
                              · skip
                                have c17 : ¬ ((vs j) = (vs k)) := fun q => c17 ((lg_cmp_eq _ _).mpr q)
                                refine exf_go 1 (show Go (d + 10) true 272 143 [.ref 130, .int (nI tt), .int y, .int 0, .int 0, .int (nI k), .int ((nI j) + 1)] [] h Q from ?_)
                                rw [show ((nI j) + 1 : Int32) = nI (j + 1) from nI_add j 1]
                                refine exf_go 1 (show Go (d + 10) true 272 102 [.ref 130, .int (nI tt), .int y, .int 0, .int 0, .int (nI k), .int (nI (j + 1))] [] h Q from ?_)
                                exact ih102 (j + 1) (by omega) (by omega) (by rw [tld, hjt, decide_eq_false (by assumption)]; rfl)
                              · skip
                                have c17 : (vs j) = (vs k) := (lg_cmp_eq _ _).mp (Classical.not_not.mp c17)
                                refine exf_go 2 (show Q (.int (-3)) h from ?_)
                                exact kE _ (by decide) (by unfold tkR; rw [et]; simp only [hwy, hq]; rw [if_neg h18, if_neg (fun q => by first | (rw [aw_no eix n (by omega)] at q; exact Bool.noConfusion q.1) | (have := cnt_nlt (p := frB vs) (show k < n from by omega) (by unfold frB; rw [(tld_iff vs (vs k) k).mpr ⟨j, by omega, by assumption⟩]; rfl); have := q.2; unfold unl at this; omega))])
                        exact L102 (k + 1) 0 (by omega) (by omega) rfl
                      · skip
                        exact absurd (by decide) c15
                    · skip
                      show Go (d + 10) true 272 93 [.ref 130, .int (nI tt), .int y, .int 0, .int 0, .int (nI k), z6] [.int 0] h Q
                      refine exf_go 1 (show (¬ (0 : Int32) = 0 → Go (d + 10) true 272 99 [.ref 130, .int (nI tt), .int y, .int 0, .int 0, .int (nI k), z6] [] h Q) ∧ (¬ (¬ (0 : Int32) = 0) → Go (d + 10) true 272 96 [.ref 130, .int (nI tt), .int y, .int 0, .int 0, .int (nI k), z6] [] h Q) from ⟨fun c18 => ?_, fun c18 => ?_⟩)
                      · skip
                        exact absurd c18 (by decide)
                      · skip
                        refine exf_go 2 (show Q (.int (-3)) h from ?_)
                        exact kE _ (by decide) (by unfold tkR; rw [et]; simp only [hwy, hq]; rw [if_neg h18, if_neg (fun q => by first | (rw [aw_no eix n (by omega)] at q; exact Bool.noConfusion q.1) | (have := cnt_nlt (p := frB vs) (show k < n from by omega) (by unfold frB; rw [(tld_iff vs (vs k) k).mpr ⟨j, by omega, by assumption⟩]; rfl); have := q.2; unfold unl at this; omega))])
              exact L66 (n + 1) mk_ 0 (by omega) (by omega) rfl rfl
            · skip
              exact absurd (by decide) c13
          · skip
            have h18 := wn_8n hn4 u12
            show Go (d + 10) true 272 57 [.ref 130, .int (nI tt), .int y, .int 0, .int 0, mk_, mk_] [.int 0] h Q
            refine exf_go 1 (show (¬ (0 : Int32) = 0 → Go (d + 10) true 272 63 [.ref 130, .int (nI tt), .int y, .int 0, .int 0, mk_, mk_] [] h Q) ∧ (¬ (¬ (0 : Int32) = 0) → Go (d + 10) true 272 60 [.ref 130, .int (nI tt), .int y, .int 0, .int 0, mk_, mk_] [] h Q) from ⟨fun c19 => ?_, fun c19 => ?_⟩)
            · skip
              exact absurd c19 (by decide)
            · skip
              refine exf_go 2 (show Q (.int (-4)) h from ?_)
              exact kE _ (by decide) (by unfold tkR; rw [et]; simp only [hwy, hq]; rw [if_pos h18])
        · skip
          exact absurd (by decide) c11
      · skip
        have hyz := c10
        refine exf_go 5 (show wpC (d + 10) true 183 [.long y.toInt64, .long 10, .long 17] h (fun r h' => Go (d + 10) true 272 29 [.ref 130, .int (nI tt), .int y, .int 0, .int 0, mk_, mk_] [r] h' Q) from ?_)
        refine m_within (fun u20 v20 => ?_) (fun u20 => ?_)
        · skip
          obtain ⟨wy, hwy⟩ := wy_in hyz u20 v20
          show Go (d + 10) true 272 29 [.ref 130, .int (nI tt), .int y, .int 0, .int 0, mk_, mk_] [.int 1] h Q
          refine exf_go 1 (show (¬ (1 : Int32) = 0 → Go (d + 10) true 272 35 [.ref 130, .int (nI tt), .int y, .int 0, .int 0, mk_, mk_] [] h Q) ∧ (¬ (¬ (1 : Int32) = 0) → Go (d + 10) true 272 32 [.ref 130, .int (nI tt), .int y, .int 0, .int 0, mk_, mk_] [] h Q) from ⟨fun c21 => ?_, fun c21 => ?_⟩)
          · skip
            refine exf_go 2 (show ((0 : Int32) = 0 → Go (d + 10) true 272 43 [.ref 130, .int (nI tt), .int y, .int 0, .int 0, mk_, mk_] [] h Q) ∧ (¬ ((0 : Int32) = 0) → Go (d + 10) true 272 40 [.ref 130, .int (nI tt), .int y, .int 0, .int 0, mk_, mk_] [] h Q) from ⟨fun c22 => ?_, fun c22 => ?_⟩)
            · skip
              refine exf_go 4 (show vp_in (nI tt) 4 ∧ (Go (d + 10) true 272 49 [.ref 130, .int (nI tt), .int y, .int 0, .int 0, mk_, mk_] [.int (rI h 150 ((nI tt).toNatClampNeg))] h Q) from ⟨(vp_in_nI (by omega) (by omega)), ?_⟩)
              rw [show (rI h 150 ((nI tt).toNatClampNeg) : Int32) = nI n from by rw [nI_clamp (by omega)]; exact mt.2.2.2.1]
              refine exf_go 1 (show Go (d + 10) true 272 50 [.ref 130, .int (nI tt), .int y, .int 0, .int 0, mk_, mk_] [.long ((nI n).toInt64)] h Q from ?_)
              rw [show ((nI n).toInt64 : Int64) = lN n from nI_l (n := n) (by omega)]
              refine exf_go 3 (show wpC (d + 10) true 183 [.long (lN n), .long 1, .long 8] h (fun r h' => Go (d + 10) true 272 57 [.ref 130, .int (nI tt), .int y, .int 0, .int 0, mk_, mk_] [r] h' Q) from ?_)
              refine m_within (fun u23 v23 => ?_) (fun u23 => ?_)
              · skip
                have h18 := wn_8 hn4 u23 v23
                show Go (d + 10) true 272 57 [.ref 130, .int (nI tt), .int y, .int 0, .int 0, mk_, mk_] [.int 1] h Q
                refine exf_go 1 (show (¬ (1 : Int32) = 0 → Go (d + 10) true 272 63 [.ref 130, .int (nI tt), .int y, .int 0, .int 0, mk_, mk_] [] h Q) ∧ (¬ (¬ (1 : Int32) = 0) → Go (d + 10) true 272 60 [.ref 130, .int (nI tt), .int y, .int 0, .int 0, mk_, mk_] [] h Q) from ⟨fun c24 => ?_, fun c24 => ?_⟩)
                · skip
                  refine exf_go 2 (show Go (d + 10) true 272 66 [.ref 130, .int (nI tt), .int y, .int 0, .int 0, .int 0, mk_] [] h Q from ?_)
                  have L66 : ∀ (k66 : Nat) (z6 : Value) (k : Nat), (n - k) < k66 → (k ≤ n) → (awB vs (tot g) k = true) → (unl vs k = k) → Go (d + 10) true 272 66 [.ref 130, .int (nI tt), .int y, .int 0, .int 0, .int (nI k), z6] [] h Q := by
                    intro k66
                    induction k66 with
                    | zero => intro z6 k hk; exact absurd hk (Nat.not_lt_zero _)
                    | succ k66 ih66 =>
                      intro z6 k hk hk hka hku
                      refine exf_go 5 (show vp_in (nI tt) 4 ∧ (Go (d + 10) true 272 74 [.ref 130, .int (nI tt), .int y, .int 0, .int 0, .int (nI k), z6] [.int (rI h 150 ((nI tt).toNatClampNeg)), .int (nI k)] h Q) from ⟨(vp_in_nI (by omega) (by omega)), ?_⟩)
                      rw [show (rI h 150 ((nI tt).toNatClampNeg) : Int32) = nI n from by rw [nI_clamp (by omega)]; exact mt.2.2.2.1]
                      refine exf_go 1 (show ((nI n) ≤ (nI k) → Go (d + 10) true 272 152 [.ref 130, .int (nI tt), .int y, .int 0, .int 0, .int (nI k), z6] [] h Q) ∧ (¬ ((nI n) ≤ (nI k)) → Go (d + 10) true 272 77 [.ref 130, .int (nI tt), .int y, .int 0, .int 0, .int (nI k), z6] [] h Q) from ⟨fun c25 => ?_, fun c25 => ?_⟩)
                      · skip
                        have c25 : n ≤ k := (nI_leI (a := n) (b := k) (by omega) (by omega)).mp c25
                        refine exf_go 3 (show wpC (d + 10) true 223 [.ref 130] h (fun r h' => Go (d + 10) true 272 157 [.ref 130, .int (nI tt), .int y, .int 0, .int 0, .int (nI k), z6] [r, .ref 130] h' Q) from ?_)
                        refine m_every ms ?_
                        show Go (d + 10) true 272 157 [.ref 130, .int (nI tt), .int y, .int 0, .int 0, .int (nI k), z6] [.int (nI (evr g)), .ref 130] h Q
                        refine exf_go 1 (show wpC (d + 10) true 225 [.ref 130, .int (nI (evr g))] h (fun _ h' => Go (d + 10) true 272 160 [.ref 130, .int (nI tt), .int y, .int 0, .int 0, .int (nI k), z6] [] h' Q) from ?_)
                        refine m_laysRanks ms (by omega) (fun h1 q1 mw1 mr1 => ?_)
                        have ms1 := ms_fq ms q1
                        have mt1 : MT tt (some (so, n, vs)) h1 := mt_same mt (q1.1 149 tt rfl).1 (q1.1 150 tt rfl).1 (fun i _ => (q1.1 151 _ rfl).2)
                        show Go (d + 10) true 272 160 [.ref 130, .int (nI tt), .int y, .int 0, .int 0, .int (nI k), z6] [] h1 Q
                        refine exf_go 11 (show ((0 : Int32) = 0 ∨ (0 : Int32) = 1) ∧ vp_in 50 41523 ∧ (Go (d + 10) true 272 176 [.ref 130, .int (nI tt), .int y, .int 0, .int 0, .int (nI k), z6] [.int (rI h1 131 50), .int 0, .int 0, .int (nI tt), .ref 130] (uI h1 130 28 0) Q) from ⟨(by first | exact Or.inl rfl | exact Or.inr rfl | assumption), (vp_in_nI (n := 50) (by decide) (by decide)), ?_⟩)
                        rw [show (rI h1 131 50 : Int32) = nI (lA l) from ms_A ms1]
                        refine exf_go 4 (show wpC (d + 10) true 271 [.ref 130, .int (nI tt), .int 0, .int 0, .int (nI (lA l)), .int 0, .long 0, .int 0] (uI h1 130 28 0) (fun _ h' => Go (d + 10) true 272 182 [.ref 130, .int (nI tt), .int y, .int 0, .int 0, .int (nI k), z6] [] h' Q) from ?_)
                        have hkn : k = n := by omega
                        subst hkn
                        have hgo : GRC false 0 g l tt so k vs (d + 10) k := by have := m_goes0 (d := d + 1 + (8 - k)) (l := l) (so := so) etr (by omega) (by omega) hka k; rw [show d + 1 + (8 - k) + k + 1 = d + 10 from by omega] at this; exact this
                        refine hgo 0 0 (lA l) 0 0 (fun _ => 0) (0, 0, fun _ => 0) _ _ (ms_fq ms1 (Fq.uI' Fq.rfl' _ _ _ rfl)) (mw_fq mw1 rfl) (mt_same mt1 rfl rfl (fun _ _ => rfl)) (Nat.zero_add _) rmn_z (Nat.two_pow_pos _) (Nat.zero_le _) (Nat.zero_le _) hlA (fun j hj => absurd hj (Nat.not_lt_zero _)) ⟨Nat.zero_le _, Nat.zero_le _, rfl, fun q => absurd q (by decide), fun q => absurd q (by decide)⟩ (fun h2 q2 hrs2 ht2 => ?_)
                        show Go (d + 10) true 272 182 [.ref 130, .int (nI tt), .int y, .int 0, .int 0, .int (nI k), z6] [] h2 Q
                        refine exf_go 2 (show Q (.int 0) h2 from ?_)
                        exact k0 tt so k vs wy h2 et rfl etr hq hwy (by omega) (by omega) hka (by unfold tkR; rw [et]; simp only [hwy, hq]; rw [if_neg h18, if_pos ⟨hka, hku⟩]) ((q1.uI' _ _ _ rfl).tr (q2.mono sGw_M)) (mt_same mt1 (q2.1 149 tt rfl).1 (q2.1 150 tt rfl).1 (fun i _ => (q2.1 151 _ rfl).2)) (rs_end hrs2).1 (rs_end hrs2).2
                      · skip
                        have c25 : ¬ n ≤ k := fun q => c25 ((nI_leI (a := n) (b := k) (by omega) (by omega)).mpr q)
                        refine exf_go 6 (show Go (d + 10) true 272 86 [.ref 130, .int (nI tt), .int y, .int 0, .int 0, .int (nI k), z6] [.int (40 * (nI tt)), .ref 151, .ref 130] h Q from ?_)
                        rw [show (40 * (nI tt) : Int32) = nI (40 * tt) from pk_mul 40 tt]
                        refine exf_go 2 (show Go (d + 10) true 272 89 [.ref 130, .int (nI tt), .int y, .int 0, .int 0, .int (nI k), z6] [.int ((nI (40 * tt)) + (nI k)), .ref 151, .ref 130] h Q from ?_)
                        rw [show ((nI (40 * tt)) + (nI k) : Int32) = nI ((40 * tt) + k) from nI_add (40 * tt) k]
                        refine exf_go 1 (show vp_in (nI ((40 * tt) + k)) 160 ∧ (Go (d + 10) true 272 90 [.ref 130, .int (nI tt), .int y, .int 0, .int 0, .int (nI k), z6] [.long (rJ h 151 ((nI ((40 * tt) + k)).toNatClampNeg)), .ref 130] h Q) from ⟨(vp_in_nI (by omega) (by omega)), ?_⟩)
                        rw [show (rJ h 151 ((nI ((40 * tt) + k)).toNatClampNeg) : Int64) = vs k from by rw [nI_clamp (by omega)]; exact mt.2.2.2.2 _ (by omega)]
                        refine exf_go 1 (show wpC (d + 10) true 218 [.ref 130, .long (vs k)] h (fun r h' => Go (d + 10) true 272 93 [.ref 130, .int (nI tt), .int y, .int 0, .int 0, .int (nI k), z6] [r] h' Q) from ?_)
                        refine m_isNumL ms (x := vs k) (fun nn eix eq1 eq2 => ?_) (fun eix => ?_)
                        · skip
                          show Go (d + 10) true 272 93 [.ref 130, .int (nI tt), .int y, .int 0, .int 0, .int (nI k), z6] [.int 1] h Q
                          refine exf_go 1 (show (¬ (1 : Int32) = 0 → Go (d + 10) true 272 99 [.ref 130, .int (nI tt), .int y, .int 0, .int 0, .int (nI k), z6] [] h Q) ∧ (¬ (¬ (1 : Int32) = 0) → Go (d + 10) true 272 96 [.ref 130, .int (nI tt), .int y, .int 0, .int 0, .int (nI k), z6] [] h Q) from ⟨fun c26 => ?_, fun c26 => ?_⟩)
                          · skip
                            refine exf_go 2 (show Go (d + 10) true 272 102 [.ref 130, .int (nI tt), .int y, .int 0, .int 0, .int (nI k), .int 0] [] h Q from ?_)
                            have L102 : ∀ (k102 : Nat) (j : Nat), (k - j) < k102 → (j ≤ k) → (tld vs (vs k) j = false) → Go (d + 10) true 272 102 [.ref 130, .int (nI tt), .int y, .int 0, .int 0, .int (nI k), .int (nI j)] [] h Q := by
                              intro k102
                              induction k102 with
                              | zero => intro j hk; exact absurd hk (Nat.not_lt_zero _)
                              | succ k102 ih102 =>
                                intro j hk hj hjt
                                refine exf_go 3 (show ((nI k) ≤ (nI j) → Go (d + 10) true 272 146 [.ref 130, .int (nI tt), .int y, .int 0, .int 0, .int (nI k), .int (nI j)] [] h Q) ∧ (¬ ((nI k) ≤ (nI j)) → Go (d + 10) true 272 109 [.ref 130, .int (nI tt), .int y, .int 0, .int 0, .int (nI k), .int (nI j)] [] h Q) from ⟨fun c27 => ?_, fun c27 => ?_⟩)
                                · skip
                                  have c27 : k ≤ j := (nI_leI (a := k) (b := j) (by omega) (by omega)).mp c27
                                  refine exf_go 1 (show Go (d + 10) true 272 149 [.ref 130, .int (nI tt), .int y, .int 0, .int 0, .int ((nI k) + 1), .int (nI j)] [] h Q from ?_)
                                  rw [show ((nI k) + 1 : Int32) = nI (k + 1) from nI_add k 1]
                                  refine exf_go 1 (show Go (d + 10) true 272 66 [.ref 130, .int (nI tt), .int y, .int 0, .int 0, .int (nI (k + 1)), .int (nI j)] [] h Q from ?_)
                                  exact ih66 (.int (nI j)) (k + 1) (by omega) (by omega) (by rw [awB, hka, eix]; rfl) (by unfold unl; rw [← cn_y (p := frB vs) rfl (by unfold frB; rw [show tld vs (vs k) k = false from by rw [show j = k from by omega] at hjt; exact hjt]; rfl)]; unfold unl at hku; omega)
                                · skip
                                  have c27 : ¬ k ≤ j := fun q => c27 ((nI_leI (a := k) (b := j) (by omega) (by omega)).mpr q)
                                  refine exf_go 5 (show Go (d + 10) true 272 117 [.ref 130, .int (nI tt), .int y, .int 0, .int 0, .int (nI k), .int (nI j)] [.int (40 * (nI tt)), .ref 151] h Q from ?_)
                                  rw [show (40 * (nI tt) : Int32) = nI (40 * tt) from pk_mul 40 tt]
                                  refine exf_go 2 (show Go (d + 10) true 272 120 [.ref 130, .int (nI tt), .int y, .int 0, .int 0, .int (nI k), .int (nI j)] [.int ((nI (40 * tt)) + (nI j)), .ref 151] h Q from ?_)
                                  rw [show ((nI (40 * tt)) + (nI j) : Int32) = nI ((40 * tt) + j) from nI_add (40 * tt) j]
                                  refine exf_go 1 (show vp_in (nI ((40 * tt) + j)) 160 ∧ (Go (d + 10) true 272 121 [.ref 130, .int (nI tt), .int y, .int 0, .int 0, .int (nI k), .int (nI j)] [.long (rJ h 151 ((nI ((40 * tt) + j)).toNatClampNeg))] h Q) from ⟨(vp_in_nI (by omega) (by omega)), ?_⟩)
                                  rw [show (rJ h 151 ((nI ((40 * tt) + j)).toNatClampNeg) : Int64) = vs j from by rw [nI_clamp (by omega)]; exact mt.2.2.2.2 _ (by omega)]
                                  refine exf_go 5 (show Go (d + 10) true 272 129 [.ref 130, .int (nI tt), .int y, .int 0, .int 0, .int (nI k), .int (nI j)] [.int (40 * (nI tt)), .ref 151, .long (vs j)] h Q from ?_)
                                  rw [show (40 * (nI tt) : Int32) = nI (40 * tt) from pk_mul 40 tt]
                                  refine exf_go 2 (show Go (d + 10) true 272 132 [.ref 130, .int (nI tt), .int y, .int 0, .int 0, .int (nI k), .int (nI j)] [.int ((nI (40 * tt)) + (nI k)), .ref 151, .long (vs j)] h Q from ?_)
                                  rw [show ((nI (40 * tt)) + (nI k) : Int32) = nI ((40 * tt) + k) from nI_add (40 * tt) k]
                                  refine exf_go 1 (show vp_in (nI ((40 * tt) + k)) 160 ∧ (Go (d + 10) true 272 133 [.ref 130, .int (nI tt), .int y, .int 0, .int 0, .int (nI k), .int (nI j)] [.long (rJ h 151 ((nI ((40 * tt) + k)).toNatClampNeg)), .long (vs j)] h Q) from ⟨(vp_in_nI (by omega) (by omega)), ?_⟩)
                                  rw [show (rJ h 151 ((nI ((40 * tt) + k)).toNatClampNeg) : Int64) = vs k from by rw [nI_clamp (by omega)]; exact mt.2.2.2.2 _ (by omega)]
                                  refine exf_go 2 (show (¬ (lg_cmp (vs j) (vs k)) = 0 → Go (d + 10) true 272 140 [.ref 130, .int (nI tt), .int y, .int 0, .int 0, .int (nI k), .int (nI j)] [] h Q) ∧ (¬ (¬ (lg_cmp (vs j) (vs k)) = 0) → Go (d + 10) true 272 137 [.ref 130, .int (nI tt), .int y, .int 0, .int 0, .int (nI k), .int (nI j)] [] h Q) from ⟨fun c28 => ?_, fun c28 => ?_⟩)
                                  · skip
                                    have c28 : ¬ ((vs j) = (vs k)) := fun q => c28 ((lg_cmp_eq _ _).mpr q)
                                    refine exf_go 1 (show Go (d + 10) true 272 143 [.ref 130, .int (nI tt), .int y, .int 0, .int 0, .int (nI k), .int ((nI j) + 1)] [] h Q from ?_)
                                    rw [show ((nI j) + 1 : Int32) = nI (j + 1) from nI_add j 1]
                                    refine exf_go 1 (show Go (d + 10) true 272 102 [.ref 130, .int (nI tt), .int y, .int 0, .int 0, .int (nI k), .int (nI (j + 1))] [] h Q from ?_)
                                    exact ih102 (j + 1) (by omega) (by omega) (by rw [tld, hjt, decide_eq_false (by assumption)]; rfl)
                                  · skip
                                    have c28 : (vs j) = (vs k) := (lg_cmp_eq _ _).mp (Classical.not_not.mp c28)
                                    refine exf_go 2 (show Q (.int (-3)) h from ?_)
                                    exact kE _ (by decide) (by unfold tkR; rw [et]; simp only [hwy, hq]; rw [if_neg h18, if_neg (fun q => by first | (rw [aw_no eix n (by omega)] at q; exact Bool.noConfusion q.1) | (have := cnt_nlt (p := frB vs) (show k < n from by omega) (by unfold frB; rw [(tld_iff vs (vs k) k).mpr ⟨j, by omega, by assumption⟩]; rfl); have := q.2; unfold unl at this; omega))])
                            exact L102 (k + 1) 0 (by omega) (by omega) rfl
                          · skip
                            exact absurd (by decide) c26
                        · skip
                          show Go (d + 10) true 272 93 [.ref 130, .int (nI tt), .int y, .int 0, .int 0, .int (nI k), z6] [.int 0] h Q
                          refine exf_go 1 (show (¬ (0 : Int32) = 0 → Go (d + 10) true 272 99 [.ref 130, .int (nI tt), .int y, .int 0, .int 0, .int (nI k), z6] [] h Q) ∧ (¬ (¬ (0 : Int32) = 0) → Go (d + 10) true 272 96 [.ref 130, .int (nI tt), .int y, .int 0, .int 0, .int (nI k), z6] [] h Q) from ⟨fun c29 => ?_, fun c29 => ?_⟩)
                          · skip
                            exact absurd c29 (by decide)
                          · skip
                            refine exf_go 2 (show Q (.int (-3)) h from ?_)
                            exact kE _ (by decide) (by unfold tkR; rw [et]; simp only [hwy, hq]; rw [if_neg h18, if_neg (fun q => by first | (rw [aw_no eix n (by omega)] at q; exact Bool.noConfusion q.1) | (have := cnt_nlt (p := frB vs) (show k < n from by omega) (by unfold frB; rw [(tld_iff vs (vs k) k).mpr ⟨j, by omega, by assumption⟩]; rfl); have := q.2; unfold unl at this; omega))])
                  exact L66 (n + 1) mk_ 0 (by omega) (by omega) rfl rfl
                · skip
                  exact absurd (by decide) c24
              · skip
                have h18 := wn_8n hn4 u23
                show Go (d + 10) true 272 57 [.ref 130, .int (nI tt), .int y, .int 0, .int 0, mk_, mk_] [.int 0] h Q
                refine exf_go 1 (show (¬ (0 : Int32) = 0 → Go (d + 10) true 272 63 [.ref 130, .int (nI tt), .int y, .int 0, .int 0, mk_, mk_] [] h Q) ∧ (¬ (¬ (0 : Int32) = 0) → Go (d + 10) true 272 60 [.ref 130, .int (nI tt), .int y, .int 0, .int 0, mk_, mk_] [] h Q) from ⟨fun c30 => ?_, fun c30 => ?_⟩)
                · skip
                  exact absurd c30 (by decide)
                · skip
                  refine exf_go 2 (show Q (.int (-4)) h from ?_)
                  exact kE _ (by decide) (by unfold tkR; rw [et]; simp only [hwy, hq]; rw [if_pos h18])
            · skip
              exact absurd (by decide) c22
          · skip
            exact absurd (by decide) c21
        · skip
          have hwn := wy_no hyz u20
          show Go (d + 10) true 272 29 [.ref 130, .int (nI tt), .int y, .int 0, .int 0, mk_, mk_] [.int 0] h Q
          refine exf_go 1 (show (¬ (0 : Int32) = 0 → Go (d + 10) true 272 35 [.ref 130, .int (nI tt), .int y, .int 0, .int 0, mk_, mk_] [] h Q) ∧ (¬ (¬ (0 : Int32) = 0) → Go (d + 10) true 272 32 [.ref 130, .int (nI tt), .int y, .int 0, .int 0, mk_, mk_] [] h Q) from ⟨fun c31 => ?_, fun c31 => ?_⟩)
          · skip
            exact absurd c31 (by decide)
          · skip
            refine exf_go 2 (show Q (.int (-2)) h from ?_)
            exact kE _ (by decide) (by unfold tkR; rw [et, hwn])
theorem m_best {d : Nat} {h : Hp} {g : ShG} {l : LkG} {tr : Nat → TrG} {x y : Int32} {Q : Po} (ms : MS g l h) (ma : MTA tr h) (k : ∀ h1, Fq scM h h1 → Q (.long (fBest g l tr x y)) h1) : wpC (d + 12) true 273 [.ref 130, .int x, .int y] h Q := by
  have htb := tot_b ms.1.1
  have hlA := ms.1.2.1
  refine go_in rfl ?_
  refine exf_go 8 (show wpC (d + 11) true 272 [.ref 130, .int x, .int y, .int 1] (uI h 130 0 0) (fun r h' => Go (d + 11) true 273 12 [.ref 130, .int x, .int y, mk_] [r] h' Q) from ?_)
  refine m_laysRow1 (ms_fq ms (Fq.uI' Fq.rfl' _ _ _ rfl)) (mta_fq (s := scM) ma (Fq.uI' Fq.rfl' _ _ _ rfl) (fun _ => rfl) (fun _ => rfl) (fun _ => rfl)) (fun z hz0 hz => ?_) (fun t so n vs w h1 et etq ht4 hq hwy hn1 hn8 haw htk q1 mt1 hl1 hr1 => ?_)
  · skip
    show Go (d + 11) true 273 12 [.ref 130, .int x, .int y, mk_] [.int z] (uI h 130 0 0) Q
    refine exf_go 3 (show (z = 0 → Go (d + 11) true 273 22 [.ref 130, .int x, .int y, .int z] [] (uI h 130 0 0) Q) ∧ (¬ (z = 0) → Go (d + 11) true 273 17 [.ref 130, .int x, .int y, .int z] [] (uI h 130 0 0) Q) from ⟨fun c1 => ?_, fun c1 => ?_⟩)
    · skip
      exact absurd c1 hz0
    · skip
      refine exf_go 4 (show Q (.long z.toInt64) (uI h 130 0 0) from ?_)
      rw [fBest, if_neg (by rw [hz]; exact hz0), hz] at k; exact k _ (Fq.uI' Fq.rfl' _ _ _ rfl)
  · skip
    subst etq
    show Go (d + 11) true 273 12 [.ref 130, .int (nI t), .int y, mk_] [.int 0] h1 Q
    refine exf_go 3 (show ((0 : Int32) = 0 → Go (d + 11) true 273 22 [.ref 130, .int (nI t), .int y, .int 0] [] h1 Q) ∧ (¬ ((0 : Int32) = 0) → Go (d + 11) true 273 17 [.ref 130, .int (nI t), .int y, .int 0] [] h1 Q) from ⟨fun c2 => ?_, fun c2 => ?_⟩)
    · skip
      refine exf_go 2 (show (¬ y = 0 → Go (d + 11) true 273 33 [.ref 130, .int (nI t), .int y, .int 0] [] h1 Q) ∧ (¬ (¬ y = 0) → Go (d + 11) true 273 26 [.ref 130, .int (nI t), .int y, .int 0] [] h1 Q) from ⟨fun c3 => ?_, fun c3 => ?_⟩)
      · skip
        obtain ⟨j, hjw, hj10, hj8⟩ := wh_s (by assumption) hwy
        refine exf_go 3 (show Go (d + 11) true 273 37 [.ref 130, .int (nI t), .int y, .int 0] [.int (y - 10)] h1 Q from ?_)
        rw [show (y - 10 : Int32) = nI j from hj10]
        refine exf_go 4 (show vp_in (nI t) 4 ∧ (Go (d + 11) true 273 43 [.ref 130, .int (nI t), .int y, .int 0] [.int (rI h1 150 ((nI t).toNatClampNeg)), .int (nI j)] h1 Q) from ⟨(vp_in_nI (by omega) (by omega)), ?_⟩)
        rw [show (rI h1 150 ((nI t).toNatClampNeg) : Int32) = nI n from by rw [nI_clamp (by omega)]; exact mt1.2.2.2.1]
        refine exf_go 1 (show ((nI n) ≤ (nI j) → Go (d + 11) true 273 59 [.ref 130, .int (nI t), .int y, .int 0] [] h1 Q) ∧ (¬ ((nI n) ≤ (nI j)) → Go (d + 11) true 273 46 [.ref 130, .int (nI t), .int y, .int 0] [] h1 Q) from ⟨fun c4 => ?_, fun c4 => ?_⟩)
        · skip
          have c4 : n ≤ j := (nI_leI (a := n) (b := j) (by omega) (by omega)).mp c4
          refine exf_go 2 (show Q (.long (-1)) h1 from ?_)
          rw [fBest, if_pos htk] at k
          subst hjw
          simp only [rowO, et, hq, hwy, cond_true, cond_false, rowA] at k
          rw [if_neg (by omega)] at k
          exact k _ ((Fq.uI' Fq.rfl' _ _ _ rfl).tr q1)
        · skip
          have c4 : ¬ n ≤ j := fun q => c4 ((nI_leI (a := n) (b := j) (by omega) (by omega)).mpr q)
          refine exf_go 5 (show Go (d + 11) true 273 54 [.ref 130, .int (nI t), .int y, .int 0] [.int (y - 10), .ref 143] h1 Q from ?_)
          rw [show (y - 10 : Int32) = nI j from hj10]
          refine exf_go 1 (show vp_in (nI j) 8 ∧ (Go (d + 11) true 273 55 [.ref 130, .int (nI t), .int y, .int 0] [.int (rI h1 143 ((nI j).toNatClampNeg))] h1 Q) from ⟨(vp_in_nI (by omega) (by omega)), ?_⟩)
          rw [show (rI h1 143 ((nI j).toNatClampNeg) : Int32) = nI (lgP g (sP g) (vN g vs) (fWs g (vN g vs) n) n n 0 (lA l) j) from by rw [nI_clamp (by omega)]; exact hr1 _ (by omega)]
          have hpb := lgP_b (F := (fWs g (vN g vs) n)) (n := n) (pl := (sP g)) ms.1.1 (fun i hi => (vN_at ms.1.1 haw hi).2) n 0 (lA l) j
          refine exf_go 1 (show Go (d + 11) true 273 56 [.ref 130, .int (nI t), .int y, .int 0] [.long ((nI (lgP g (sP g) (vN g vs) (fWs g (vN g vs) n) n n 0 (lA l) j)).toInt64)] h1 Q from ?_)
          rw [show ((nI (lgP g (sP g) (vN g vs) (fWs g (vN g vs) n) n n 0 (lA l) j)).toInt64 : Int64) = lN (lgP g (sP g) (vN g vs) (fWs g (vN g vs) n) n n 0 (lA l) j) from nI_l (n := (lgP g (sP g) (vN g vs) (fWs g (vN g vs) n) n n 0 (lA l) j)) (by omega)]
          refine exf_go 2 (show Q (.long (lN (lgP g (sP g) (vN g vs) (fWs g (vN g vs) n) n n 0 (lA l) j))) h1 from ?_)
          rw [fBest, if_pos htk] at k
          subst hjw
          simp only [rowO, et, hq, hwy, cond_true, cond_false, rowA] at k
          rw [if_pos (by omega)] at k
          exact k _ ((Fq.uI' Fq.rfl' _ _ _ rfl).tr q1)
      · skip
        have hy0 : y = 0 := by first | exact c3 | exact Classical.not_not.mp c3
        refine exf_go 2 (show Go (d + 11) true 273 30 [.ref 130, .int (nI t), .int y, .int 0] [.long (rJ h1 130 27)] h1 Q from ?_)
        rw [show (rJ h1 130 27 : Int64) = lN ((lgV g (sP g) (vN g vs) (fWs g (vN g vs) n) n 0 (lA l)).2) from hl1]
        refine exf_go 2 (show Q (.long (lN ((lgV g (sP g) (vN g vs) (fWs g (vN g vs) n) n 0 (lA l)).2))) h1 from ?_)
        rw [fBest, if_pos htk] at k
        subst hy0
        have := wh_z hwy
        subst this
        simp only [rowO, et, hq, hwy, cond_true, cond_false, rowA] at k
        exact k _ ((Fq.uI' Fq.rfl' _ _ _ rfl).tr q1)
    · skip
      exact absurd (by decide) c2
theorem m_shortest {d : Nat} {h : Hp} {g : ShG} {l : LkG} {tr : Nat → TrG} {x y : Int32} {Q : Po} (ms : MS g l h) (ma : MTA tr h) (k : ∀ h1, Fq scM h h1 → Q (.int (fShort g l tr x y)) h1) : wpC (d + 12) true 274 [.ref 130, .int x, .int y] h Q := by
  have htb := tot_b ms.1.1
  have hlA := ms.1.2.1
  refine go_in rfl ?_
  refine exf_go 8 (show wpC (d + 11) true 272 [.ref 130, .int x, .int y, .int 0] (uI h 130 0 0) (fun r h' => Go (d + 11) true 274 12 [.ref 130, .int x, .int y, mk_] [r] h' Q) from ?_)
  refine m_laysRow0 (ms_fq ms (Fq.uI' Fq.rfl' _ _ _ rfl)) (mta_fq (s := scM) ma (Fq.uI' Fq.rfl' _ _ _ rfl) (fun _ => rfl) (fun _ => rfl) (fun _ => rfl)) (fun z hz0 hz => ?_) (fun t so n vs w h1 et etq ht4 hq hwy hn1 hn8 haw htk q1 mt1 hl1 hr1 => ?_)
  · skip
    show Go (d + 11) true 274 12 [.ref 130, .int x, .int y, mk_] [.int z] (uI h 130 0 0) Q
    refine exf_go 3 (show (z = 0 → Go (d + 11) true 274 21 [.ref 130, .int x, .int y, .int z] [] (uI h 130 0 0) Q) ∧ (¬ (z = 0) → Go (d + 11) true 274 17 [.ref 130, .int x, .int y, .int z] [] (uI h 130 0 0) Q) from ⟨fun c1 => ?_, fun c1 => ?_⟩)
    · skip
      exact absurd c1 hz0
    · skip
      refine exf_go 3 (show Q (.int z) (uI h 130 0 0) from ?_)
      rw [fShort, if_neg (by rw [hz]; exact hz0), hz] at k; exact k _ (Fq.uI' Fq.rfl' _ _ _ rfl)
  · skip
    subst etq
    show Go (d + 11) true 274 12 [.ref 130, .int (nI t), .int y, mk_] [.int 0] h1 Q
    refine exf_go 3 (show ((0 : Int32) = 0 → Go (d + 11) true 274 21 [.ref 130, .int (nI t), .int y, .int 0] [] h1 Q) ∧ (¬ ((0 : Int32) = 0) → Go (d + 11) true 274 17 [.ref 130, .int (nI t), .int y, .int 0] [] h1 Q) from ⟨fun c2 => ?_, fun c2 => ?_⟩)
    · skip
      refine exf_go 2 (show (¬ y = 0 → Go (d + 11) true 274 33 [.ref 130, .int (nI t), .int y, .int 0] [] h1 Q) ∧ (¬ (¬ y = 0) → Go (d + 11) true 274 25 [.ref 130, .int (nI t), .int y, .int 0] [] h1 Q) from ⟨fun c3 => ?_, fun c3 => ?_⟩)
      · skip
        obtain ⟨j, hjw, hj10, hj8⟩ := wh_s (by assumption) hwy
        refine exf_go 3 (show Go (d + 11) true 274 37 [.ref 130, .int (nI t), .int y, .int 0] [.int (y - 10)] h1 Q from ?_)
        rw [show (y - 10 : Int32) = nI j from hj10]
        refine exf_go 4 (show vp_in (nI t) 4 ∧ (Go (d + 11) true 274 43 [.ref 130, .int (nI t), .int y, .int 0] [.int (rI h1 150 ((nI t).toNatClampNeg)), .int (nI j)] h1 Q) from ⟨(vp_in_nI (by omega) (by omega)), ?_⟩)
        rw [show (rI h1 150 ((nI t).toNatClampNeg) : Int32) = nI n from by rw [nI_clamp (by omega)]; exact mt1.2.2.2.1]
        refine exf_go 1 (show ((nI n) ≤ (nI j) → Go (d + 11) true 274 58 [.ref 130, .int (nI t), .int y, .int 0] [] h1 Q) ∧ (¬ ((nI n) ≤ (nI j)) → Go (d + 11) true 274 46 [.ref 130, .int (nI t), .int y, .int 0] [] h1 Q) from ⟨fun c4 => ?_, fun c4 => ?_⟩)
        · skip
          have c4 : n ≤ j := (nI_leI (a := n) (b := j) (by omega) (by omega)).mp c4
          refine exf_go 2 (show Q (.int (-1)) h1 from ?_)
          rw [fShort, if_pos htk] at k
          subst hjw
          simp only [rowO, et, hq, hwy, cond_true, cond_false, rowA] at k
          rw [if_neg (by omega)] at k
          exact k _ ((Fq.uI' Fq.rfl' _ _ _ rfl).tr q1)
        · skip
          have c4 : ¬ n ≤ j := fun q => c4 ((nI_leI (a := n) (b := j) (by omega) (by omega)).mpr q)
          refine exf_go 5 (show Go (d + 11) true 274 54 [.ref 130, .int (nI t), .int y, .int 0] [.int (y - 10), .ref 143] h1 Q from ?_)
          rw [show (y - 10 : Int32) = nI j from hj10]
          refine exf_go 1 (show vp_in (nI j) 8 ∧ (Go (d + 11) true 274 55 [.ref 130, .int (nI t), .int y, .int 0] [.int (rI h1 143 ((nI j).toNatClampNeg))] h1 Q) from ⟨(vp_in_nI (by omega) (by omega)), ?_⟩)
          rw [show (rI h1 143 ((nI j).toNatClampNeg) : Int32) = nI (lgP g 0 (vN g vs) (fun _ => 1) n n 0 (lA l) j) from by rw [nI_clamp (by omega)]; exact hr1 _ (by omega)]
          have hpb := lgP_b (F := (fun _ => 1)) (n := n) (pl := 0) ms.1.1 (fun i hi => (vN_at ms.1.1 haw hi).2) n 0 (lA l) j
          refine exf_go 2 (show Q (.int (nI (lgP g 0 (vN g vs) (fun _ => 1) n n 0 (lA l) j))) h1 from ?_)
          rw [fShort, if_pos htk] at k
          subst hjw
          simp only [rowO, et, hq, hwy, cond_true, cond_false, rowA] at k
          rw [if_pos (by omega)] at k
          exact k _ ((Fq.uI' Fq.rfl' _ _ _ rfl).tr q1)
      · skip
        have hy0 : y = 0 := by first | exact c3 | exact Classical.not_not.mp c3
        refine exf_go 2 (show Go (d + 11) true 274 29 [.ref 130, .int (nI t), .int y, .int 0] [.long (rJ h1 130 27)] h1 Q from ?_)
        rw [show (rJ h1 130 27 : Int64) = lN ((lgV g 0 (vN g vs) (fun _ => 1) n 0 (lA l)).2) from hl1]
        refine exf_go 1 (show Go (d + 11) true 274 30 [.ref 130, .int (nI t), .int y, .int 0] [.int ((lN ((lgV g 0 (vN g vs) (fun _ => 1) n 0 (lA l)).2)).toInt32)] h1 Q from ?_)
        rw [show ((lN ((lgV g 0 (vN g vs) (fun _ => 1) n 0 (lA l)).2)).toInt32 : Int32) = nI ((lgV g 0 (vN g vs) (fun _ => 1) n 0 (lA l)).2) from lN_i _]
        refine exf_go 2 (show Q (.int (nI ((lgV g 0 (vN g vs) (fun _ => 1) n 0 (lA l)).2))) h1 from ?_)
        rw [fShort, if_pos htk] at k
        subst hy0
        have := wh_z hwy
        subst this
        simp only [rowO, et, hq, hwy, cond_true, cond_false, rowA] at k
        exact k _ ((Fq.uI' Fq.rfl' _ _ _ rfl).tr q1)
    · skip
      exact absurd (by decide) c2
