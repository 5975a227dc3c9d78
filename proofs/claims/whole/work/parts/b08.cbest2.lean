/-! The class: best and shortest, the calls. -/
theorem wh_s {y : Int32} {w : Nat} (h0 : ¬ y = 0) (h : wh y = some w) : ∃ j, w = j + 1 ∧ y - 10 = nI j ∧ j < 8 := by
  unfold wh at h
  rw [if_neg h0] at h
  by_cases c1 : y - 10 < 0
  · rw [ix_neg c1] at h; exact absurd h (by simp)
  · by_cases c2 : nI 8 ≤ y - 10
    · rw [ix_ge c2] at h; exact absurd h (by simp)
    · obtain ⟨j, e1, e2, e3⟩ := ix_in (by decide) c1 c2
      rw [e1] at h
      exact ⟨j, (Option.some.inj h).symm, e2, e3⟩
theorem wh_z {w : Nat} (h : wh 0 = some w) : w = 0 := by rw [wh_0] at h; exact (Option.some.inj h).symm
theorem c_inRow {d : Nat} {h : Hp} {n j : Nat} {P : Nat → Nat} {Q : Po} (hs : rI h 78 1 = nI n) (hn8 : n ≤ 8) (hr : ∀ j, j < n → rI h 84 j = nI (P j)) (hj : j < 8) (k : Q (.int (oI (if j < n then some (P j) else none))) h) : wpC (d + 1) true 22 [.ref 78, .int (nI j)] h Q := by
  refine go_in rfl ?_
  refine exf_go 2 (show ((nI j) < 0 → Go d true 22 21 [.ref 78, .int (nI j)] [] h Q) ∧ (¬ ((nI j) < 0) → Go d true 22 4 [.ref 78, .int (nI j)] [] h Q) from ⟨fun c1 => ?_, fun c1 => ?_⟩)
  · skip
    have c1 : j < 0 := (nI_ltI (a := j) (b := 0) (by omega) (by omega)).mp c1
    refine exf_go 2 (show Q (.int (-1)) h from ?_)
    rw [if_neg (by omega)] at k; exact k
  · skip
    have c1 : ¬ j < 0 := fun q => c1 ((nI_ltI (a := j) (b := 0) (by omega) (by omega)).mpr q)
    refine exf_go 3 (show Go d true 22 9 [.ref 78, .int (nI j)] [.int (rI h 78 1), .int (nI j)] h Q from ?_)
    rw [show (rI h 78 1 : Int32) = nI n from hs]
    refine exf_go 1 (show ((nI n) ≤ (nI j) → Go d true 22 21 [.ref 78, .int (nI j)] [] h Q) ∧ (¬ ((nI n) ≤ (nI j)) → Go d true 22 12 [.ref 78, .int (nI j)] [] h Q) from ⟨fun c2 => ?_, fun c2 => ?_⟩)
    · skip
      have c2 : n ≤ j := (nI_leI (a := n) (b := j) (by omega) (by omega)).mp c2
      refine exf_go 2 (show Q (.int (-1)) h from ?_)
      rw [if_neg (by omega)] at k; exact k
    · skip
      have c2 : ¬ n ≤ j := fun q => c2 ((nI_leI (a := n) (b := j) (by omega) (by omega)).mpr q)
      refine exf_go 4 (show vp_in (nI j) 8 ∧ (Go d true 22 18 [.ref 78, .int (nI j)] [.int (rI h 84 ((nI j).toNatClampNeg))] h Q) from ⟨(vp_in_nI (by omega) (by omega)), ?_⟩)
      rw [show (rI h 84 ((nI j).toNatClampNeg) : Int32) = nI (P j) from by rw [nI_clamp (by omega)]; exact hr _ (by omega)]
      refine exf_go 2 (show Q (.int (nI (P j))) h from ?_)
      rw [if_pos (by omega)] at k; exact k
theorem lgP_b {g : ShG} (hg : ShW g) {pl : Nat} {v F : Nat → Nat} {n : Nat} (hv : ∀ i, i < n → v i < tot g) : ∀ r dn a k, lgP g pl v F n r dn a k < tot g
  | 0, _, _, _ => (tot_b hg).1
  | r + 1, dn, a, k => by
    rw [lgP]
    rcases hq : (lgV g pl v F n dn a).1 with _ | i
    · exact (tot_b hg).1
    · have hi : i < n := by rw [lgV_nr] at hq; exact nrF_b n i hq
      show (if k = 0 then v i else lgP g pl v F n r (dn ||| 2 ^ i) (v i) (k - 1)) < tot g
      by_cases c : k = 0
      · rw [if_pos c]; exact hv i hi
      · rw [if_neg c]; exact lgP_b hg hv r _ _ _
theorem c_best {d : Nat} {h : Hp} {g : ShG} {l : LkG} {tr : Nat → TrG} {x y : Int32} {Q : Po} (wf : WF h) (cs : CS 31 g h) (cl : CL 39 g l h) (ca : CTA tr h) (k : ∀ h1, Fq scC h h1 → Q (.long (fBest g l tr x y)) h1) : wpC (d + 6) true 138 [.ref 10, .int x, .int y] h Q := by
  have hN := tot_b cs.1
  have he := evr_b cs.1
  have h8 := cs.1.2.2.2.1
  have h4 := cs.1.2.2.2.2.2.1
  refine go_in rfl ?_
  refine exf_go 4 (show wpC (d + 5) true 179 [.ref 10, .int x, .int y] h (fun r h' => Go (d + 5) true 138 6 [.ref 10, .int x, .int y, mk_] [r] h' Q) from ?_)
  refine c_takeRow wf cs cl ca (fun z hz0 hz => ?_) (fun t so n vs w h1 et hq hwy hn1 hn8 haw htk q1 ln1 => ?_)
  · skip
    show Go (d + 5) true 138 6 [.ref 10, .int x, .int y, mk_] [.int z] h Q
    refine exf_go 3 (show (z = 0 → Go (d + 5) true 138 14 [.ref 10, .int x, .int y, .int z] [] h Q) ∧ (¬ (z = 0) → Go (d + 5) true 138 11 [.ref 10, .int x, .int y, .int z] [] h Q) from ⟨fun c1 => ?_, fun c1 => ?_⟩)
    · skip
      exact absurd c1 hz0
    · skip
      refine exf_go 3 (show Q (.long z.toInt64) h from ?_)
      rw [fBest, if_neg (by rw [hz]; exact hz0), hz] at k; exact k _ Fq.rfl'
  · skip
    have cs1 := cs_fq cs q1; have cl1 := cl_fq cl q1
    show Go (d + 5) true 138 6 [.ref 10, .int x, .int y, mk_] [.int 0] h1 Q
    refine exf_go 3 (show ((0 : Int32) = 0 → Go (d + 5) true 138 14 [.ref 10, .int x, .int y, .int 0] [] h1 Q) ∧ (¬ ((0 : Int32) = 0) → Go (d + 5) true 138 11 [.ref 10, .int x, .int y, .int 0] [] h1 Q) from ⟨fun c2 => ?_, fun c2 => ?_⟩)
    · skip
      refine exf_go 7 (show wpC (d + 5) true 19 [.ref 78, .ref 31, .ref 39] h1 (fun _ h' => Go (d + 5) true 138 29 [.ref 10, .int x, .int y, .int 0] [] h' Q) from ?_)
      refine c_weigh (v := vN g vs) cs1 cl1 hn8 ln1 (fun i hi => (vN_at cs.1 haw hi).2) hn1 (fun h2 q2 lg2 => ?_)
      show Go (d + 5) true 138 29 [.ref 10, .int x, .int y, .int 0] [] h2 Q
      refine exf_go 3 (show wpC (d + 5) true 21 [.ref 78] h2 (fun _ h' => Go (d + 5) true 138 36 [.ref 10, .int x, .int y, .int 0] [] h' Q) from ?_)
      refine c_solve lg2 (fun h3 q3 hl hr hs => ?_)
      show Go (d + 5) true 138 36 [.ref 10, .int x, .int y, .int 0] [] h3 Q
      refine exf_go 2 (show (¬ y = 0 → Go (d + 5) true 138 50 [.ref 10, .int x, .int y, .int 0] [] h3 Q) ∧ (¬ (¬ y = 0) → Go (d + 5) true 138 40 [.ref 10, .int x, .int y, .int 0] [] h3 Q) from ⟨fun c3 => ?_, fun c3 => ?_⟩)
      · skip
        obtain ⟨j, hjw, hj10, hj8⟩ := wh_s (by assumption) hwy
        refine exf_go 5 (show Go (d + 5) true 138 58 [.ref 10, .int x, .int y, .int 0] [.int (y - 10), .ref 78] h3 Q from ?_)
        rw [show (y - 10 : Int32) = nI j from hj10]
        refine exf_go 1 (show wpC (d + 5) true 22 [.ref 78, .int (nI j)] h3 (fun r h' => Go (d + 5) true 138 61 [.ref 10, .int x, .int y, .int 0] [r] h' Q) from ?_)
        refine c_inRow (j := j) (P := lgP g (sP g) (vN g vs) (fWs g (vN g vs) n) n n 0 (lA l)) hs hn8 hr hj8 ?_
        show Go (d + 5) true 138 61 [.ref 10, .int x, .int y, .int 0] [.int (oI (if j < n then some (lgP g (sP g) (vN g vs) (fWs g (vN g vs) n) n n 0 (lA l) j) else none))] h3 Q
        refine exf_go 2 (show Q (.long ((oI (if j < n then some (lgP g (sP g) (vN g vs) (fWs g (vN g vs) n) n n 0 (lA l) j) else none)).toInt64)) h3 from ?_)
        rw [fBest, if_pos htk] at k
        subst hjw
        simp only [rowO, et, hq, hwy, cond_true, cond_false, rowA] at k
        by_cases hjn : j < n
        · rw [if_pos hjn] at k ⊢; rw [show (oI (some (lgP g (sP g) (vN g vs) (fWs g (vN g vs) n) n n 0 (lA l) j))).toInt64 = lN _ from nI_l (by have := lgP_b (F := (fWs g (vN g vs) n)) (n := n) (pl := (sP g)) cs.1 (fun i hi => (vN_at cs.1 haw hi).2) n 0 (lA l) j; have := tot_b cs.1; omega)]; exact k _ (q1.tr (q2.tr q3))
        · rw [if_neg hjn] at k ⊢; exact k _ (q1.tr (q2.tr q3))
      · skip
        have hy0 : y = 0 := by first | exact c3 | exact Classical.not_not.mp c3
        refine exf_go 3 (show Go (d + 5) true 138 47 [.ref 10, .int x, .int y, .int 0] [.long (rJ h3 78 7)] h3 Q from ?_)
        rw [show (rJ h3 78 7 : Int64) = lN ((lgV g (sP g) (vN g vs) (fWs g (vN g vs) n) n 0 (lA l)).2) from hl]
        refine exf_go 2 (show Q (.long (lN ((lgV g (sP g) (vN g vs) (fWs g (vN g vs) n) n 0 (lA l)).2))) h3 from ?_)
        rw [fBest, if_pos htk] at k
        subst hy0
        have := wh_z hwy
        subst this
        simp only [rowO, et, hq, hwy, cond_true, cond_false, rowA] at k
        exact k _ (q1.tr (q2.tr q3))
    · skip
      exact absurd (by decide) c2
theorem c_shortest {d : Nat} {h : Hp} {g : ShG} {l : LkG} {tr : Nat → TrG} {x y : Int32} {Q : Po} (wf : WF h) (cs : CS 31 g h) (cl : CL 39 g l h) (ca : CTA tr h) (k : ∀ h1, Fq scC h h1 → Q (.int (fShort g l tr x y)) h1) : wpC (d + 6) true 139 [.ref 10, .int x, .int y] h Q := by
  have hN := tot_b cs.1
  have he := evr_b cs.1
  have h8 := cs.1.2.2.2.1
  have h4 := cs.1.2.2.2.2.2.1
  refine go_in rfl ?_
  refine exf_go 4 (show wpC (d + 5) true 179 [.ref 10, .int x, .int y] h (fun r h' => Go (d + 5) true 139 6 [.ref 10, .int x, .int y, mk_] [r] h' Q) from ?_)
  refine c_takeRow wf cs cl ca (fun z hz0 hz => ?_) (fun t so n vs w h1 et hq hwy hn1 hn8 haw htk q1 ln1 => ?_)
  · skip
    show Go (d + 5) true 139 6 [.ref 10, .int x, .int y, mk_] [.int z] h Q
    refine exf_go 3 (show (z = 0 → Go (d + 5) true 139 13 [.ref 10, .int x, .int y, .int z] [] h Q) ∧ (¬ (z = 0) → Go (d + 5) true 139 11 [.ref 10, .int x, .int y, .int z] [] h Q) from ⟨fun c1 => ?_, fun c1 => ?_⟩)
    · skip
      exact absurd c1 hz0
    · skip
      refine exf_go 2 (show Q (.int z) h from ?_)
      rw [fShort, if_neg (by rw [hz]; exact hz0), hz] at k; exact k _ Fq.rfl'
  · skip
    have cs1 := cs_fq cs q1; have cl1 := cl_fq cl q1
    show Go (d + 5) true 139 6 [.ref 10, .int x, .int y, mk_] [.int 0] h1 Q
    refine exf_go 3 (show ((0 : Int32) = 0 → Go (d + 5) true 139 13 [.ref 10, .int x, .int y, .int 0] [] h1 Q) ∧ (¬ ((0 : Int32) = 0) → Go (d + 5) true 139 11 [.ref 10, .int x, .int y, .int 0] [] h1 Q) from ⟨fun c2 => ?_, fun c2 => ?_⟩)
    · skip
      refine exf_go 7 (show wpC (d + 5) true 20 [.ref 78, .ref 31, .ref 39] h1 (fun _ h' => Go (d + 5) true 139 28 [.ref 10, .int x, .int y, .int 0] [] h' Q) from ?_)
      refine c_measure (v := vN g vs) cs1 cl1 hn8 ln1 (fun i hi => (vN_at cs.1 haw hi).2) hn1 (fun h2 q2 lg2 => ?_)
      show Go (d + 5) true 139 28 [.ref 10, .int x, .int y, .int 0] [] h2 Q
      refine exf_go 3 (show wpC (d + 5) true 21 [.ref 78] h2 (fun _ h' => Go (d + 5) true 139 35 [.ref 10, .int x, .int y, .int 0] [] h' Q) from ?_)
      refine c_solve lg2 (fun h3 q3 hl hr hs => ?_)
      show Go (d + 5) true 139 35 [.ref 10, .int x, .int y, .int 0] [] h3 Q
      refine exf_go 2 (show (¬ y = 0 → Go (d + 5) true 139 50 [.ref 10, .int x, .int y, .int 0] [] h3 Q) ∧ (¬ (¬ y = 0) → Go (d + 5) true 139 39 [.ref 10, .int x, .int y, .int 0] [] h3 Q) from ⟨fun c3 => ?_, fun c3 => ?_⟩)
      · skip
        obtain ⟨j, hjw, hj10, hj8⟩ := wh_s (by assumption) hwy
        refine exf_go 5 (show Go (d + 5) true 139 58 [.ref 10, .int x, .int y, .int 0] [.int (y - 10), .ref 78] h3 Q from ?_)
        rw [show (y - 10 : Int32) = nI j from hj10]
        refine exf_go 1 (show wpC (d + 5) true 22 [.ref 78, .int (nI j)] h3 (fun r h' => Go (d + 5) true 139 61 [.ref 10, .int x, .int y, .int 0] [r] h' Q) from ?_)
        refine c_inRow (j := j) (P := lgP g 0 (vN g vs) (fun _ => 1) n n 0 (lA l)) hs hn8 hr hj8 ?_
        show Go (d + 5) true 139 61 [.ref 10, .int x, .int y, .int 0] [.int (oI (if j < n then some (lgP g 0 (vN g vs) (fun _ => 1) n n 0 (lA l) j) else none))] h3 Q
        refine exf_go 1 (show Q (.int (oI (if j < n then some (lgP g 0 (vN g vs) (fun _ => 1) n n 0 (lA l) j) else none))) h3 from ?_)
        rw [fShort, if_pos htk] at k
        subst hjw
        simp only [rowO, et, hq, hwy, cond_true, cond_false, rowA] at k
        exact k _ (q1.tr (q2.tr q3))
      · skip
        have hy0 : y = 0 := by first | exact c3 | exact Classical.not_not.mp c3
        refine exf_go 3 (show Go (d + 5) true 139 46 [.ref 10, .int x, .int y, .int 0] [.long (rJ h3 78 7)] h3 Q from ?_)
        rw [show (rJ h3 78 7 : Int64) = lN ((lgV g 0 (vN g vs) (fun _ => 1) n 0 (lA l)).2) from hl]
        refine exf_go 1 (show Go (d + 5) true 139 47 [.ref 10, .int x, .int y, .int 0] [.int ((lN ((lgV g 0 (vN g vs) (fun _ => 1) n 0 (lA l)).2)).toInt32)] h3 Q from ?_)
        rw [show ((lN ((lgV g 0 (vN g vs) (fun _ => 1) n 0 (lA l)).2)).toInt32 : Int32) = nI ((lgV g 0 (vN g vs) (fun _ => 1) n 0 (lA l)).2) from lN_i _]
        refine exf_go 2 (show Q (.int (nI ((lgV g 0 (vN g vs) (fun _ => 1) n 0 (lA l)).2))) h3 from ?_)
        rw [fShort, if_pos htk] at k
        subst hy0
        have := wh_z hwy
        subst this
        simp only [rowO, et, hq, hwy, cond_true, cond_false, rowA] at k
        exact k _ (q1.tr (q2.tr q3))
    · skip
      exact absurd (by decide) c2
