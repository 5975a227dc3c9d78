/-! More of the model's asking calls. -/
theorem ord_cnt {E : Nat → Bool} {rk : Nat → Nat} {N : Nat} {o : Nat → Nat} (ho : Ordr E rk N o) (q : Nat → Bool) : cntN (fun k => q (o k)) (cntN E N) = cntN (fun n => E n && q n) N := by
  rw [cnt_sum, cnt_sum (fun n => E n && q n)]
  refine (ord_sum ho (fun n => if q n = true then 1 else 0)).trans (sumN_cg N (fun n _ => ?_))
  cases E n <;> simp
theorem ord_key {E : Nat → Bool} {g : ShG} {kn : Nat} {o : Nat → Nat} (hg : ShW g) (ho : Ordr E (rkN g kn) (tot g) o) : Ordr E (key g kn) (tot g) o := fun n hn hE => by
  rw [← pos_cg (rk := rkN g kn) (fun m n _ _ => key_iff hg kn m n) hn]
  exact ho n hn hE
/-- the number at the place k -/
def ordV (E : Nat → Bool) (rk : Nat → Nat) (N k : Nat) : Nat := sumN (fun n => if E n = true ∧ pos E rk N n = k then n else 0) N
theorem ordV_ok (E : Nat → Bool) (rk : Nat → Nat) (N : Nat) : Ordr E rk N (ordV E rk N) := fun n hn hE => by
  unfold ordV
  rw [sumN_cg N (f2 := fun m => if m = n then n else 0) (fun m hm => by
    by_cases e : m = n
    · rw [if_pos e, if_pos ⟨by rw [e]; exact hE, by rw [e]⟩, e]
    · rw [if_neg e, if_neg (fun q => e (pos_inj2 hm hn q.1 hE q.2))])]
  exact sumN_one n N hn
def ordL (g : ShG) (l : LkG) (k : Nat) : Nat := ordV (lft g l) (key g (evr g)) (tot g) k
theorem mo_L {g : ShG} {l : LkG} {h : Hp} (hg : ShW g) (mo : MO (lft g l) g (evr g) h) {k : Nat} (hk : k < cntN (lft g l) (tot g)) : ordOf h k = ordL g l k := ord_eq (ord_key hg (mo_ord hg mo)) (ordV_ok _ _ _) hk
def fOrder (g : ShG) (l : LkG) (x : Int32) : Int32 := if x < 0 then -3 else if x.toNatClampNeg < cntL g l then nI (ordL g l x.toNatClampNeg) else -1
theorem m_order {d : Nat} {h : Hp} {g : ShG} {l : LkG} {x : Int32} {Q : Po} (ms : MS g l h) (k : ∀ h1, Fq scM h h1 → Q (.int (fOrder g l x)) h1) : wpC (d + 6) true 240 [.ref 130, .int x] h Q := by
  have hN := tot_b ms.1.1
  have h4 := ms.1.1.1
  have h8 := ms.1.1.2.2.2.1
  have he := evr_b ms.1.1
  have hev : evr g = 2 ^ sC g - 1 := rfl
  refine go_in rfl ?_
  refine exf_go 5 (show (0 ≤ x → Go (d + 5) true 240 12 [.ref 130, .int x] [] (uI h 130 0 0) Q) ∧ (¬ (0 ≤ x) → Go (d + 5) true 240 9 [.ref 130, .int x] [] (uI h 130 0 0) Q) from ⟨fun c1 => ?_, fun c1 => ?_⟩)
  · skip
    obtain ⟨j, e1, e2⟩ := nI_of (Int32.not_lt.mpr c1)
    subst e2
    have e3 := nI_pos e1
    refine exf_go 2 (show wpC (d + 5) true 228 [.ref 130] (uI h 130 0 0) (fun _ h' => Go (d + 5) true 240 16 [.ref 130, .int (nI j)] [] h' Q) from ?_)
    refine m_laysLeft (ms_fq ms (Fq.uI' Fq.rfl' _ _ _ rfl)) (fun h1 p1 mw1 mo1 => ?_)
    have q1 := Fq.tr (Fq.uI' Fq.rfl' _ _ _ rfl) p1
    have ms1 := ms_fq ms q1
    have hcc := cntN_le (lft g l) (tot g)
    show Go (d + 5) true 240 16 [.ref 130, .int (nI j)] [] h1 Q
    refine exf_go 3 (show Go (d + 5) true 240 21 [.ref 130, .int (nI j)] [.int (rI h1 130 22), .int (nI j)] h1 Q from ?_)
    rw [show (rI h1 130 22 : Int32) = nI (cntN (lft g l) (tot g)) from mo1.1]
    refine exf_go 1 (show ((nI (cntN (lft g l) (tot g))) ≤ (nI j) → Go (d + 5) true 240 33 [.ref 130, .int (nI j)] [] h1 Q) ∧ (¬ ((nI (cntN (lft g l) (tot g))) ≤ (nI j)) → Go (d + 5) true 240 24 [.ref 130, .int (nI j)] [] h1 Q) from ⟨fun c2 => ?_, fun c2 => ?_⟩)
    · skip
      have c2 : (cntN (lft g l) (tot g)) ≤ j := (nI_leI (a := (cntN (lft g l) (tot g))) (b := j) (by omega) (by omega)).mp c2
      refine exf_go 2 (show Q (.int (-1)) h1 from ?_)
      rw [fOrder, if_neg e3, nI_clamp e1, if_neg (by unfold cntL; omega)] at k
      exact k _ q1
    · skip
      have c2 : ¬ (cntN (lft g l) (tot g)) ≤ j := fun q => c2 ((nI_leI (a := (cntN (lft g l) (tot g))) (b := j) (by omega) (by omega)).mpr q)
      refine exf_go 4 (show vp_in (nI j) 10000 ∧ (Go (d + 5) true 240 30 [.ref 130, .int (nI j)] [.int (rI h1 140 ((nI j).toNatClampNeg))] h1 Q) from ⟨(vp_in_nI (by omega) (by omega)), ?_⟩)
      rw [show (rI h1 140 ((nI j).toNatClampNeg) : Int32) = nI (ordOf h1 j) from mo_at ms.1.1 mo1 (k := j) (by omega)]
      refine exf_go 2 (show Q (.int (nI (ordOf h1 j))) h1 from ?_)
      rw [fOrder, if_neg e3, nI_clamp e1, if_pos (by unfold cntL; omega), ← mo_L ms.1.1 mo1 (by omega)] at k
      exact k _ q1
  · skip
    refine exf_go 2 (show Q (.int (-3)) (uI h 130 0 0) from ?_)
    rw [fOrder, if_pos (Int32.not_le.mp c1)] at k
    exact k _ (Fq.uI' Fq.rfl' _ _ _ rfl)
theorem m_near {d : Nat} {h : Hp} {g : ShG} {l : LkG} {x : Int32} {Q : Po} (ms : MS g l h) (k : ∀ h1, Fq scM h h1 → Q (.int (fNear g l x)) h1) : wpC (d + 6) true 291 [.ref 130, .int x] h Q := by
  have hN := tot_b ms.1.1
  have h4 := ms.1.1.1
  have h8 := ms.1.1.2.2.2.1
  have he := evr_b ms.1.1
  have hev : evr g = 2 ^ sC g - 1 := rfl
  have hA := ms.1.2.1
  refine go_in rfl ?_
  refine exf_go 5 (show (0 ≤ x → Go (d + 5) true 291 12 [.ref 130, .int x, mk_, mk_] [] (uI h 130 0 0) Q) ∧ (¬ (0 ≤ x) → Go (d + 5) true 291 9 [.ref 130, .int x, mk_, mk_] [] (uI h 130 0 0) Q) from ⟨fun c1 => ?_, fun c1 => ?_⟩)
  · skip
    obtain ⟨j, e1, e2⟩ := nI_of (Int32.not_lt.mpr c1)
    subst e2
    have e3 := nI_pos e1
    refine exf_go 2 (show wpC (d + 5) true 228 [.ref 130] (uI h 130 0 0) (fun _ h' => Go (d + 5) true 291 16 [.ref 130, .int (nI j), mk_, mk_] [] h' Q) from ?_)
    refine m_laysLeft (ms_fq ms (Fq.uI' Fq.rfl' _ _ _ rfl)) (fun h1 p1 mw1 mo1 => ?_)
    have q1 := Fq.tr (Fq.uI' Fq.rfl' _ _ _ rfl) p1
    have ms1 := ms_fq ms q1
    have hcc := cntN_le (lft g l) (tot g)
    show Go (d + 5) true 291 16 [.ref 130, .int (nI j), mk_, mk_] [] h1 Q
    refine exf_go 4 (show Go (d + 5) true 291 20 [.ref 130, .int (nI j), .int 0, .int 0] [] h1 Q from ?_)
    have L20 : ∀ (k20 : Nat) (i s : Nat), (cntN (lft g l) (tot g) - i) < k20 → (i ≤ cntN (lft g l) (tot g)) → (s = cntN (fun i => decide (trn g (lA l) (ordOf h1 i) ≤ j)) i) → Go (d + 5) true 291 20 [.ref 130, .int (nI j), .int (nI s), .int (nI i)] [] h1 Q := by
      intro k20
      induction k20 with
      | zero => intro i s hk; exact absurd hk (Nat.not_lt_zero _)
      | succ k20 ih20 =>
        intro i s hk hi hs
        refine exf_go 3 (show Go (d + 5) true 291 25 [.ref 130, .int (nI j), .int (nI s), .int (nI i)] [.int (rI h1 130 22), .int (nI i)] h1 Q from ?_)
        rw [show (rI h1 130 22 : Int32) = nI (cntN (lft g l) (tot g)) from mo1.1]
        refine exf_go 1 (show ((nI (cntN (lft g l) (tot g))) ≤ (nI i) → Go (d + 5) true 291 63 [.ref 130, .int (nI j), .int (nI s), .int (nI i)] [] h1 Q) ∧ (¬ ((nI (cntN (lft g l) (tot g))) ≤ (nI i)) → Go (d + 5) true 291 28 [.ref 130, .int (nI j), .int (nI s), .int (nI i)] [] h1 Q) from ⟨fun c2 => ?_, fun c2 => ?_⟩)
        · skip
          have c2 : (cntN (lft g l) (tot g)) ≤ i := (nI_leI (a := (cntN (lft g l) (tot g))) (b := i) (by omega) (by omega)).mp c2
          refine exf_go 2 (show Q (.int (nI s)) h1 from ?_)
          rw [fNear, if_neg e3, nI_clamp e1, ← ord_cnt (mo_ord ms.1.1 mo1) (fun n => decide (trn g (lA l) n ≤ j))] at k
          rw [hs, show i = cntN (lft g l) (tot g) from by omega]
          exact k _ q1
        · skip
          have c2 : ¬ (cntN (lft g l) (tot g)) ≤ i := fun q => c2 ((nI_leI (a := (cntN (lft g l) (tot g))) (b := i) (by omega) (by omega)).mpr q)
          refine exf_go 6 (show vp_in 50 41523 ∧ (Go (d + 5) true 291 37 [.ref 130, .int (nI j), .int (nI s), .int (nI i)] [.int (rI h1 131 50), .ref 130, .int (nI s)] h1 Q) from ⟨(vp_in_nI (n := 50) (by decide) (by decide)), ?_⟩)
          rw [show (rI h1 131 50 : Int32) = nI (lA l) from ms_A ms1]
          refine exf_go 4 (show vp_in (nI i) 10000 ∧ (Go (d + 5) true 291 43 [.ref 130, .int (nI j), .int (nI s), .int (nI i)] [.int (rI h1 140 ((nI i).toNatClampNeg)), .int (nI (lA l)), .ref 130, .int (nI s)] h1 Q) from ⟨(vp_in_nI (by omega) (by omega)), ?_⟩)
          rw [show (rI h1 140 ((nI i).toNatClampNeg) : Int32) = nI (ordOf h1 i) from mo_at ms.1.1 mo1 (k := i) (by omega)]
          refine exf_go 1 (show wpC (d + 5) true 251 [.ref 130, .int (nI (lA l)), .int (nI (ordOf h1 i))] h1 (fun r h' => Go (d + 5) true 291 46 [.ref 130, .int (nI j), .int (nI s), .int (nI i)] [r, .int (nI s)] h' Q) from ?_)
          have hoi := (ord_in (mo_ord ms.1.1 mo1) (k := i) (by omega)).1
          refine m_turns ms1 (by omega) (by omega) ?_
          have := trn_b ms.1.1 (lA l) (ordOf h1 i)
          show Go (d + 5) true 291 46 [.ref 130, .int (nI j), .int (nI s), .int (nI i)] [.int (nI (trn g (lA l) (ordOf h1 i))), .int (nI s)] h1 Q
          refine exf_go 2 (show ((nI j) < (nI (trn g (lA l) (ordOf h1 i))) → Go (d + 5) true 291 54 [.ref 130, .int (nI j), .int (nI s), .int (nI i)] [.int (nI s)] h1 Q) ∧ (¬ ((nI j) < (nI (trn g (lA l) (ordOf h1 i)))) → Go (d + 5) true 291 50 [.ref 130, .int (nI j), .int (nI s), .int (nI i)] [.int (nI s)] h1 Q) from ⟨fun c3 => ?_, fun c3 => ?_⟩)
          · skip
            have c3 : j < (trn g (lA l) (ordOf h1 i)) := (nI_ltI (a := j) (b := (trn g (lA l) (ordOf h1 i))) (by omega) (by omega)).mp c3
            refine exf_go 2 (show Go (d + 5) true 291 56 [.ref 130, .int (nI j), .int (nI s), .int (nI i)] [.int ((nI s) + 0)] h1 Q from ?_)
            rw [show ((nI s) + 0 : Int32) = nI (s + 0) from nI_add s 0]
            refine exf_go 2 (show Go (d + 5) true 291 60 [.ref 130, .int (nI j), .int (nI (s + 0)), .int ((nI i) + 1)] [] h1 Q from ?_)
            rw [show ((nI i) + 1 : Int32) = nI (i + 1) from nI_add i 1]
            refine exf_go 1 (show Go (d + 5) true 291 20 [.ref 130, .int (nI j), .int (nI (s + 0)), .int (nI (i + 1))] [] h1 Q from ?_)
            exact ih20 (i + 1) (s + 0) (by omega) (by omega) (by exact (Nat.add_zero s).trans (cn_n hs (decide_eq_false (by omega))))
          · skip
            have c3 : ¬ j < (trn g (lA l) (ordOf h1 i)) := fun q => c3 ((nI_ltI (a := j) (b := (trn g (lA l) (ordOf h1 i))) (by omega) (by omega)).mpr q)
            refine exf_go 3 (show Go (d + 5) true 291 56 [.ref 130, .int (nI j), .int (nI s), .int (nI i)] [.int ((nI s) + 1)] h1 Q from ?_)
            rw [show ((nI s) + 1 : Int32) = nI (s + 1) from nI_add s 1]
            refine exf_go 2 (show Go (d + 5) true 291 60 [.ref 130, .int (nI j), .int (nI (s + 1)), .int ((nI i) + 1)] [] h1 Q from ?_)
            rw [show ((nI i) + 1 : Int32) = nI (i + 1) from nI_add i 1]
            refine exf_go 1 (show Go (d + 5) true 291 20 [.ref 130, .int (nI j), .int (nI (s + 1)), .int (nI (i + 1))] [] h1 Q from ?_)
            exact ih20 (i + 1) (s + 1) (by omega) (by omega) (by exact cn_y hs (decide_eq_true (by omega)))
    exact L20 (cntN (lft g l) (tot g) + 1) 0 0 (by omega) (by omega) rfl
  · skip
    refine exf_go 2 (show Q (.int (-3)) (uI h 130 0 0) from ?_)
    rw [fNear, if_pos (Int32.not_le.mp c1)] at k
    exact k _ (Fq.uI' Fq.rfl' _ _ _ rfl)
theorem m_likely {d : Nat} {h : Hp} {g : ShG} {l : LkG} {x : Int32} {Q : Po} (ms : MS g l h) (k : ∀ h1, Fq scM h h1 → Q (.long (fLikely g l x)) h1) : wpC (d + 5) true 237 [.ref 130, .int x] h Q := by
  have hN := tot_b ms.1.1
  have h4 := ms.1.1.1
  have h8 := ms.1.1.2.2.2.1
  have he := evr_b ms.1.1
  have hev : evr g = 2 ^ sC g - 1 := rfl
  have hsb := fun n => sH_b ms.1.1 n
  refine go_in rfl ?_
  refine exf_go 7 (show wpC (d + 4) true 218 [.ref 130, .long x.toInt64] (uI h 130 0 0) (fun r h' => Go (d + 4) true 237 11 [.ref 130, .int x] [r] h' Q) from ?_)
  refine m_isNumber (x := x) (ms_fq ms (Fq.uI' Fq.rfl' _ _ _ rfl)) (fun j1 e1 q1 r1 => ?_) (fun e1 => ?_)
  · skip
    subst q1
    show Go (d + 4) true 237 11 [.ref 130, .int (nI j1)] [.int 1] (uI h 130 0 0) Q
    refine exf_go 1 (show (¬ (1 : Int32) = 0 → Go (d + 4) true 237 18 [.ref 130, .int (nI j1)] [] (uI h 130 0 0) Q) ∧ (¬ (¬ (1 : Int32) = 0) → Go (d + 4) true 237 14 [.ref 130, .int (nI j1)] [] (uI h 130 0 0) Q) from ⟨fun c2 => ?_, fun c2 => ?_⟩)
    · skip
      refine exf_go 3 (show wpC (d + 4) true 223 [.ref 130] (uI h 130 0 0) (fun r h' => Go (d + 4) true 237 23 [.ref 130, .int (nI j1)] [r, .ref 130] h' Q) from ?_)
      refine m_every (ms_fq ms (Fq.uI' Fq.rfl' _ _ _ rfl)) ?_
      show Go (d + 4) true 237 23 [.ref 130, .int (nI j1)] [.int (nI (evr g)), .ref 130] (uI h 130 0 0) Q
      refine exf_go 1 (show wpC (d + 4) true 225 [.ref 130, .int (nI (evr g))] (uI h 130 0 0) (fun _ h' => Go (d + 4) true 237 26 [.ref 130, .int (nI j1)] [] h' Q) from ?_)
      refine m_laysRanks (ms_fq ms (Fq.uI' Fq.rfl' _ _ _ rfl)) (by omega) (fun h1 p1 mw1 mr1 => ?_)
      have q1 := Fq.tr (Fq.uI' Fq.rfl' _ _ _ rfl) p1
      have ms1 := ms_fq ms q1
      show Go (d + 4) true 237 26 [.ref 130, .int (nI j1)] [] h1 Q
      refine exf_go 4 (show wpC (d + 4) true 226 [.ref 130, .int (nI j1), .int 1] h1 (fun r h' => Go (d + 4) true 237 32 [.ref 130, .int (nI j1)] [r] h' Q) from ?_)
      have := sH_b ms.1.1 j1
      refine m_isLeft1 ms1 mw1 (by omega) (fun b3 => ?_) (fun b3 => ?_)
      · skip
        rw [elg_lft ms.1.1 ms.1.2] at b3
        show Go (d + 4) true 237 32 [.ref 130, .int (nI j1)] [.int 1] h1 Q
        refine exf_go 1 (show ((1 : Int32) = 0 → Go (d + 4) true 237 53 [.ref 130, .int (nI j1)] [] h1 Q) ∧ (¬ ((1 : Int32) = 0) → Go (d + 4) true 237 35 [.ref 130, .int (nI j1)] [] h1 Q) from ⟨fun c4 => ?_, fun c4 => ?_⟩)
        · skip
          exact absurd c4 (by decide)
        · skip
          refine exf_go 7 (show Go (d + 4) true 237 48 [.ref 130, .int (nI j1)] [.int (3841 + (nI j1)), .ref 131, .ref 137] h1 Q from ?_)
          rw [show (3841 + (nI j1) : Int32) = nI (3841 + j1) from nI_add 3841 j1]
          refine exf_go 1 (show vp_in (nI (3841 + j1)) 41523 ∧ (Go (d + 4) true 237 49 [.ref 130, .int (nI j1)] [.int (rI h1 131 ((nI (3841 + j1)).toNatClampNeg)), .ref 137] h1 Q) from ⟨(vp_in_nI (by omega) (by omega)), ?_⟩)
          rw [show (rI h1 131 ((nI (3841 + j1)).toNatClampNeg) : Int32) = nI (sH g j1) from ms_H ms1 (n := j1) (by omega)]
          have := sH_b ms1.1.1 j1
          refine exf_go 1 (show vp_in (nI (sH g j1)) 256 ∧ (Go (d + 4) true 237 50 [.ref 130, .int (nI j1)] [.long (rJ h1 137 ((nI (sH g j1)).toNatClampNeg))] h1 Q) from ⟨(vp_in_nI (by omega) (by omega)), ?_⟩)
          rw [show (rJ h1 137 ((nI (sH g j1)).toNatClampNeg) : Int64) = lN (wtA g (sH g j1)) from mw_at ms1 mw1 (m := (sH g j1)) (hH ms.1.1 _)]
          refine exf_go 2 (show Q (.long (lN (wtA g (sH g j1)))) h1 from ?_)
          simp only [fLikely, e1, lwt, b3, if_true, Bool.false_eq_true, if_false] at k
          exact k _ q1
      · skip
        rw [elg_lft ms.1.1 ms.1.2] at b3
        show Go (d + 4) true 237 32 [.ref 130, .int (nI j1)] [.int 0] h1 Q
        refine exf_go 1 (show ((0 : Int32) = 0 → Go (d + 4) true 237 53 [.ref 130, .int (nI j1)] [] h1 Q) ∧ (¬ ((0 : Int32) = 0) → Go (d + 4) true 237 35 [.ref 130, .int (nI j1)] [] h1 Q) from ⟨fun c5 => ?_, fun c5 => ?_⟩)
        · skip
          refine exf_go 2 (show Q (.long 0) h1 from ?_)
          simp only [fLikely, e1, lwt, b3, if_true, Bool.false_eq_true, if_false] at k
          exact k _ q1
        · skip
          exact absurd (by decide) c5
    · skip
      exact absurd (by decide) c2
  · skip
    show Go (d + 4) true 237 11 [.ref 130, .int x] [.int 0] (uI h 130 0 0) Q
    refine exf_go 1 (show (¬ (0 : Int32) = 0 → Go (d + 4) true 237 18 [.ref 130, .int x] [] (uI h 130 0 0) Q) ∧ (¬ (¬ (0 : Int32) = 0) → Go (d + 4) true 237 14 [.ref 130, .int x] [] (uI h 130 0 0) Q) from ⟨fun c6 => ?_, fun c6 => ?_⟩)
    · skip
      exact absurd c6 (by decide)
    · skip
      refine exf_go 2 (show Q (.long (-3)) (uI h 130 0 0) from ?_)
      simp only [fLikely, *] at k
      exact k _ (Fq.uI' Fq.rfl' _ _ _ rfl)
theorem m_nearestOf {d : Nat} {h : Hp} {g : ShG} {l : LkG} {Q : Po} (ms : MS g l h) (mw : MW g (evr g) h) (k : Q (.int (fNearest g l)) h) : wpC (d + 4) true 264 [.ref 130] h Q := by
  have hN := tot_b ms.1.1
  have h4 := ms.1.1.1
  have h8 := ms.1.1.2.2.2.1
  have he := evr_b ms.1.1
  have hev : evr g = 2 ^ sC g - 1 := rfl
  have hA := ms.1.2.1
  refine go_in rfl ?_
  refine exf_go 6 (show Go (d + 3) true 264 6 [.ref 130, .int (-1), .int 0, .int 0, mk_] [] h Q from ?_)
  have L6 : ∀ (k6 : Nat) (z4 : Value) (n : Nat) (o : Option Nat) (m : Nat), (tot g - n) < k6 → (n ≤ tot g) → ((o, m) = nrF (lft g l) (fun n => trn g (lA l) n) n) → Go (d + 3) true 264 6 [.ref 130, .int (oI o), .int (nI m), .int (nI n), z4] [] h Q := by
    intro k6
    induction k6 with
    | zero => intro z4 n o m hk; exact absurd hk (Nat.not_lt_zero _)
    | succ k6 ih6 =>
      intro z4 n o m hk hn hs
      have hm : m ≤ 324 := by have := nrF_le (p := lft g l) (f := fun n => trn g (lA l) n) (fun k => trn_b ms.1.1 (lA l) k) n; rw [← hs] at this; exact this
      have hob : ∀ b, o = some b → b < n := by intro b e; exact nrF_b (p := lft g l) (f := fun n => trn g (lA l) n) n b (by rw [← hs]; exact e)
      rcases o with _ | b
      · skip
        show Go (d + 3) true 264 6 [.ref 130, .int (-1), .int (nI m), .int (nI n), z4] [] h Q
        refine exf_go 5 (show vp_in 4 41523 ∧ (Go (d + 3) true 264 13 [.ref 130, .int (-1), .int (nI m), .int (nI n), z4] [.int (rI h 131 4), .int (nI n)] h Q) from ⟨(vp_in_nI (n := 4) (by decide) (by decide)), ?_⟩)
        rw [show (rI h 131 4 : Int32) = nI (tot g) from ms_N ms]
        refine exf_go 1 (show ((nI (tot g)) ≤ (nI n) → Go (d + 3) true 264 67 [.ref 130, .int (-1), .int (nI m), .int (nI n), z4] [] h Q) ∧ (¬ ((nI (tot g)) ≤ (nI n)) → Go (d + 3) true 264 16 [.ref 130, .int (-1), .int (nI m), .int (nI n), z4] [] h Q) from ⟨fun c1 => ?_, fun c1 => ?_⟩)
        · skip
          have c1 : (tot g) ≤ n := (nI_leI (a := (tot g)) (b := n) (by omega) (by omega)).mp c1
          refine exf_go 2 (show Q (.int (-1)) h from ?_)
          have e : n = tot g := by omega
          subst e
          rw [fNearest, nrL, ← hs] at k; exact k
        · skip
          have c1 : ¬ (tot g) ≤ n := fun q => c1 ((nI_leI (a := (tot g)) (b := n) (by omega) (by omega)).mpr q)
          refine exf_go 4 (show wpC (d + 3) true 226 [.ref 130, .int (nI n), .int 1] h (fun r h' => Go (d + 3) true 264 22 [.ref 130, .int (-1), .int (nI m), .int (nI n), z4] [r] h' Q) from ?_)
          refine m_isLeft1 ms mw (by omega) (fun b2 => ?_) (fun b2 => ?_)
          · skip
            rw [elg_lft ms.1.1 ms.1.2] at b2
            show Go (d + 3) true 264 22 [.ref 130, .int (-1), .int (nI m), .int (nI n), z4] [.int 1] h Q
            refine exf_go 1 (show (¬ (1 : Int32) = 0 → Go (d + 3) true 264 28 [.ref 130, .int (-1), .int (nI m), .int (nI n), z4] [] h Q) ∧ (¬ (¬ (1 : Int32) = 0) → Go (d + 3) true 264 25 [.ref 130, .int (-1), .int (nI m), .int (nI n), z4] [] h Q) from ⟨fun c3 => ?_, fun c3 => ?_⟩)
            · skip
              refine exf_go 5 (show vp_in 50 41523 ∧ (Go (d + 3) true 264 36 [.ref 130, .int (-1), .int (nI m), .int (nI n), z4] [.int (rI h 131 50), .ref 130] h Q) from ⟨(vp_in_nI (n := 50) (by decide) (by decide)), ?_⟩)
              rw [show (rI h 131 50 : Int32) = nI (lA l) from ms_A ms]
              refine exf_go 2 (show wpC (d + 3) true 251 [.ref 130, .int (nI (lA l)), .int (nI n)] h (fun r h' => Go (d + 3) true 264 40 [.ref 130, .int (-1), .int (nI m), .int (nI n), z4] [r] h' Q) from ?_)
              refine m_turns ms (by omega) (by omega) ?_
              have := trn_b ms.1.1 (lA l) n
              show Go (d + 3) true 264 40 [.ref 130, .int (-1), .int (nI m), .int (nI n), z4] [.int (nI (trn g (lA l) n))] h Q
              refine exf_go 4 (show (((-1) : Int32) = (-1) → Go (d + 3) true 264 56 [.ref 130, .int (-1), .int (nI m), .int (nI n), .int (nI (trn g (lA l) n))] [] h Q) ∧ (¬ (((-1) : Int32) = (-1)) → Go (d + 3) true 264 47 [.ref 130, .int (-1), .int (nI m), .int (nI n), .int (nI (trn g (lA l) n))] [] h Q) from ⟨fun c4 => ?_, fun c4 => ?_⟩)
              · skip
                refine exf_go 5 (show Go (d + 3) true 264 64 [.ref 130, .int (nI n), .int (nI (trn g (lA l) n)), .int ((nI n) + 1), .int (nI (trn g (lA l) n))] [] h Q from ?_)
                rw [show ((nI n) + 1 : Int32) = nI (n + 1) from nI_add n 1]
                refine exf_go 1 (show Go (d + 3) true 264 6 [.ref 130, .int (nI n), .int (nI (trn g (lA l) n)), .int (nI (n + 1)), .int (nI (trn g (lA l) n))] [] h Q from ?_)
                exact ih6 (.int (nI (trn g (lA l) n))) (n + 1) (some n) (trn g (lA l) n) (by omega) (by omega) (by first | exact nr_no hs (by assumption) | exact nr_first hs (by first | assumption | rfl) | exact nr_less hs (by first | assumption | rfl) (by omega) | exact nr_more hs (by first | assumption | rfl) (by omega))
              · skip
                exact absurd (by decide) c4
            · skip
              exact absurd (by decide) c3
          · skip
            rw [elg_lft ms.1.1 ms.1.2] at b2
            show Go (d + 3) true 264 22 [.ref 130, .int (-1), .int (nI m), .int (nI n), z4] [.int 0] h Q
            refine exf_go 1 (show (¬ (0 : Int32) = 0 → Go (d + 3) true 264 28 [.ref 130, .int (-1), .int (nI m), .int (nI n), z4] [] h Q) ∧ (¬ (¬ (0 : Int32) = 0) → Go (d + 3) true 264 25 [.ref 130, .int (-1), .int (nI m), .int (nI n), z4] [] h Q) from ⟨fun c5 => ?_, fun c5 => ?_⟩)
            · skip
              exact absurd c5 (by decide)
            · skip
              refine exf_go 2 (show Go (d + 3) true 264 64 [.ref 130, .int (-1), .int (nI m), .int ((nI n) + 1), z4] [] h Q from ?_)
              rw [show ((nI n) + 1 : Int32) = nI (n + 1) from nI_add n 1]
              refine exf_go 1 (show Go (d + 3) true 264 6 [.ref 130, .int (-1), .int (nI m), .int (nI (n + 1)), z4] [] h Q from ?_)
              exact ih6 z4 (n + 1) none m (by omega) (by omega) (by first | exact nr_no hs (by assumption) | exact nr_first hs (by first | assumption | rfl) | exact nr_less hs (by first | assumption | rfl) (by omega) | exact nr_more hs (by first | assumption | rfl) (by omega))
      · skip
        have := hob b rfl
        show Go (d + 3) true 264 6 [.ref 130, .int (nI b), .int (nI m), .int (nI n), z4] [] h Q
        refine exf_go 5 (show vp_in 4 41523 ∧ (Go (d + 3) true 264 13 [.ref 130, .int (nI b), .int (nI m), .int (nI n), z4] [.int (rI h 131 4), .int (nI n)] h Q) from ⟨(vp_in_nI (n := 4) (by decide) (by decide)), ?_⟩)
        rw [show (rI h 131 4 : Int32) = nI (tot g) from ms_N ms]
        refine exf_go 1 (show ((nI (tot g)) ≤ (nI n) → Go (d + 3) true 264 67 [.ref 130, .int (nI b), .int (nI m), .int (nI n), z4] [] h Q) ∧ (¬ ((nI (tot g)) ≤ (nI n)) → Go (d + 3) true 264 16 [.ref 130, .int (nI b), .int (nI m), .int (nI n), z4] [] h Q) from ⟨fun c6 => ?_, fun c6 => ?_⟩)
        · skip
          have c6 : (tot g) ≤ n := (nI_leI (a := (tot g)) (b := n) (by omega) (by omega)).mp c6
          refine exf_go 2 (show Q (.int (nI b)) h from ?_)
          have e : n = tot g := by omega
          subst e
          rw [fNearest, nrL, ← hs] at k; exact k
        · skip
          have c6 : ¬ (tot g) ≤ n := fun q => c6 ((nI_leI (a := (tot g)) (b := n) (by omega) (by omega)).mpr q)
          refine exf_go 4 (show wpC (d + 3) true 226 [.ref 130, .int (nI n), .int 1] h (fun r h' => Go (d + 3) true 264 22 [.ref 130, .int (nI b), .int (nI m), .int (nI n), z4] [r] h' Q) from ?_)
          refine m_isLeft1 ms mw (by omega) (fun b7 => ?_) (fun b7 => ?_)
          · skip
            rw [elg_lft ms.1.1 ms.1.2] at b7
            show Go (d + 3) true 264 22 [.ref 130, .int (nI b), .int (nI m), .int (nI n), z4] [.int 1] h Q
            refine exf_go 1 (show (¬ (1 : Int32) = 0 → Go (d + 3) true 264 28 [.ref 130, .int (nI b), .int (nI m), .int (nI n), z4] [] h Q) ∧ (¬ (¬ (1 : Int32) = 0) → Go (d + 3) true 264 25 [.ref 130, .int (nI b), .int (nI m), .int (nI n), z4] [] h Q) from ⟨fun c8 => ?_, fun c8 => ?_⟩)
            · skip
              refine exf_go 5 (show vp_in 50 41523 ∧ (Go (d + 3) true 264 36 [.ref 130, .int (nI b), .int (nI m), .int (nI n), z4] [.int (rI h 131 50), .ref 130] h Q) from ⟨(vp_in_nI (n := 50) (by decide) (by decide)), ?_⟩)
              rw [show (rI h 131 50 : Int32) = nI (lA l) from ms_A ms]
              refine exf_go 2 (show wpC (d + 3) true 251 [.ref 130, .int (nI (lA l)), .int (nI n)] h (fun r h' => Go (d + 3) true 264 40 [.ref 130, .int (nI b), .int (nI m), .int (nI n), z4] [r] h' Q) from ?_)
              refine m_turns ms (by omega) (by omega) ?_
              have := trn_b ms.1.1 (lA l) n
              show Go (d + 3) true 264 40 [.ref 130, .int (nI b), .int (nI m), .int (nI n), z4] [.int (nI (trn g (lA l) n))] h Q
              refine exf_go 4 (show ((nI b) = (-1) → Go (d + 3) true 264 56 [.ref 130, .int (nI b), .int (nI m), .int (nI n), .int (nI (trn g (lA l) n))] [] h Q) ∧ (¬ ((nI b) = (-1)) → Go (d + 3) true 264 47 [.ref 130, .int (nI b), .int (nI m), .int (nI n), .int (nI (trn g (lA l) n))] [] h Q) from ⟨fun c9 => ?_, fun c9 => ?_⟩)
              · skip
                exact absurd c9 (ng_eq (by omega) (by decide))
              · skip
                refine exf_go 3 (show ((nI (trn g (lA l) n)) < (nI m) → Go (d + 3) true 264 56 [.ref 130, .int (nI b), .int (nI m), .int (nI n), .int (nI (trn g (lA l) n))] [] h Q) ∧ (¬ ((nI (trn g (lA l) n)) < (nI m)) → Go (d + 3) true 264 53 [.ref 130, .int (nI b), .int (nI m), .int (nI n), .int (nI (trn g (lA l) n))] [] h Q) from ⟨fun c10 => ?_, fun c10 => ?_⟩)
                · skip
                  have c10 : (trn g (lA l) n) < m := (nI_ltI (a := (trn g (lA l) n)) (b := m) (by omega) (by omega)).mp c10
                  refine exf_go 5 (show Go (d + 3) true 264 64 [.ref 130, .int (nI n), .int (nI (trn g (lA l) n)), .int ((nI n) + 1), .int (nI (trn g (lA l) n))] [] h Q from ?_)
                  rw [show ((nI n) + 1 : Int32) = nI (n + 1) from nI_add n 1]
                  refine exf_go 1 (show Go (d + 3) true 264 6 [.ref 130, .int (nI n), .int (nI (trn g (lA l) n)), .int (nI (n + 1)), .int (nI (trn g (lA l) n))] [] h Q from ?_)
                  exact ih6 (.int (nI (trn g (lA l) n))) (n + 1) (some n) (trn g (lA l) n) (by omega) (by omega) (by first | exact nr_no hs (by assumption) | exact nr_first hs (by first | assumption | rfl) | exact nr_less hs (by first | assumption | rfl) (by omega) | exact nr_more hs (by first | assumption | rfl) (by omega))
                · skip
                  have c10 : ¬ (trn g (lA l) n) < m := fun q => c10 ((nI_ltI (a := (trn g (lA l) n)) (b := m) (by omega) (by omega)).mpr q)
                  refine exf_go 2 (show Go (d + 3) true 264 64 [.ref 130, .int (nI b), .int (nI m), .int ((nI n) + 1), .int (nI (trn g (lA l) n))] [] h Q from ?_)
                  rw [show ((nI n) + 1 : Int32) = nI (n + 1) from nI_add n 1]
                  refine exf_go 1 (show Go (d + 3) true 264 6 [.ref 130, .int (nI b), .int (nI m), .int (nI (n + 1)), .int (nI (trn g (lA l) n))] [] h Q from ?_)
                  exact ih6 (.int (nI (trn g (lA l) n))) (n + 1) (some b) m (by omega) (by omega) (by first | exact nr_no hs (by assumption) | exact nr_first hs (by first | assumption | rfl) | exact nr_less hs (by first | assumption | rfl) (by omega) | exact nr_more hs (by first | assumption | rfl) (by omega))
            · skip
              exact absurd (by decide) c8
          · skip
            rw [elg_lft ms.1.1 ms.1.2] at b7
            show Go (d + 3) true 264 22 [.ref 130, .int (nI b), .int (nI m), .int (nI n), z4] [.int 0] h Q
            refine exf_go 1 (show (¬ (0 : Int32) = 0 → Go (d + 3) true 264 28 [.ref 130, .int (nI b), .int (nI m), .int (nI n), z4] [] h Q) ∧ (¬ (¬ (0 : Int32) = 0) → Go (d + 3) true 264 25 [.ref 130, .int (nI b), .int (nI m), .int (nI n), z4] [] h Q) from ⟨fun c11 => ?_, fun c11 => ?_⟩)
            · skip
              exact absurd c11 (by decide)
            · skip
              refine exf_go 2 (show Go (d + 3) true 264 64 [.ref 130, .int (nI b), .int (nI m), .int ((nI n) + 1), z4] [] h Q from ?_)
              rw [show ((nI n) + 1 : Int32) = nI (n + 1) from nI_add n 1]
              refine exf_go 1 (show Go (d + 3) true 264 6 [.ref 130, .int (nI b), .int (nI m), .int (nI (n + 1)), z4] [] h Q from ?_)
              exact ih6 z4 (n + 1) (some b) m (by omega) (by omega) (by first | exact nr_no hs (by assumption) | exact nr_first hs (by first | assumption | rfl) | exact nr_less hs (by first | assumption | rfl) (by omega) | exact nr_more hs (by first | assumption | rfl) (by omega))
  exact L6 (tot g + 1) mk_ 0 none 0 (by omega) (by omega) rfl
theorem m_nearest {d : Nat} {h : Hp} {g : ShG} {l : LkG} {Q : Po} (ms : MS g l h) (k : ∀ h1, Fq scM h h1 → Q (.int (fNearest g l)) h1) : wpC (d + 5) true 265 [.ref 130] h Q := by
  have hN := tot_b ms.1.1
  have h4 := ms.1.1.1
  have h8 := ms.1.1.2.2.2.1
  have he := evr_b ms.1.1
  have hev : evr g = 2 ^ sC g - 1 := rfl
  refine go_in rfl ?_
  refine exf_go 6 (show wpC (d + 4) true 223 [.ref 130] (uI h 130 0 0) (fun r h' => Go (d + 4) true 265 10 [.ref 130] [r, .ref 130] h' Q) from ?_)
  refine m_every (ms_fq ms (Fq.uI' Fq.rfl' _ _ _ rfl)) ?_
  show Go (d + 4) true 265 10 [.ref 130] [.int (nI (evr g)), .ref 130] (uI h 130 0 0) Q
  refine exf_go 1 (show wpC (d + 4) true 225 [.ref 130, .int (nI (evr g))] (uI h 130 0 0) (fun _ h' => Go (d + 4) true 265 13 [.ref 130] [] h' Q) from ?_)
  refine m_laysRanks (ms_fq ms (Fq.uI' Fq.rfl' _ _ _ rfl)) (by omega) (fun h1 p1 mw1 mr1 => ?_)
  have q1 := Fq.tr (Fq.uI' Fq.rfl' _ _ _ rfl) p1
  have ms1 := ms_fq ms q1
  show Go (d + 4) true 265 13 [.ref 130] [] h1 Q
  refine exf_go 2 (show wpC (d + 4) true 264 [.ref 130] h1 (fun r h' => Go (d + 4) true 265 17 [.ref 130] [r] h' Q) from ?_)
  refine m_nearestOf ms1 mw1 ?_
  show Go (d + 4) true 265 17 [.ref 130] [.int (fNearest g l)] h1 Q
  refine exf_go 1 (show Q (.int (fNearest g l)) h1 from ?_)
  exact k _ q1
theorem m_holds {d : Nat} {h : Hp} {g : ShG} {l : LkG} {x y : Int32} {Q : Po} (ms : MS g l h) (k : ∀ h1, Fq scM h h1 → Q (.int (fHolds g x y)) h1) : wpC (d + 3) true 233 [.ref 130, .int x, .int y] h Q := by
  have hN := tot_b ms.1.1
  have h4 := ms.1.1.1
  have h8 := ms.1.1.2.2.2.1
  have he := evr_b ms.1.1
  have hev : evr g = 2 ^ sC g - 1 := rfl
  refine go_in rfl ?_
  refine exf_go 10 (show vp_in 2 41523 ∧ (Go (d + 2) true 233 14 [.ref 130, .int x, .int y] [.int (rI h 131 2), .long 0, .long x.toInt64] (uI h 130 0 0) Q) from ⟨(vp_in_nI (n := 2) (by decide) (by decide)), ?_⟩)
  rw [show (rI h 131 2 : Int32) = nI (sC g) from ms_C ms]
  refine exf_go 2 (show Go (d + 2) true 233 16 [.ref 130, .int x, .int y] [.int ((nI (sC g)) - 1), .long 0, .long x.toInt64] (uI h 130 0 0) Q from ?_)
  rw [show ((nI (sC g)) - 1 : Int32) = pI (sC g) from pI_sub _]
  refine exf_go 2 (show wpC (d + 2) true 183 [.long x.toInt64, .long 0, .long ((pI (sC g)).toInt64)] (uI h 130 0 0) (fun r h' => Go (d + 2) true 233 20 [.ref 130, .int x, .int y] [r] h' Q) from ?_)
  refine m_within (fun u1 v1 => ?_) (fun u1 => ?_)
  · skip
    obtain ⟨j1, e1, e1q, e1r⟩ := wi_in (n := sC g) (by omega) u1 v1
    subst e1q
    show Go (d + 2) true 233 20 [.ref 130, .int (nI j1), .int y] [.int 1] (uI h 130 0 0) Q
    refine exf_go 1 (show (¬ (1 : Int32) = 0 → Go (d + 2) true 233 26 [.ref 130, .int (nI j1), .int y] [] (uI h 130 0 0) Q) ∧ (¬ (¬ (1 : Int32) = 0) → Go (d + 2) true 233 23 [.ref 130, .int (nI j1), .int y] [] (uI h 130 0 0) Q) from ⟨fun c2 => ?_, fun c2 => ?_⟩)
    · skip
      refine exf_go 4 (show wpC (d + 2) true 218 [.ref 130, .long y.toInt64] (uI h 130 0 0) (fun r h' => Go (d + 2) true 233 32 [.ref 130, .int (nI j1), .int y] [r] h' Q) from ?_)
      refine m_isNumber (x := y) (ms_fq ms (Fq.uI' Fq.rfl' _ _ _ rfl)) (fun j3 e3 q3 r3 => ?_) (fun e3 => ?_)
      · skip
        subst q3
        show Go (d + 2) true 233 32 [.ref 130, .int (nI j1), .int (nI j3)] [.int 1] (uI h 130 0 0) Q
        refine exf_go 1 (show (¬ (1 : Int32) = 0 → Go (d + 2) true 233 40 [.ref 130, .int (nI j1), .int (nI j3)] [] (uI h 130 0 0) Q) ∧ (¬ (¬ (1 : Int32) = 0) → Go (d + 2) true 233 35 [.ref 130, .int (nI j1), .int (nI j3)] [] (uI h 130 0 0) Q) from ⟨fun c4 => ?_, fun c4 => ?_⟩)
        · skip
          refine exf_go 5 (show Go (d + 2) true 233 49 [.ref 130, .int (nI j1), .int (nI j3)] [.int (3841 + (nI j3)), .ref 131] (uI h 130 0 0) Q from ?_)
          rw [show (3841 + (nI j3) : Int32) = nI (3841 + j3) from nI_add 3841 j3]
          refine exf_go 1 (show vp_in (nI (3841 + j3)) 41523 ∧ (Go (d + 2) true 233 50 [.ref 130, .int (nI j1), .int (nI j3)] [.int (rI h 131 ((nI (3841 + j3)).toNatClampNeg))] (uI h 130 0 0) Q) from ⟨(vp_in_nI (by omega) (by omega)), ?_⟩)
          rw [show (rI h 131 ((nI (3841 + j3)).toNatClampNeg) : Int32) = nI (sH g j3) from ms_H ms (n := j3) (by omega)]
          have := sH_b ms.1.1 j3
          refine exf_go 1 (show Go (d + 2) true 233 51 [.ref 130, .int (nI j1), .int (nI j3)] [.long ((nI (sH g j3)).toInt64)] (uI h 130 0 0) Q from ?_)
          rw [show ((nI (sH g j3)).toInt64 : Int64) = lN (sH g j3) from nI_l (n := (sH g j3)) (by omega)]
          refine exf_go 2 (show wpC (d + 2) true 196 [.long (lN (sH g j3)), .int (nI j1)] (uI h 130 0 0) (fun r h' => Go (d + 2) true 233 55 [.ref 130, .int (nI j1), .int (nI j3)] [r] h' Q) from ?_)
          refine m_isIn (s := (sH g j3)) (j := j1) (by omega) (by omega) (fun b5 => ?_) (fun b5 => ?_)
          · skip
            show Go (d + 2) true 233 55 [.ref 130, .int (nI j1), .int (nI j3)] [.int 1] (uI h 130 0 0) Q
            refine exf_go 1 (show ((1 : Int32) = 0 → Go (d + 2) true 233 62 [.ref 130, .int (nI j1), .int (nI j3)] [] (uI h 130 0 0) Q) ∧ (¬ ((1 : Int32) = 0) → Go (d + 2) true 233 58 [.ref 130, .int (nI j1), .int (nI j3)] [] (uI h 130 0 0) Q) from ⟨fun c6 => ?_, fun c6 => ?_⟩)
            · skip
              exact absurd c6 (by decide)
            · skip
              refine exf_go 3 (show Q (.int 1) (uI h 130 0 0) from ?_)
              simp only [fHolds, *] at k
              exact k _ (Fq.uI' Fq.rfl' _ _ _ rfl)
          · skip
            show Go (d + 2) true 233 55 [.ref 130, .int (nI j1), .int (nI j3)] [.int 0] (uI h 130 0 0) Q
            refine exf_go 1 (show ((0 : Int32) = 0 → Go (d + 2) true 233 62 [.ref 130, .int (nI j1), .int (nI j3)] [] (uI h 130 0 0) Q) ∧ (¬ ((0 : Int32) = 0) → Go (d + 2) true 233 58 [.ref 130, .int (nI j1), .int (nI j3)] [] (uI h 130 0 0) Q) from ⟨fun c7 => ?_, fun c7 => ?_⟩)
            · skip
              refine exf_go 2 (show Q (.int 0) (uI h 130 0 0) from ?_)
              simp only [fHolds, *] at k
              exact k _ (Fq.uI' Fq.rfl' _ _ _ rfl)
            · skip
              exact absurd (by decide) c7
        · skip
          exact absurd (by decide) c4
      · skip
        show Go (d + 2) true 233 32 [.ref 130, .int (nI j1), .int y] [.int 0] (uI h 130 0 0) Q
        refine exf_go 1 (show (¬ (0 : Int32) = 0 → Go (d + 2) true 233 40 [.ref 130, .int (nI j1), .int y] [] (uI h 130 0 0) Q) ∧ (¬ (¬ (0 : Int32) = 0) → Go (d + 2) true 233 35 [.ref 130, .int (nI j1), .int y] [] (uI h 130 0 0) Q) from ⟨fun c8 => ?_, fun c8 => ?_⟩)
        · skip
          exact absurd c8 (by decide)
        · skip
          refine exf_go 3 (show Q (.int (-3)) (uI h 130 0 0) from ?_)
          simp only [fHolds, *] at k
          exact k _ (Fq.uI' Fq.rfl' _ _ _ rfl)
    · skip
      exact absurd (by decide) c2
  · skip
    have e1 : ixN x (sC g) = none := u1.elim wi_neg (wi_ge (by omega))
    show Go (d + 2) true 233 20 [.ref 130, .int x, .int y] [.int 0] (uI h 130 0 0) Q
    refine exf_go 1 (show (¬ (0 : Int32) = 0 → Go (d + 2) true 233 26 [.ref 130, .int x, .int y] [] (uI h 130 0 0) Q) ∧ (¬ (¬ (0 : Int32) = 0) → Go (d + 2) true 233 23 [.ref 130, .int x, .int y] [] (uI h 130 0 0) Q) from ⟨fun c9 => ?_, fun c9 => ?_⟩)
    · skip
      exact absurd c9 (by decide)
    · skip
      refine exf_go 2 (show Q (.int (-2)) (uI h 130 0 0) from ?_)
      simp only [fHolds, *] at k
      exact k _ (Fq.uI' Fq.rfl' _ _ _ rfl)
theorem m_tells {d : Nat} {h : Hp} {g : ShG} {l : LkG} {x y : Int32} {Q : Po} (ms : MS g l h) (k : ∀ h1, Fq scM h h1 → Q (.long (fTells g l x y)) h1) : wpC (d + 6) true 244 [.ref 130, .int x, .int y] h Q := by
  have hN := tot_b ms.1.1
  have h4 := ms.1.1.1
  have h8 := ms.1.1.2.2.2.1
  have he := evr_b ms.1.1
  have hev : evr g = 2 ^ sC g - 1 := rfl
  have hfb := fun w => sF_b ms.1.1 w
  refine go_in rfl ?_
  refine exf_go 6 (show wpC (d + 5) true 219 [.ref 130, .int x] (uI h 130 0 0) (fun r h' => Go (d + 5) true 244 10 [.ref 130, .int x, .int y, mk_, mk_, mk_] [r] h' Q) from ?_)
  refine m_isWheel (x := x) (ms_fq ms (Fq.uI' Fq.rfl' _ _ _ rfl)) (fun j1 e1 q1 r1 => ?_) (fun e1 => ?_)
  · skip
    subst q1
    show Go (d + 5) true 244 10 [.ref 130, .int (nI j1), .int y, mk_, mk_, mk_] [.int 1] (uI h 130 0 0) Q
    refine exf_go 1 (show (¬ (1 : Int32) = 0 → Go (d + 5) true 244 17 [.ref 130, .int (nI j1), .int y, mk_, mk_, mk_] [] (uI h 130 0 0) Q) ∧ (¬ (¬ (1 : Int32) = 0) → Go (d + 5) true 244 13 [.ref 130, .int (nI j1), .int y, mk_, mk_, mk_] [] (uI h 130 0 0) Q) from ⟨fun c2 => ?_, fun c2 => ?_⟩)
    · skip
      refine exf_go 8 (show Go (d + 5) true 244 28 [.ref 130, .int (nI j1), .int y, mk_, mk_, mk_] [.int (10 + (nI j1)), .ref 131, .long 0, .long y.toInt64] (uI h 130 0 0) Q from ?_)
      rw [show (10 + (nI j1) : Int32) = nI (10 + j1) from nI_add 10 j1]
      refine exf_go 1 (show vp_in (nI (10 + j1)) 41523 ∧ (Go (d + 5) true 244 29 [.ref 130, .int (nI j1), .int y, mk_, mk_, mk_] [.int (rI h 131 ((nI (10 + j1)).toNatClampNeg)), .long 0, .long y.toInt64] (uI h 130 0 0) Q) from ⟨(vp_in_nI (by omega) (by omega)), ?_⟩)
      rw [show (rI h 131 ((nI (10 + j1)).toNatClampNeg) : Int32) = nI (sF g j1) from ms_F ms (n := j1) (by omega)]
      have := sF_b ms.1.1 j1
      refine exf_go 2 (show Go (d + 5) true 244 31 [.ref 130, .int (nI j1), .int y, mk_, mk_, mk_] [.int ((nI (sF g j1)) - 1), .long 0, .long y.toInt64] (uI h 130 0 0) Q from ?_)
      rw [show ((nI (sF g j1)) - 1 : Int32) = pI (sF g j1) from pI_sub _]
      refine exf_go 2 (show wpC (d + 5) true 183 [.long y.toInt64, .long 0, .long ((pI (sF g j1)).toInt64)] (uI h 130 0 0) (fun r h' => Go (d + 5) true 244 35 [.ref 130, .int (nI j1), .int y, mk_, mk_, mk_] [r] h' Q) from ?_)
      refine m_within (fun u3 v3 => ?_) (fun u3 => ?_)
      · skip
        obtain ⟨j3, e3, e3q, e3r⟩ := wi_in (n := sF g j1) (by have := sF_b ms.1.1 j1; omega) u3 v3
        subst e3q
        show Go (d + 5) true 244 35 [.ref 130, .int (nI j1), .int (nI j3), mk_, mk_, mk_] [.int 1] (uI h 130 0 0) Q
        refine exf_go 1 (show (¬ (1 : Int32) = 0 → Go (d + 5) true 244 42 [.ref 130, .int (nI j1), .int (nI j3), mk_, mk_, mk_] [] (uI h 130 0 0) Q) ∧ (¬ (¬ (1 : Int32) = 0) → Go (d + 5) true 244 38 [.ref 130, .int (nI j1), .int (nI j3), mk_, mk_, mk_] [] (uI h 130 0 0) Q) from ⟨fun c4 => ?_, fun c4 => ?_⟩)
        · skip
          refine exf_go 2 (show wpC (d + 5) true 228 [.ref 130] (uI h 130 0 0) (fun _ h' => Go (d + 5) true 244 46 [.ref 130, .int (nI j1), .int (nI j3), mk_, mk_, mk_] [] h' Q) from ?_)
          refine m_laysLeft (ms_fq ms (Fq.uI' Fq.rfl' _ _ _ rfl)) (fun h1 p1 mw1 mo1 => ?_)
          have q1 := Fq.tr (Fq.uI' Fq.rfl' _ _ _ rfl) p1
          have ms1 := ms_fq ms q1
          have hcc := cntN_le (lft g l) (tot g)
          show Go (d + 5) true 244 46 [.ref 130, .int (nI j1), .int (nI j3), mk_, mk_, mk_] [] h1 Q
          refine exf_go 4 (show Go (d + 5) true 244 51 [.ref 130, .int (nI j1), .int (nI j3), .long 0, mk_, .int 0] [] h1 Q from ?_)
          have L51 : ∀ (k51 : Nat) (i s : Nat), (cntN (lft g l) (tot g) - i) < k51 → (i ≤ cntN (lft g l) (tot g)) → (s = sumN (fun i => if fgo g (ordOf h1 i) j1 = j3 then wtA g (sH g (ordOf h1 i)) else 0) i) → Go (d + 5) true 244 51 [.ref 130, .int (nI j1), .int (nI j3), .long (lN s), mk_, .int (nI i)] [] h1 Q := by
            intro k51
            induction k51 with
            | zero => intro i s hk; exact absurd hk (Nat.not_lt_zero _)
            | succ k51 ih51 =>
              intro i s hk hi hs
              have hf1 := sF_b ms.1.1 j1
              refine exf_go 3 (show Go (d + 5) true 244 57 [.ref 130, .int (nI j1), .int (nI j3), .long (lN s), mk_, .int (nI i)] [.int (rI h1 130 22), .int (nI i)] h1 Q from ?_)
              rw [show (rI h1 130 22 : Int32) = nI (cntN (lft g l) (tot g)) from mo1.1]
              refine exf_go 1 (show ((nI (cntN (lft g l) (tot g))) ≤ (nI i) → Go (d + 5) true 244 95 [.ref 130, .int (nI j1), .int (nI j3), .long (lN s), mk_, .int (nI i)] [] h1 Q) ∧ (¬ ((nI (cntN (lft g l) (tot g))) ≤ (nI i)) → Go (d + 5) true 244 60 [.ref 130, .int (nI j1), .int (nI j3), .long (lN s), mk_, .int (nI i)] [] h1 Q) from ⟨fun c5 => ?_, fun c5 => ?_⟩)
              · skip
                have c5 : (cntN (lft g l) (tot g)) ≤ i := (nI_leI (a := (cntN (lft g l) (tot g))) (b := i) (by omega) (by omega)).mp c5
                refine exf_go 2 (show Q (.long (lN s)) h1 from ?_)
                simp only [fTells, e1, e3] at k
                rw [show sumN (fun n => if fgo g n j1 = j3 then lwt g l n else 0) (tot g) = s from by rw [hs, show i = cntN (lft g l) (tot g) from by omega]; refine (sumN_cg _ (fun n _ => ?_)).trans (ord_sum (mo_ord ms.1.1 mo1) (fun n => if fgo g n j1 = j3 then wtA g (sH g n) else 0)).symm; unfold lwt; cases lft g l n <;> simp] at k
                exact k _ q1
              · skip
                have c5 : ¬ (cntN (lft g l) (tot g)) ≤ i := fun q => c5 ((nI_leI (a := (cntN (lft g l) (tot g))) (b := i) (by omega) (by omega)).mpr q)
                refine exf_go 6 (show vp_in (nI i) 10000 ∧ (Go (d + 5) true 244 69 [.ref 130, .int (nI j1), .int (nI j3), .long (lN s), mk_, .int (nI i)] [.int (rI h1 140 ((nI i).toNatClampNeg)), .ref 130, .long (lN s)] h1 Q) from ⟨(vp_in_nI (by omega) (by omega)), ?_⟩)
                rw [show (rI h1 140 ((nI i).toNatClampNeg) : Int32) = nI (ordOf h1 i) from mo_at ms.1.1 mo1 (k := i) (by omega)]
                refine exf_go 2 (show wpC (d + 5) true 220 [.ref 130, .int (nI (ordOf h1 i)), .int (nI j1)] h1 (fun r h' => Go (d + 5) true 244 73 [.ref 130, .int (nI j1), .int (nI j3), .long (lN s), mk_, .int (nI i)] [r, .long (lN s)] h' Q) from ?_)
                have hoi := (ord_in (mo_ord ms.1.1 mo1) (k := i) (by omega)).1
                refine m_figureOf ms1 (by omega) (by omega) ?_
                have := fgo_lt ms.1.1 (ordOf h1 i) j1; have := sF_b ms.1.1 j1
                show Go (d + 5) true 244 73 [.ref 130, .int (nI j1), .int (nI j3), .long (lN s), mk_, .int (nI i)] [.int (nI (fgo g (ordOf h1 i) j1)), .long (lN s)] h1 Q
                refine exf_go 2 (show (¬ (nI (fgo g (ordOf h1 i) j1)) = (nI j3) → Go (d + 5) true 244 86 [.ref 130, .int (nI j1), .int (nI j3), .long (lN s), mk_, .int (nI i)] [.long (lN s)] h1 Q) ∧ (¬ (¬ (nI (fgo g (ordOf h1 i) j1)) = (nI j3)) → Go (d + 5) true 244 77 [.ref 130, .int (nI j1), .int (nI j3), .long (lN s), mk_, .int (nI i)] [.long (lN s)] h1 Q) from ⟨fun c6 => ?_, fun c6 => ?_⟩)
                · skip
                  have c6 : ¬ (fgo g (ordOf h1 i) j1) = j3 := fun q => c6 ((nI_eq (a := (fgo g (ordOf h1 i) j1)) (b := j3) (by omega) (by omega)).mpr q)
                  refine exf_go 2 (show Go (d + 5) true 244 88 [.ref 130, .int (nI j1), .int (nI j3), .long (lN s), mk_, .int (nI i)] [.long ((lN s) + 0)] h1 Q from ?_)
                  rw [show ((lN s) + 0 : Int64) = lN (s + 0) from lN_add s 0]
                  refine exf_go 2 (show Go (d + 5) true 244 92 [.ref 130, .int (nI j1), .int (nI j3), .long (lN (s + 0)), mk_, .int ((nI i) + 1)] [] h1 Q from ?_)
                  rw [show ((nI i) + 1 : Int32) = nI (i + 1) from nI_add i 1]
                  refine exf_go 1 (show Go (d + 5) true 244 51 [.ref 130, .int (nI j1), .int (nI j3), .long (lN (s + 0)), mk_, .int (nI (i + 1))] [] h1 Q from ?_)
                  exact ih51 (i + 1) (s + 0) (by omega) (by omega) (by rw [hs, sumN]; first | rw [if_pos (by assumption)] | rw [if_neg (by assumption)])
                · skip
                  have c6 : (fgo g (ordOf h1 i) j1) = j3 := (nI_eq (a := (fgo g (ordOf h1 i) j1)) (b := j3) (by omega) (by omega)).mp (Classical.not_not.mp c6)
                  refine exf_go 3 (show wpC (d + 5) true 229 [.ref 130, .int (nI i)] h1 (fun r h' => Go (d + 5) true 244 83 [.ref 130, .int (nI j1), .int (nI j3), .long (lN s), mk_, .int (nI i)] [r, .long (lN s)] h' Q) from ?_)
                  refine m_weightAt ms1 mw1 mo1 (by omega) ?_
                  have := wtA_b ms.1.1 (sH g (ordOf h1 i))
                  show Go (d + 5) true 244 83 [.ref 130, .int (nI j1), .int (nI j3), .long (lN s), mk_, .int (nI i)] [.long (lN (wtA g (sH g (ordOf h1 i)))), .long (lN s)] h1 Q
                  refine exf_go 2 (show Go (d + 5) true 244 88 [.ref 130, .int (nI j1), .int (nI j3), .long (lN s), mk_, .int (nI i)] [.long ((lN s) + (lN (wtA g (sH g (ordOf h1 i)))))] h1 Q from ?_)
                  rw [show ((lN s) + (lN (wtA g (sH g (ordOf h1 i)))) : Int64) = lN (s + (wtA g (sH g (ordOf h1 i)))) from lN_add s (wtA g (sH g (ordOf h1 i)))]
                  refine exf_go 2 (show Go (d + 5) true 244 92 [.ref 130, .int (nI j1), .int (nI j3), .long (lN (s + (wtA g (sH g (ordOf h1 i))))), mk_, .int ((nI i) + 1)] [] h1 Q from ?_)
                  rw [show ((nI i) + 1 : Int32) = nI (i + 1) from nI_add i 1]
                  refine exf_go 1 (show Go (d + 5) true 244 51 [.ref 130, .int (nI j1), .int (nI j3), .long (lN (s + (wtA g (sH g (ordOf h1 i))))), mk_, .int (nI (i + 1))] [] h1 Q from ?_)
                  exact ih51 (i + 1) (s + (wtA g (sH g (ordOf h1 i)))) (by omega) (by omega) (by rw [hs, sumN]; first | rw [if_pos (by assumption)] | rw [if_neg (by assumption)])
          exact L51 (cntN (lft g l) (tot g) + 1) 0 0 (by omega) (by omega) rfl
        · skip
          exact absurd (by decide) c4
      · skip
        have e3 : ixN y (sF g j1) = none := u3.elim wi_neg (wi_ge (by have := sF_b ms.1.1 j1; omega))
        show Go (d + 5) true 244 35 [.ref 130, .int (nI j1), .int y, mk_, mk_, mk_] [.int 0] (uI h 130 0 0) Q
        refine exf_go 1 (show (¬ (0 : Int32) = 0 → Go (d + 5) true 244 42 [.ref 130, .int (nI j1), .int y, mk_, mk_, mk_] [] (uI h 130 0 0) Q) ∧ (¬ (¬ (0 : Int32) = 0) → Go (d + 5) true 244 38 [.ref 130, .int (nI j1), .int y, mk_, mk_, mk_] [] (uI h 130 0 0) Q) from ⟨fun c7 => ?_, fun c7 => ?_⟩)
        · skip
          exact absurd c7 (by decide)
        · skip
          refine exf_go 2 (show Q (.long (-3)) (uI h 130 0 0) from ?_)
          simp only [fTells, *] at k
          exact k _ (Fq.uI' Fq.rfl' _ _ _ rfl)
    · skip
      exact absurd (by decide) c2
  · skip
    show Go (d + 5) true 244 10 [.ref 130, .int x, .int y, mk_, mk_, mk_] [.int 0] (uI h 130 0 0) Q
    refine exf_go 1 (show (¬ (0 : Int32) = 0 → Go (d + 5) true 244 17 [.ref 130, .int x, .int y, mk_, mk_, mk_] [] (uI h 130 0 0) Q) ∧ (¬ (¬ (0 : Int32) = 0) → Go (d + 5) true 244 13 [.ref 130, .int x, .int y, mk_, mk_, mk_] [] (uI h 130 0 0) Q) from ⟨fun c8 => ?_, fun c8 => ?_⟩)
    · skip
      exact absurd c8 (by decide)
    · skip
      refine exf_go 2 (show Q (.long (-2)) (uI h 130 0 0) from ?_)
      simp only [fTells, *] at k
      exact k _ (Fq.uI' Fq.rfl' _ _ _ rfl)
