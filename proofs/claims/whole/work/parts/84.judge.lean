/-! Evenings told in a tray. -/
def evL (g : ShG) (v : Nat → Int64) (l : LkG) : Nat → LkG
  | 0 => l
  | k + 1 => match ixL (v k) (tot g) with
    | none => evL g v l k
    | some n => tryL g (evL g v l k) n
def evS (g : ShG) (v : Nat → Int64) (l : LkG) (k : Nat) : Bool := decide (lO (evL g v l k) = 1) || (ixL (v k) (tot g)).isNone
def evD (g : ShG) (v : Nat → Int64) (l : LkG) : Nat → Nat
  | 0 => 0
  | k + 1 => if evD g v l k < k then evD g v l k else if evS g v l k = true then k else k + 1
theorem evD_le (g : ShG) (v : Nat → Int64) (l : LkG) : ∀ k, evD g v l k ≤ k
  | 0 => Nat.le_refl _
  | k + 1 => by
    have := evD_le g v l k
    rw [evD]
    repeat' split
    all_goals omega
theorem evD_stay {g : ShG} {v : Nat → Int64} {l : LkG} {k : Nat} (h : evD g v l k < k) : ∀ j, evD g v l (k + j) = evD g v l k
  | 0 => rfl
  | j + 1 => by
    have ih := evD_stay h j
    rw [← Nat.add_assoc, evD, if_pos (by omega), ih]
theorem evD_stop {g : ShG} {v : Nat → Int64} {l : LkG} {k n : Nat} (h : evD g v l k = k) (hs : evS g v l k = true) (hn : k < n) : evD g v l n = k := by
  have h1 : evD g v l (k + 1) = k := by rw [evD, if_neg (by omega), if_pos hs]
  have := evD_stay (k := k + 1) (by omega : evD g v l (k + 1) < k + 1) (n - (k + 1))
  rw [show k + 1 + (n - (k + 1)) = n from by omega] at this
  rw [this, h1]
theorem evD_go {g : ShG} {v : Nat → Int64} {l : LkG} {k : Nat} (h : evD g v l k = k) (hs : ¬ evS g v l k = true) : evD g v l (k + 1) = k + 1 := by rw [evD, if_neg (by omega), if_neg hs]
theorem evL_go {g : ShG} {v : Nat → Int64} {l : LkG} {k n : Nat} (h : ixL (v k) (tot g) = some n) : evL g v l (k + 1) = tryL g (evL g v l k) n := by rw [evL, h]
theorem LkW_ev {g : ShG} {v : Nat → Int64} {l : LkG} (hl : LkW g l) : ∀ k, LkW g (evL g v l k)
  | 0 => hl
  | k + 1 => by
    rw [evL]
    split
    · exact LkW_ev hl k
    · rename_i n e
      refine LkW_try (LkW_ev hl k) ?_
      unfold ixL at e
      split at e
      · cases e
      · rename_i q
        have h1 : ¬ v k < 0 := fun z => q (Or.inl z)
        have h2 : ¬ lN (tot g) ≤ v k := fun z => q (Or.inr z)
        by_cases hN : tot g < 2 ^ 63
        · obtain ⟨j, e1, _, e3⟩ := il_in hN h1 h2
          rw [ixL, if_neg q] at e1
          cases e; cases e1; exact e3
        · cases e
          have h3 := Int64.toInt_lt (v k)
          omega
theorem BarW_ev {g : ShG} {v : Nat → Int64} {l : LkG} (hg : ShW g) (hb : BarW g l) : ∀ k, BarW g (evL g v l k)
  | 0 => hb
  | k + 1 => by
    rw [evL]
    split
    · exact BarW_ev hg hb k
    · exact BarW_try hg (BarW_ev hg hb k) _
def fJudge (g : ShG) (l : LkG) (tr : Nat → TrG) (x y : Int32) : Int32 := match ixN x 4 with
  | none => -2
  | some t => match ixN y 4 with
    | none => -2
    | some w => match tr t with
      | none => -6
      | some (_, n, vs) => if w = 0 then (if evD g vs l n < n then nI (evD g vs l n) else -1) else if w = 1 then lX (evL g vs l (evD g vs l n)) - lX l else if w = 2 then nI (lO (evL g vs l (evD g vs l n))) else nI (cntL g (evL g vs l (evD g vs l n)))
def dPerf (g : ShG) (e : DeG) (tr : Nat → TrG) (x : Int32) : DeG × Int32 := match ixN x 4 with
  | none => (e, -2)
  | some t => match tr t with
    | none => (e, -6)
    | some (_, n, vs) => (if 0 < evD g vs e.1 n then keepD e (evL g vs e.1 (evD g vs e.1 n)) else e, nI (evD g vs e.1 n))
theorem c_tryT0 {d : Nat} {h : Hp} {g : ShG} {l : LkG} {i so n : Nat} {vs : Nat → Int64} {Q : Po} (hi9 : i < 9) (cs : CS 31 g h) (cl : CL 39 g l h) (mk : CMK g i l l 0 h) (ct : CT 0 (some (so, n, vs)) h) (k : ∀ h1 c, Fq (sLm i) h h1 → CL 39 g (evL g vs l (evD g vs l n)) h1 → CMK g i l (evL g vs l (evD g vs l n)) c h1 → Q (.int (nI (evD g vs l n))) h1) : wpC (d + 5) true 172 [.ref 10, .ref 88, .ref (44 + 3 * i)] h Q := by
  have hN := tot_b cs.1
  have hn4 := ct.2.1; have hs3 := ct.1
  refine go_in rfl ?_
  refine exf_go 2 (show Go (d + 4) true 172 2 [.ref 10, .ref 88, .ref (44 + 3 * i), .int 0, mk_, mk_] [] h Q from ?_)
  have L2 : ∀ (k2 : Nat) (z4 : Value) (j c : Nat) (h1 : Hp), (n - j) < k2 → (j ≤ n) → (evD g vs l j = j) → (Fq (sLm i) h h1) → (CL 39 g (evL g vs l j) h1) → (CMK g i l (evL g vs l j) c h1) → (c ≤ j) → Go (d + 4) true 172 2 [.ref 10, .ref 88, .ref (44 + 3 * i), .int (nI j), z4, mk_] [] h1 Q := by
    intro k2
    induction k2 with
    | zero => intro z4 j c h1 hk; exact absurd hk (Nat.not_lt_zero _)
    | succ k2 ih2 =>
      intro z4 j c h1 hk hj hd q1 cl1 mk1 hcj
      have cs1 := cs_same cs (fun a u v => q1.I (fun x => sLm_f (by omega) (by omega)))
      have ct1 : CT 0 (some (so, n, vs)) h1 := ct_same ct (q1.I (fun x => sLm_f (by omega) (by omega))) (q1.J (fun x => sLm_f (by omega) (by omega)))
      have hO1 := cl1.1.2.1
      refine exf_go 3 (show Go (d + 4) true 172 7 [.ref 10, .ref 88, .ref (44 + 3 * i), .int (nI j), z4, mk_] [.int (rI h1 88 2), .int (nI j)] h1 Q from ?_)
      rw [show (rI h1 88 2 : Int32) = nI n from ct1.2.2.2.1]
      refine exf_go 1 (show ((nI n) ≤ (nI j) → Go (d + 4) true 172 71 [.ref 10, .ref 88, .ref (44 + 3 * i), .int (nI j), z4, mk_] [] h1 Q) ∧ (¬ ((nI n) ≤ (nI j)) → Go (d + 4) true 172 10 [.ref 10, .ref 88, .ref (44 + 3 * i), .int (nI j), z4, mk_] [] h1 Q) from ⟨fun c1 => ?_, fun c1 => ?_⟩)
      · skip
        have c1 : n ≤ j := (nI_leI (a := n) (b := j) (by omega) (by omega)).mp c1
        refine exf_go 2 (show Go (d + 4) true 172 75 [.ref 10, .ref 88, .ref (44 + 3 * i), .int (nI j), z4, mk_] [.int (rI h1 88 2)] h1 Q from ?_)
        rw [show (rI h1 88 2 : Int32) = nI n from ct1.2.2.2.1]
        refine exf_go 1 (show Q (.int (nI n)) h1 from ?_)
        have e : j = n := by omega
        rw [e] at hd cl1 mk1
        have kk := k h1 c q1 (by rw [hd]; exact cl1) (by rw [hd]; exact mk1)
        rw [hd] at kk; exact kk
      · skip
        have c1 : ¬ n ≤ j := fun q => c1 ((nI_leI (a := n) (b := j) (by omega) (by omega)).mpr q)
        refine exf_go 3 (show wpC (d + 4) true 104 [.ref 88, .int (nI j)] h1 (fun r h' => Go (d + 4) true 172 15 [.ref 10, .ref 88, .ref (44 + 3 * i), .int (nI j), z4, mk_] [r] h' Q) from ?_)
        refine c_tat0 ct1 (i := j) (by omega) ?_
        show Go (d + 4) true 172 15 [.ref 10, .ref 88, .ref (44 + 3 * i), .int (nI j), z4, mk_] [.long (vs j)] h1 Q
        refine exf_go 4 (show Go (d + 4) true 172 24 [.ref 10, .ref 88, .ref (44 + 3 * i), .int (nI j), .long (vs j), mk_] [.int (rI h1 39 7)] h1 Q from ?_)
        rw [show (rI h1 39 7 : Int32) = nI (lO (evL g vs l j)) from cl_O cl1]
        refine exf_go 1 (show (¬ (nI (lO (evL g vs l j))) = 0 → Go (d + 4) true 172 48 [.ref 10, .ref 88, .ref (44 + 3 * i), .int (nI j), .long (vs j), mk_] [] h1 Q) ∧ (¬ (¬ (nI (lO (evL g vs l j))) = 0) → Go (d + 4) true 172 27 [.ref 10, .ref 88, .ref (44 + 3 * i), .int (nI j), .long (vs j), mk_] [] h1 Q) from ⟨fun c2 => ?_, fun c2 => ?_⟩)
        · skip
          have c2 : ¬ (lO (evL g vs l j)) = 0 := fun q => c2 ((nI_eq (a := (lO (evL g vs l j))) (b := 0) (by omega) (by omega)).mpr q)
          have hst : evS g vs l j = true := by unfold evS; rw [decide_eq_true (by omega)]; rfl
          refine exf_go 2 (show Q (.int (nI j)) h1 from ?_)
          have hdn := evD_stop hd hst (show j < n by omega)
          have kk := k h1 c q1 (by rw [hdn]; exact cl1) (by rw [hdn]; exact mk1)
          rw [hdn] at kk; exact kk
        · skip
          have c2 : (lO (evL g vs l j)) = 0 := (nI_eq (a := (lO (evL g vs l j))) (b := 0) (by omega) (by omega)).mp (Classical.not_not.mp c2)
          refine exf_go 4 (show ((lg_cmp (vs j) 0) < 0 → Go (d + 4) true 172 48 [.ref 10, .ref 88, .ref (44 + 3 * i), .int (nI j), .long (vs j), mk_] [] h1 Q) ∧ (¬ ((lg_cmp (vs j) 0) < 0) → Go (d + 4) true 172 34 [.ref 10, .ref 88, .ref (44 + 3 * i), .int (nI j), .long (vs j), mk_] [] h1 Q) from ⟨fun c3 => ?_, fun c3 => ?_⟩)
          · skip
            have c3 : (vs j) < 0 := (lg_cmp_lt _ _).mp c3
            have hst : evS g vs l j = true := by unfold evS; rw [il_neg c3, Option.isNone_none, Bool.or_true]
            refine exf_go 2 (show Q (.int (nI j)) h1 from ?_)
            have hdn := evD_stop hd hst (show j < n by omega)
            have kk := k h1 c q1 (by rw [hdn]; exact cl1) (by rw [hdn]; exact mk1)
            rw [hdn] at kk; exact kk
          · skip
            have c3 : ¬ ((vs j) < 0) := fun q => c3 ((lg_cmp_lt _ _).mpr q)
            refine exf_go 4 (show Go (d + 4) true 172 43 [.ref 10, .ref 88, .ref (44 + 3 * i), .int (nI j), .long (vs j), mk_] [.int (rI h1 31 5), .long (vs j)] h1 Q from ?_)
            rw [show (rI h1 31 5 : Int32) = nI (tot g) from cs_N cs1]
            refine exf_go 1 (show Go (d + 4) true 172 44 [.ref 10, .ref 88, .ref (44 + 3 * i), .int (nI j), .long (vs j), mk_] [.long ((nI (tot g)).toInt64), .long (vs j)] h1 Q from ?_)
            rw [show ((nI (tot g)).toInt64 : Int64) = lN (tot g) from nI_l (n := (tot g)) (by omega)]
            refine exf_go 2 (show ((lg_cmp (vs j) (lN (tot g))) < 0 → Go (d + 4) true 172 50 [.ref 10, .ref 88, .ref (44 + 3 * i), .int (nI j), .long (vs j), mk_] [] h1 Q) ∧ (¬ ((lg_cmp (vs j) (lN (tot g))) < 0) → Go (d + 4) true 172 48 [.ref 10, .ref 88, .ref (44 + 3 * i), .int (nI j), .long (vs j), mk_] [] h1 Q) from ⟨fun c4 => ?_, fun c4 => ?_⟩)
            · skip
              have c4 : (vs j) < (lN (tot g)) := (lg_cmp_lt _ _).mp c4
              obtain ⟨nn, eix, eq1, eq2⟩ := il_in (n := tot g) (by omega) c3 (Int64.not_le.mpr c4)
              have hns : ¬ evS g vs l j = true := by unfold evS; rw [eix, decide_eq_false (by omega)]; exact fun q => absurd (show false = true from q) (by decide)
              rw [eq1]
              refine exf_go 6 (show Go (d + 4) true 172 61 [.ref 10, .ref 88, .ref (44 + 3 * i), .int (nI j), .long (lN nn), mk_] [.int ((lN nn).toInt32), .ref 31, .ref 39] h1 Q from ?_)
              rw [show ((lN nn).toInt32 : Int32) = nI nn from lN_i _]
              refine exf_go 2 (show wpC (d + 4) true 34 [.ref 39, .ref 31, .int (nI nn), .ref (44 + 3 * i)] h1 (fun _ h' => Go (d + 4) true 172 65 [.ref 10, .ref 88, .ref (44 + 3 * i), .int (nI j), .long (lN nn), mk_] [] h' Q) from ?_)
              refine c_attempt i hi9 cs1 cl1 mk1 (n := nn) (by omega) (by omega) (fun h2 c2 hc2 q2 cl2 mk2 => ?_)
              show Go (d + 4) true 172 65 [.ref 10, .ref 88, .ref (44 + 3 * i), .int (nI j), .long (lN nn), mk_] [] h2 Q
              refine exf_go 1 (show Go (d + 4) true 172 68 [.ref 10, .ref 88, .ref (44 + 3 * i), .int ((nI j) + 1), .long (lN nn), mk_] [] h2 Q from ?_)
              rw [show ((nI j) + 1 : Int32) = nI (j + 1) from nI_add j 1]
              refine exf_go 1 (show Go (d + 4) true 172 2 [.ref 10, .ref 88, .ref (44 + 3 * i), .int (nI (j + 1)), .long (lN nn), mk_] [] h2 Q from ?_)
              exact ih2 (.long (lN nn)) (j + 1) c2 h2 (by omega) (by omega) (evD_go hd hns) (q1.tr q2) (by rw [evL_go eix]; exact cl2) (by rw [evL_go eix]; exact mk2) (by omega)
            · skip
              have c4 : ¬ ((vs j) < (lN (tot g))) := fun q => c4 ((lg_cmp_lt _ _).mpr q)
              have hst : evS g vs l j = true := by unfold evS; rw [il_ge (Int64.not_lt.mp c4), Option.isNone_none, Bool.or_true]
              refine exf_go 2 (show Q (.int (nI j)) h1 from ?_)
              have hdn := evD_stop hd hst (show j < n by omega)
              have kk := k h1 c q1 (by rw [hdn]; exact cl1) (by rw [hdn]; exact mk1)
              rw [hdn] at kk; exact kk
  exact L2 (n + 1) mk_ 0 0 h (by omega) (by omega) rfl Fq.rfl' cl mk (by omega)
theorem c_tryT1 {d : Nat} {h : Hp} {g : ShG} {l : LkG} {i so n : Nat} {vs : Nat → Int64} {Q : Po} (hi9 : i < 9) (cs : CS 31 g h) (cl : CL 39 g l h) (mk : CMK g i l l 0 h) (ct : CT 1 (some (so, n, vs)) h) (k : ∀ h1 c, Fq (sLm i) h h1 → CL 39 g (evL g vs l (evD g vs l n)) h1 → CMK g i l (evL g vs l (evD g vs l n)) c h1 → Q (.int (nI (evD g vs l n))) h1) : wpC (d + 5) true 172 [.ref 10, .ref 90, .ref (44 + 3 * i)] h Q := by
  have hN := tot_b cs.1
  have hn4 := ct.2.1; have hs3 := ct.1
  refine go_in rfl ?_
  refine exf_go 2 (show Go (d + 4) true 172 2 [.ref 10, .ref 90, .ref (44 + 3 * i), .int 0, mk_, mk_] [] h Q from ?_)
  have L2 : ∀ (k2 : Nat) (z4 : Value) (j c : Nat) (h1 : Hp), (n - j) < k2 → (j ≤ n) → (evD g vs l j = j) → (Fq (sLm i) h h1) → (CL 39 g (evL g vs l j) h1) → (CMK g i l (evL g vs l j) c h1) → (c ≤ j) → Go (d + 4) true 172 2 [.ref 10, .ref 90, .ref (44 + 3 * i), .int (nI j), z4, mk_] [] h1 Q := by
    intro k2
    induction k2 with
    | zero => intro z4 j c h1 hk; exact absurd hk (Nat.not_lt_zero _)
    | succ k2 ih2 =>
      intro z4 j c h1 hk hj hd q1 cl1 mk1 hcj
      have cs1 := cs_same cs (fun a u v => q1.I (fun x => sLm_f (by omega) (by omega)))
      have ct1 : CT 1 (some (so, n, vs)) h1 := ct_same ct (q1.I (fun x => sLm_f (by omega) (by omega))) (q1.J (fun x => sLm_f (by omega) (by omega)))
      have hO1 := cl1.1.2.1
      refine exf_go 3 (show Go (d + 4) true 172 7 [.ref 10, .ref 90, .ref (44 + 3 * i), .int (nI j), z4, mk_] [.int (rI h1 90 2), .int (nI j)] h1 Q from ?_)
      rw [show (rI h1 90 2 : Int32) = nI n from ct1.2.2.2.1]
      refine exf_go 1 (show ((nI n) ≤ (nI j) → Go (d + 4) true 172 71 [.ref 10, .ref 90, .ref (44 + 3 * i), .int (nI j), z4, mk_] [] h1 Q) ∧ (¬ ((nI n) ≤ (nI j)) → Go (d + 4) true 172 10 [.ref 10, .ref 90, .ref (44 + 3 * i), .int (nI j), z4, mk_] [] h1 Q) from ⟨fun c1 => ?_, fun c1 => ?_⟩)
      · skip
        have c1 : n ≤ j := (nI_leI (a := n) (b := j) (by omega) (by omega)).mp c1
        refine exf_go 2 (show Go (d + 4) true 172 75 [.ref 10, .ref 90, .ref (44 + 3 * i), .int (nI j), z4, mk_] [.int (rI h1 90 2)] h1 Q from ?_)
        rw [show (rI h1 90 2 : Int32) = nI n from ct1.2.2.2.1]
        refine exf_go 1 (show Q (.int (nI n)) h1 from ?_)
        have e : j = n := by omega
        rw [e] at hd cl1 mk1
        have kk := k h1 c q1 (by rw [hd]; exact cl1) (by rw [hd]; exact mk1)
        rw [hd] at kk; exact kk
      · skip
        have c1 : ¬ n ≤ j := fun q => c1 ((nI_leI (a := n) (b := j) (by omega) (by omega)).mpr q)
        refine exf_go 3 (show wpC (d + 4) true 104 [.ref 90, .int (nI j)] h1 (fun r h' => Go (d + 4) true 172 15 [.ref 10, .ref 90, .ref (44 + 3 * i), .int (nI j), z4, mk_] [r] h' Q) from ?_)
        refine c_tat1 ct1 (i := j) (by omega) ?_
        show Go (d + 4) true 172 15 [.ref 10, .ref 90, .ref (44 + 3 * i), .int (nI j), z4, mk_] [.long (vs j)] h1 Q
        refine exf_go 4 (show Go (d + 4) true 172 24 [.ref 10, .ref 90, .ref (44 + 3 * i), .int (nI j), .long (vs j), mk_] [.int (rI h1 39 7)] h1 Q from ?_)
        rw [show (rI h1 39 7 : Int32) = nI (lO (evL g vs l j)) from cl_O cl1]
        refine exf_go 1 (show (¬ (nI (lO (evL g vs l j))) = 0 → Go (d + 4) true 172 48 [.ref 10, .ref 90, .ref (44 + 3 * i), .int (nI j), .long (vs j), mk_] [] h1 Q) ∧ (¬ (¬ (nI (lO (evL g vs l j))) = 0) → Go (d + 4) true 172 27 [.ref 10, .ref 90, .ref (44 + 3 * i), .int (nI j), .long (vs j), mk_] [] h1 Q) from ⟨fun c2 => ?_, fun c2 => ?_⟩)
        · skip
          have c2 : ¬ (lO (evL g vs l j)) = 0 := fun q => c2 ((nI_eq (a := (lO (evL g vs l j))) (b := 0) (by omega) (by omega)).mpr q)
          have hst : evS g vs l j = true := by unfold evS; rw [decide_eq_true (by omega)]; rfl
          refine exf_go 2 (show Q (.int (nI j)) h1 from ?_)
          have hdn := evD_stop hd hst (show j < n by omega)
          have kk := k h1 c q1 (by rw [hdn]; exact cl1) (by rw [hdn]; exact mk1)
          rw [hdn] at kk; exact kk
        · skip
          have c2 : (lO (evL g vs l j)) = 0 := (nI_eq (a := (lO (evL g vs l j))) (b := 0) (by omega) (by omega)).mp (Classical.not_not.mp c2)
          refine exf_go 4 (show ((lg_cmp (vs j) 0) < 0 → Go (d + 4) true 172 48 [.ref 10, .ref 90, .ref (44 + 3 * i), .int (nI j), .long (vs j), mk_] [] h1 Q) ∧ (¬ ((lg_cmp (vs j) 0) < 0) → Go (d + 4) true 172 34 [.ref 10, .ref 90, .ref (44 + 3 * i), .int (nI j), .long (vs j), mk_] [] h1 Q) from ⟨fun c3 => ?_, fun c3 => ?_⟩)
          · skip
            have c3 : (vs j) < 0 := (lg_cmp_lt _ _).mp c3
            have hst : evS g vs l j = true := by unfold evS; rw [il_neg c3, Option.isNone_none, Bool.or_true]
            refine exf_go 2 (show Q (.int (nI j)) h1 from ?_)
            have hdn := evD_stop hd hst (show j < n by omega)
            have kk := k h1 c q1 (by rw [hdn]; exact cl1) (by rw [hdn]; exact mk1)
            rw [hdn] at kk; exact kk
          · skip
            have c3 : ¬ ((vs j) < 0) := fun q => c3 ((lg_cmp_lt _ _).mpr q)
            refine exf_go 4 (show Go (d + 4) true 172 43 [.ref 10, .ref 90, .ref (44 + 3 * i), .int (nI j), .long (vs j), mk_] [.int (rI h1 31 5), .long (vs j)] h1 Q from ?_)
            rw [show (rI h1 31 5 : Int32) = nI (tot g) from cs_N cs1]
            refine exf_go 1 (show Go (d + 4) true 172 44 [.ref 10, .ref 90, .ref (44 + 3 * i), .int (nI j), .long (vs j), mk_] [.long ((nI (tot g)).toInt64), .long (vs j)] h1 Q from ?_)
            rw [show ((nI (tot g)).toInt64 : Int64) = lN (tot g) from nI_l (n := (tot g)) (by omega)]
            refine exf_go 2 (show ((lg_cmp (vs j) (lN (tot g))) < 0 → Go (d + 4) true 172 50 [.ref 10, .ref 90, .ref (44 + 3 * i), .int (nI j), .long (vs j), mk_] [] h1 Q) ∧ (¬ ((lg_cmp (vs j) (lN (tot g))) < 0) → Go (d + 4) true 172 48 [.ref 10, .ref 90, .ref (44 + 3 * i), .int (nI j), .long (vs j), mk_] [] h1 Q) from ⟨fun c4 => ?_, fun c4 => ?_⟩)
            · skip
              have c4 : (vs j) < (lN (tot g)) := (lg_cmp_lt _ _).mp c4
              obtain ⟨nn, eix, eq1, eq2⟩ := il_in (n := tot g) (by omega) c3 (Int64.not_le.mpr c4)
              have hns : ¬ evS g vs l j = true := by unfold evS; rw [eix, decide_eq_false (by omega)]; exact fun q => absurd (show false = true from q) (by decide)
              rw [eq1]
              refine exf_go 6 (show Go (d + 4) true 172 61 [.ref 10, .ref 90, .ref (44 + 3 * i), .int (nI j), .long (lN nn), mk_] [.int ((lN nn).toInt32), .ref 31, .ref 39] h1 Q from ?_)
              rw [show ((lN nn).toInt32 : Int32) = nI nn from lN_i _]
              refine exf_go 2 (show wpC (d + 4) true 34 [.ref 39, .ref 31, .int (nI nn), .ref (44 + 3 * i)] h1 (fun _ h' => Go (d + 4) true 172 65 [.ref 10, .ref 90, .ref (44 + 3 * i), .int (nI j), .long (lN nn), mk_] [] h' Q) from ?_)
              refine c_attempt i hi9 cs1 cl1 mk1 (n := nn) (by omega) (by omega) (fun h2 c2 hc2 q2 cl2 mk2 => ?_)
              show Go (d + 4) true 172 65 [.ref 10, .ref 90, .ref (44 + 3 * i), .int (nI j), .long (lN nn), mk_] [] h2 Q
              refine exf_go 1 (show Go (d + 4) true 172 68 [.ref 10, .ref 90, .ref (44 + 3 * i), .int ((nI j) + 1), .long (lN nn), mk_] [] h2 Q from ?_)
              rw [show ((nI j) + 1 : Int32) = nI (j + 1) from nI_add j 1]
              refine exf_go 1 (show Go (d + 4) true 172 2 [.ref 10, .ref 90, .ref (44 + 3 * i), .int (nI (j + 1)), .long (lN nn), mk_] [] h2 Q from ?_)
              exact ih2 (.long (lN nn)) (j + 1) c2 h2 (by omega) (by omega) (evD_go hd hns) (q1.tr q2) (by rw [evL_go eix]; exact cl2) (by rw [evL_go eix]; exact mk2) (by omega)
            · skip
              have c4 : ¬ ((vs j) < (lN (tot g))) := fun q => c4 ((lg_cmp_lt _ _).mpr q)
              have hst : evS g vs l j = true := by unfold evS; rw [il_ge (Int64.not_lt.mp c4), Option.isNone_none, Bool.or_true]
              refine exf_go 2 (show Q (.int (nI j)) h1 from ?_)
              have hdn := evD_stop hd hst (show j < n by omega)
              have kk := k h1 c q1 (by rw [hdn]; exact cl1) (by rw [hdn]; exact mk1)
              rw [hdn] at kk; exact kk
  exact L2 (n + 1) mk_ 0 0 h (by omega) (by omega) rfl Fq.rfl' cl mk (by omega)
theorem c_tryT2 {d : Nat} {h : Hp} {g : ShG} {l : LkG} {i so n : Nat} {vs : Nat → Int64} {Q : Po} (hi9 : i < 9) (cs : CS 31 g h) (cl : CL 39 g l h) (mk : CMK g i l l 0 h) (ct : CT 2 (some (so, n, vs)) h) (k : ∀ h1 c, Fq (sLm i) h h1 → CL 39 g (evL g vs l (evD g vs l n)) h1 → CMK g i l (evL g vs l (evD g vs l n)) c h1 → Q (.int (nI (evD g vs l n))) h1) : wpC (d + 5) true 172 [.ref 10, .ref 92, .ref (44 + 3 * i)] h Q := by
  have hN := tot_b cs.1
  have hn4 := ct.2.1; have hs3 := ct.1
  refine go_in rfl ?_
  refine exf_go 2 (show Go (d + 4) true 172 2 [.ref 10, .ref 92, .ref (44 + 3 * i), .int 0, mk_, mk_] [] h Q from ?_)
  have L2 : ∀ (k2 : Nat) (z4 : Value) (j c : Nat) (h1 : Hp), (n - j) < k2 → (j ≤ n) → (evD g vs l j = j) → (Fq (sLm i) h h1) → (CL 39 g (evL g vs l j) h1) → (CMK g i l (evL g vs l j) c h1) → (c ≤ j) → Go (d + 4) true 172 2 [.ref 10, .ref 92, .ref (44 + 3 * i), .int (nI j), z4, mk_] [] h1 Q := by
    intro k2
    induction k2 with
    | zero => intro z4 j c h1 hk; exact absurd hk (Nat.not_lt_zero _)
    | succ k2 ih2 =>
      intro z4 j c h1 hk hj hd q1 cl1 mk1 hcj
      have cs1 := cs_same cs (fun a u v => q1.I (fun x => sLm_f (by omega) (by omega)))
      have ct1 : CT 2 (some (so, n, vs)) h1 := ct_same ct (q1.I (fun x => sLm_f (by omega) (by omega))) (q1.J (fun x => sLm_f (by omega) (by omega)))
      have hO1 := cl1.1.2.1
      refine exf_go 3 (show Go (d + 4) true 172 7 [.ref 10, .ref 92, .ref (44 + 3 * i), .int (nI j), z4, mk_] [.int (rI h1 92 2), .int (nI j)] h1 Q from ?_)
      rw [show (rI h1 92 2 : Int32) = nI n from ct1.2.2.2.1]
      refine exf_go 1 (show ((nI n) ≤ (nI j) → Go (d + 4) true 172 71 [.ref 10, .ref 92, .ref (44 + 3 * i), .int (nI j), z4, mk_] [] h1 Q) ∧ (¬ ((nI n) ≤ (nI j)) → Go (d + 4) true 172 10 [.ref 10, .ref 92, .ref (44 + 3 * i), .int (nI j), z4, mk_] [] h1 Q) from ⟨fun c1 => ?_, fun c1 => ?_⟩)
      · skip
        have c1 : n ≤ j := (nI_leI (a := n) (b := j) (by omega) (by omega)).mp c1
        refine exf_go 2 (show Go (d + 4) true 172 75 [.ref 10, .ref 92, .ref (44 + 3 * i), .int (nI j), z4, mk_] [.int (rI h1 92 2)] h1 Q from ?_)
        rw [show (rI h1 92 2 : Int32) = nI n from ct1.2.2.2.1]
        refine exf_go 1 (show Q (.int (nI n)) h1 from ?_)
        have e : j = n := by omega
        rw [e] at hd cl1 mk1
        have kk := k h1 c q1 (by rw [hd]; exact cl1) (by rw [hd]; exact mk1)
        rw [hd] at kk; exact kk
      · skip
        have c1 : ¬ n ≤ j := fun q => c1 ((nI_leI (a := n) (b := j) (by omega) (by omega)).mpr q)
        refine exf_go 3 (show wpC (d + 4) true 104 [.ref 92, .int (nI j)] h1 (fun r h' => Go (d + 4) true 172 15 [.ref 10, .ref 92, .ref (44 + 3 * i), .int (nI j), z4, mk_] [r] h' Q) from ?_)
        refine c_tat2 ct1 (i := j) (by omega) ?_
        show Go (d + 4) true 172 15 [.ref 10, .ref 92, .ref (44 + 3 * i), .int (nI j), z4, mk_] [.long (vs j)] h1 Q
        refine exf_go 4 (show Go (d + 4) true 172 24 [.ref 10, .ref 92, .ref (44 + 3 * i), .int (nI j), .long (vs j), mk_] [.int (rI h1 39 7)] h1 Q from ?_)
        rw [show (rI h1 39 7 : Int32) = nI (lO (evL g vs l j)) from cl_O cl1]
        refine exf_go 1 (show (¬ (nI (lO (evL g vs l j))) = 0 → Go (d + 4) true 172 48 [.ref 10, .ref 92, .ref (44 + 3 * i), .int (nI j), .long (vs j), mk_] [] h1 Q) ∧ (¬ (¬ (nI (lO (evL g vs l j))) = 0) → Go (d + 4) true 172 27 [.ref 10, .ref 92, .ref (44 + 3 * i), .int (nI j), .long (vs j), mk_] [] h1 Q) from ⟨fun c2 => ?_, fun c2 => ?_⟩)
        · skip
          have c2 : ¬ (lO (evL g vs l j)) = 0 := fun q => c2 ((nI_eq (a := (lO (evL g vs l j))) (b := 0) (by omega) (by omega)).mpr q)
          have hst : evS g vs l j = true := by unfold evS; rw [decide_eq_true (by omega)]; rfl
          refine exf_go 2 (show Q (.int (nI j)) h1 from ?_)
          have hdn := evD_stop hd hst (show j < n by omega)
          have kk := k h1 c q1 (by rw [hdn]; exact cl1) (by rw [hdn]; exact mk1)
          rw [hdn] at kk; exact kk
        · skip
          have c2 : (lO (evL g vs l j)) = 0 := (nI_eq (a := (lO (evL g vs l j))) (b := 0) (by omega) (by omega)).mp (Classical.not_not.mp c2)
          refine exf_go 4 (show ((lg_cmp (vs j) 0) < 0 → Go (d + 4) true 172 48 [.ref 10, .ref 92, .ref (44 + 3 * i), .int (nI j), .long (vs j), mk_] [] h1 Q) ∧ (¬ ((lg_cmp (vs j) 0) < 0) → Go (d + 4) true 172 34 [.ref 10, .ref 92, .ref (44 + 3 * i), .int (nI j), .long (vs j), mk_] [] h1 Q) from ⟨fun c3 => ?_, fun c3 => ?_⟩)
          · skip
            have c3 : (vs j) < 0 := (lg_cmp_lt _ _).mp c3
            have hst : evS g vs l j = true := by unfold evS; rw [il_neg c3, Option.isNone_none, Bool.or_true]
            refine exf_go 2 (show Q (.int (nI j)) h1 from ?_)
            have hdn := evD_stop hd hst (show j < n by omega)
            have kk := k h1 c q1 (by rw [hdn]; exact cl1) (by rw [hdn]; exact mk1)
            rw [hdn] at kk; exact kk
          · skip
            have c3 : ¬ ((vs j) < 0) := fun q => c3 ((lg_cmp_lt _ _).mpr q)
            refine exf_go 4 (show Go (d + 4) true 172 43 [.ref 10, .ref 92, .ref (44 + 3 * i), .int (nI j), .long (vs j), mk_] [.int (rI h1 31 5), .long (vs j)] h1 Q from ?_)
            rw [show (rI h1 31 5 : Int32) = nI (tot g) from cs_N cs1]
            refine exf_go 1 (show Go (d + 4) true 172 44 [.ref 10, .ref 92, .ref (44 + 3 * i), .int (nI j), .long (vs j), mk_] [.long ((nI (tot g)).toInt64), .long (vs j)] h1 Q from ?_)
            rw [show ((nI (tot g)).toInt64 : Int64) = lN (tot g) from nI_l (n := (tot g)) (by omega)]
            refine exf_go 2 (show ((lg_cmp (vs j) (lN (tot g))) < 0 → Go (d + 4) true 172 50 [.ref 10, .ref 92, .ref (44 + 3 * i), .int (nI j), .long (vs j), mk_] [] h1 Q) ∧ (¬ ((lg_cmp (vs j) (lN (tot g))) < 0) → Go (d + 4) true 172 48 [.ref 10, .ref 92, .ref (44 + 3 * i), .int (nI j), .long (vs j), mk_] [] h1 Q) from ⟨fun c4 => ?_, fun c4 => ?_⟩)
            · skip
              have c4 : (vs j) < (lN (tot g)) := (lg_cmp_lt _ _).mp c4
              obtain ⟨nn, eix, eq1, eq2⟩ := il_in (n := tot g) (by omega) c3 (Int64.not_le.mpr c4)
              have hns : ¬ evS g vs l j = true := by unfold evS; rw [eix, decide_eq_false (by omega)]; exact fun q => absurd (show false = true from q) (by decide)
              rw [eq1]
              refine exf_go 6 (show Go (d + 4) true 172 61 [.ref 10, .ref 92, .ref (44 + 3 * i), .int (nI j), .long (lN nn), mk_] [.int ((lN nn).toInt32), .ref 31, .ref 39] h1 Q from ?_)
              rw [show ((lN nn).toInt32 : Int32) = nI nn from lN_i _]
              refine exf_go 2 (show wpC (d + 4) true 34 [.ref 39, .ref 31, .int (nI nn), .ref (44 + 3 * i)] h1 (fun _ h' => Go (d + 4) true 172 65 [.ref 10, .ref 92, .ref (44 + 3 * i), .int (nI j), .long (lN nn), mk_] [] h' Q) from ?_)
              refine c_attempt i hi9 cs1 cl1 mk1 (n := nn) (by omega) (by omega) (fun h2 c2 hc2 q2 cl2 mk2 => ?_)
              show Go (d + 4) true 172 65 [.ref 10, .ref 92, .ref (44 + 3 * i), .int (nI j), .long (lN nn), mk_] [] h2 Q
              refine exf_go 1 (show Go (d + 4) true 172 68 [.ref 10, .ref 92, .ref (44 + 3 * i), .int ((nI j) + 1), .long (lN nn), mk_] [] h2 Q from ?_)
              rw [show ((nI j) + 1 : Int32) = nI (j + 1) from nI_add j 1]
              refine exf_go 1 (show Go (d + 4) true 172 2 [.ref 10, .ref 92, .ref (44 + 3 * i), .int (nI (j + 1)), .long (lN nn), mk_] [] h2 Q from ?_)
              exact ih2 (.long (lN nn)) (j + 1) c2 h2 (by omega) (by omega) (evD_go hd hns) (q1.tr q2) (by rw [evL_go eix]; exact cl2) (by rw [evL_go eix]; exact mk2) (by omega)
            · skip
              have c4 : ¬ ((vs j) < (lN (tot g))) := fun q => c4 ((lg_cmp_lt _ _).mpr q)
              have hst : evS g vs l j = true := by unfold evS; rw [il_ge (Int64.not_lt.mp c4), Option.isNone_none, Bool.or_true]
              refine exf_go 2 (show Q (.int (nI j)) h1 from ?_)
              have hdn := evD_stop hd hst (show j < n by omega)
              have kk := k h1 c q1 (by rw [hdn]; exact cl1) (by rw [hdn]; exact mk1)
              rw [hdn] at kk; exact kk
  exact L2 (n + 1) mk_ 0 0 h (by omega) (by omega) rfl Fq.rfl' cl mk (by omega)
theorem c_tryT3 {d : Nat} {h : Hp} {g : ShG} {l : LkG} {i so n : Nat} {vs : Nat → Int64} {Q : Po} (hi9 : i < 9) (cs : CS 31 g h) (cl : CL 39 g l h) (mk : CMK g i l l 0 h) (ct : CT 3 (some (so, n, vs)) h) (k : ∀ h1 c, Fq (sLm i) h h1 → CL 39 g (evL g vs l (evD g vs l n)) h1 → CMK g i l (evL g vs l (evD g vs l n)) c h1 → Q (.int (nI (evD g vs l n))) h1) : wpC (d + 5) true 172 [.ref 10, .ref 94, .ref (44 + 3 * i)] h Q := by
  have hN := tot_b cs.1
  have hn4 := ct.2.1; have hs3 := ct.1
  refine go_in rfl ?_
  refine exf_go 2 (show Go (d + 4) true 172 2 [.ref 10, .ref 94, .ref (44 + 3 * i), .int 0, mk_, mk_] [] h Q from ?_)
  have L2 : ∀ (k2 : Nat) (z4 : Value) (j c : Nat) (h1 : Hp), (n - j) < k2 → (j ≤ n) → (evD g vs l j = j) → (Fq (sLm i) h h1) → (CL 39 g (evL g vs l j) h1) → (CMK g i l (evL g vs l j) c h1) → (c ≤ j) → Go (d + 4) true 172 2 [.ref 10, .ref 94, .ref (44 + 3 * i), .int (nI j), z4, mk_] [] h1 Q := by
    intro k2
    induction k2 with
    | zero => intro z4 j c h1 hk; exact absurd hk (Nat.not_lt_zero _)
    | succ k2 ih2 =>
      intro z4 j c h1 hk hj hd q1 cl1 mk1 hcj
      have cs1 := cs_same cs (fun a u v => q1.I (fun x => sLm_f (by omega) (by omega)))
      have ct1 : CT 3 (some (so, n, vs)) h1 := ct_same ct (q1.I (fun x => sLm_f (by omega) (by omega))) (q1.J (fun x => sLm_f (by omega) (by omega)))
      have hO1 := cl1.1.2.1
      refine exf_go 3 (show Go (d + 4) true 172 7 [.ref 10, .ref 94, .ref (44 + 3 * i), .int (nI j), z4, mk_] [.int (rI h1 94 2), .int (nI j)] h1 Q from ?_)
      rw [show (rI h1 94 2 : Int32) = nI n from ct1.2.2.2.1]
      refine exf_go 1 (show ((nI n) ≤ (nI j) → Go (d + 4) true 172 71 [.ref 10, .ref 94, .ref (44 + 3 * i), .int (nI j), z4, mk_] [] h1 Q) ∧ (¬ ((nI n) ≤ (nI j)) → Go (d + 4) true 172 10 [.ref 10, .ref 94, .ref (44 + 3 * i), .int (nI j), z4, mk_] [] h1 Q) from ⟨fun c1 => ?_, fun c1 => ?_⟩)
      · skip
        have c1 : n ≤ j := (nI_leI (a := n) (b := j) (by omega) (by omega)).mp c1
        refine exf_go 2 (show Go (d + 4) true 172 75 [.ref 10, .ref 94, .ref (44 + 3 * i), .int (nI j), z4, mk_] [.int (rI h1 94 2)] h1 Q from ?_)
        rw [show (rI h1 94 2 : Int32) = nI n from ct1.2.2.2.1]
        refine exf_go 1 (show Q (.int (nI n)) h1 from ?_)
        have e : j = n := by omega
        rw [e] at hd cl1 mk1
        have kk := k h1 c q1 (by rw [hd]; exact cl1) (by rw [hd]; exact mk1)
        rw [hd] at kk; exact kk
      · skip
        have c1 : ¬ n ≤ j := fun q => c1 ((nI_leI (a := n) (b := j) (by omega) (by omega)).mpr q)
        refine exf_go 3 (show wpC (d + 4) true 104 [.ref 94, .int (nI j)] h1 (fun r h' => Go (d + 4) true 172 15 [.ref 10, .ref 94, .ref (44 + 3 * i), .int (nI j), z4, mk_] [r] h' Q) from ?_)
        refine c_tat3 ct1 (i := j) (by omega) ?_
        show Go (d + 4) true 172 15 [.ref 10, .ref 94, .ref (44 + 3 * i), .int (nI j), z4, mk_] [.long (vs j)] h1 Q
        refine exf_go 4 (show Go (d + 4) true 172 24 [.ref 10, .ref 94, .ref (44 + 3 * i), .int (nI j), .long (vs j), mk_] [.int (rI h1 39 7)] h1 Q from ?_)
        rw [show (rI h1 39 7 : Int32) = nI (lO (evL g vs l j)) from cl_O cl1]
        refine exf_go 1 (show (¬ (nI (lO (evL g vs l j))) = 0 → Go (d + 4) true 172 48 [.ref 10, .ref 94, .ref (44 + 3 * i), .int (nI j), .long (vs j), mk_] [] h1 Q) ∧ (¬ (¬ (nI (lO (evL g vs l j))) = 0) → Go (d + 4) true 172 27 [.ref 10, .ref 94, .ref (44 + 3 * i), .int (nI j), .long (vs j), mk_] [] h1 Q) from ⟨fun c2 => ?_, fun c2 => ?_⟩)
        · skip
          have c2 : ¬ (lO (evL g vs l j)) = 0 := fun q => c2 ((nI_eq (a := (lO (evL g vs l j))) (b := 0) (by omega) (by omega)).mpr q)
          have hst : evS g vs l j = true := by unfold evS; rw [decide_eq_true (by omega)]; rfl
          refine exf_go 2 (show Q (.int (nI j)) h1 from ?_)
          have hdn := evD_stop hd hst (show j < n by omega)
          have kk := k h1 c q1 (by rw [hdn]; exact cl1) (by rw [hdn]; exact mk1)
          rw [hdn] at kk; exact kk
        · skip
          have c2 : (lO (evL g vs l j)) = 0 := (nI_eq (a := (lO (evL g vs l j))) (b := 0) (by omega) (by omega)).mp (Classical.not_not.mp c2)
          refine exf_go 4 (show ((lg_cmp (vs j) 0) < 0 → Go (d + 4) true 172 48 [.ref 10, .ref 94, .ref (44 + 3 * i), .int (nI j), .long (vs j), mk_] [] h1 Q) ∧ (¬ ((lg_cmp (vs j) 0) < 0) → Go (d + 4) true 172 34 [.ref 10, .ref 94, .ref (44 + 3 * i), .int (nI j), .long (vs j), mk_] [] h1 Q) from ⟨fun c3 => ?_, fun c3 => ?_⟩)
          · skip
            have c3 : (vs j) < 0 := (lg_cmp_lt _ _).mp c3
            have hst : evS g vs l j = true := by unfold evS; rw [il_neg c3, Option.isNone_none, Bool.or_true]
            refine exf_go 2 (show Q (.int (nI j)) h1 from ?_)
            have hdn := evD_stop hd hst (show j < n by omega)
            have kk := k h1 c q1 (by rw [hdn]; exact cl1) (by rw [hdn]; exact mk1)
            rw [hdn] at kk; exact kk
          · skip
            have c3 : ¬ ((vs j) < 0) := fun q => c3 ((lg_cmp_lt _ _).mpr q)
            refine exf_go 4 (show Go (d + 4) true 172 43 [.ref 10, .ref 94, .ref (44 + 3 * i), .int (nI j), .long (vs j), mk_] [.int (rI h1 31 5), .long (vs j)] h1 Q from ?_)
            rw [show (rI h1 31 5 : Int32) = nI (tot g) from cs_N cs1]
            refine exf_go 1 (show Go (d + 4) true 172 44 [.ref 10, .ref 94, .ref (44 + 3 * i), .int (nI j), .long (vs j), mk_] [.long ((nI (tot g)).toInt64), .long (vs j)] h1 Q from ?_)
            rw [show ((nI (tot g)).toInt64 : Int64) = lN (tot g) from nI_l (n := (tot g)) (by omega)]
            refine exf_go 2 (show ((lg_cmp (vs j) (lN (tot g))) < 0 → Go (d + 4) true 172 50 [.ref 10, .ref 94, .ref (44 + 3 * i), .int (nI j), .long (vs j), mk_] [] h1 Q) ∧ (¬ ((lg_cmp (vs j) (lN (tot g))) < 0) → Go (d + 4) true 172 48 [.ref 10, .ref 94, .ref (44 + 3 * i), .int (nI j), .long (vs j), mk_] [] h1 Q) from ⟨fun c4 => ?_, fun c4 => ?_⟩)
            · skip
              have c4 : (vs j) < (lN (tot g)) := (lg_cmp_lt _ _).mp c4
              obtain ⟨nn, eix, eq1, eq2⟩ := il_in (n := tot g) (by omega) c3 (Int64.not_le.mpr c4)
              have hns : ¬ evS g vs l j = true := by unfold evS; rw [eix, decide_eq_false (by omega)]; exact fun q => absurd (show false = true from q) (by decide)
              rw [eq1]
              refine exf_go 6 (show Go (d + 4) true 172 61 [.ref 10, .ref 94, .ref (44 + 3 * i), .int (nI j), .long (lN nn), mk_] [.int ((lN nn).toInt32), .ref 31, .ref 39] h1 Q from ?_)
              rw [show ((lN nn).toInt32 : Int32) = nI nn from lN_i _]
              refine exf_go 2 (show wpC (d + 4) true 34 [.ref 39, .ref 31, .int (nI nn), .ref (44 + 3 * i)] h1 (fun _ h' => Go (d + 4) true 172 65 [.ref 10, .ref 94, .ref (44 + 3 * i), .int (nI j), .long (lN nn), mk_] [] h' Q) from ?_)
              refine c_attempt i hi9 cs1 cl1 mk1 (n := nn) (by omega) (by omega) (fun h2 c2 hc2 q2 cl2 mk2 => ?_)
              show Go (d + 4) true 172 65 [.ref 10, .ref 94, .ref (44 + 3 * i), .int (nI j), .long (lN nn), mk_] [] h2 Q
              refine exf_go 1 (show Go (d + 4) true 172 68 [.ref 10, .ref 94, .ref (44 + 3 * i), .int ((nI j) + 1), .long (lN nn), mk_] [] h2 Q from ?_)
              rw [show ((nI j) + 1 : Int32) = nI (j + 1) from nI_add j 1]
              refine exf_go 1 (show Go (d + 4) true 172 2 [.ref 10, .ref 94, .ref (44 + 3 * i), .int (nI (j + 1)), .long (lN nn), mk_] [] h2 Q from ?_)
              exact ih2 (.long (lN nn)) (j + 1) c2 h2 (by omega) (by omega) (evD_go hd hns) (q1.tr q2) (by rw [evL_go eix]; exact cl2) (by rw [evL_go eix]; exact mk2) (by omega)
            · skip
              have c4 : ¬ ((vs j) < (lN (tot g))) := fun q => c4 ((lg_cmp_lt _ _).mpr q)
              have hst : evS g vs l j = true := by unfold evS; rw [il_ge (Int64.not_lt.mp c4), Option.isNone_none, Bool.or_true]
              refine exf_go 2 (show Q (.int (nI j)) h1 from ?_)
              have hdn := evD_stop hd hst (show j < n by omega)
              have kk := k h1 c q1 (by rw [hdn]; exact cl1) (by rw [hdn]; exact mk1)
              rw [hdn] at kk; exact kk
  exact L2 (n + 1) mk_ 0 0 h (by omega) (by omega) rfl Fq.rfl' cl mk (by omega)
theorem qs_lm {i : Nat} {h h1 h2 : Hp} (qs1 : ∀ a, 42 ≤ a → a ≤ 70 → (a < 44 + 3 * i ∨ 46 + 3 * i < a) → rI h1 a = rI h a) (q2 : Fq (sLm i) h1 h2) : ∀ a, 42 ≤ a → a ≤ 70 → (a < 44 + 3 * i ∨ 46 + 3 * i < a) → rI h2 a = rI h a := fun a u v z => (q2.I (fun x => sLm_f (by omega) z)).trans (qs1 a u v z)
theorem ct_H {t : Nat} {tr : TrG} {h h1 : Hp} (ct : CT t tr h) (q : Fq scH h h1) : CT t tr h1 := ct_same ct (q.I (fun x => scH_n (by omega))) (q.J (fun x => scH_n (by omega)))
theorem c_perform {d : Nat} {h : Hp} {g : ShG} {e : DeG} {tr : Nat → TrG} {x : Int32} {Q : Po} (wf : WF h) (cs : CS 31 g h) (cd : CD g e h) (ca : CTA tr h) (k : ∀ h1, Fq scH h h1 → CD g (dPerf g e tr x).1 h1 → Q (.int (dPerf g e tr x).2) h1) : wpC (d + 6) true 131 [.ref 10, .int x] h Q := by
  have hN := tot_b cs.1
  have h4 := cs.1.1
  have cd0 := cd
  obtain ⟨cl, i, ch⟩ := cd
  have hi9 := ch.1; have hm8 := ch.2.1; have hO1 := cl.1.2.1
  refine go_in rfl ?_
  refine exf_go 2 (show wpC (d + 5) true 159 [.int x] h (fun r h' => Go (d + 5) true 131 4 [.ref 10, .int x, mk_] [r] h' Q) from ?_)
  refine c_isTray (x := x) (fun et etq => ?_) (fun et etq => ?_) (fun et etq => ?_) (fun et etq => ?_) (fun et => ?_)
  · skip
    subst etq
    show Go (d + 5) true 131 4 [.ref 10, .int 0, mk_] [.int 1] h Q
    refine exf_go 1 (show (¬ (1 : Int32) = 0 → Go (d + 5) true 131 10 [.ref 10, .int 0, mk_] [] h Q) ∧ (¬ (¬ (1 : Int32) = 0) → Go (d + 5) true 131 7 [.ref 10, .int 0, mk_] [] h Q) from ⟨fun c1 => ?_, fun c1 => ?_⟩)
    · skip
      refine exf_go 4 (show vp_in (0 : Int32) 4 ∧ (rN h 87 0 = true → Go (d + 5) true 131 16 [.ref 10, .int 0, mk_] [.ref 88] h Q) ∧ (rN h 87 0 = false → Go (d + 5) true 131 16 [.ref 10, .int 0, mk_] [.null] h Q) from ⟨vp_in_nI (n := 0) (by decide) (by decide), fun c2 => ?_, fun c2 => ?_⟩)
      · skip
        refine exf_go 1 (show wpC (d + 5) true 102 [.ref 88] h (fun r h' => Go (d + 5) true 131 19 [.ref 10, .int 0, mk_] [r] h' Q) from ?_)
        rcases hq : tr 0 with _ | ⟨so, n, vs⟩
        · skip
          have ct : CT 0 none h := by have := ca 0 (by decide); rw [hq] at this; exact this
          refine c_miss10 ct ?_
          show Go (d + 5) true 131 19 [.ref 10, .int 0, mk_] [.int 1] h Q
          refine exf_go 1 (show ((1 : Int32) = 0 → Go (d + 5) true 131 25 [.ref 10, .int 0, mk_] [] h Q) ∧ (¬ ((1 : Int32) = 0) → Go (d + 5) true 131 22 [.ref 10, .int 0, mk_] [] h Q) from ⟨fun c3 => ?_, fun c3 => ?_⟩)
          · skip
            exact absurd c3 (by decide)
          · skip
            refine exf_go 2 (show Q (.int (-6)) h from ?_)
            simp only [dPerf, et, hq] at k; exact k _ Fq.rfl' cd0
        · skip
          have ct : CT 0 (some (so, n, vs)) h := by have := ca 0 (by decide); rw [hq] at this; exact this
          have hn4 := ct.2.1; have hs3 := ct.1
          refine c_miss00 ct ?_
          show Go (d + 5) true 131 19 [.ref 10, .int 0, mk_] [.int 0] h Q
          refine exf_go 1 (show ((0 : Int32) = 0 → Go (d + 5) true 131 25 [.ref 10, .int 0, mk_] [] h Q) ∧ (¬ ((0 : Int32) = 0) → Go (d + 5) true 131 22 [.ref 10, .int 0, mk_] [] h Q) from ⟨fun c4 => ?_, fun c4 => ?_⟩)
          · skip
            refine exf_go 5 (show vp_in (0 : Int32) 4 ∧ (rN h 87 0 = true → Go (d + 5) true 131 32 [.ref 10, .int 0, mk_] [.ref 88, .ref 10] h Q) ∧ (rN h 87 0 = false → Go (d + 5) true 131 32 [.ref 10, .int 0, mk_] [.null, .ref 10] h Q) from ⟨vp_in_nI (n := 0) (by decide) (by decide), fun c5 => ?_, fun c5 => ?_⟩)
            · skip
              refine exf_go 5 (show wpC (d + 5) true 13 [.ref 42, .ref 39] h (fun r h' => Go (d + 5) true 131 43 [.ref 10, .int 0, mk_] [r, .ref 88, .ref 10] h' Q) from ?_)
              refine c_mark i hi9 wf cs.1 cl ch.2.2.1 (fun h1 q1 mk1 => ?_)
              have cs1 := cs_H cs (mk_H hi9 q1); have cl1 := cl_mk cl q1
              have qs1 : ∀ a, 42 ≤ a → a ≤ 70 → (a < 44 + 3 * i ∨ 46 + 3 * i < a) → rI h1 a = rI h a := fun a u v z => q1.I (fun x => sMk_f z)
              show Go (d + 5) true 131 43 [.ref 10, .int 0, mk_] [.ref (44 + 3 * i), .ref 88, .ref 10] h1 Q
              refine exf_go 1 (show wpC (d + 5) true 172 [.ref 10, .ref 88, .ref (44 + 3 * i)] h1 (fun r h' => Go (d + 5) true 131 46 [.ref 10, .int 0, mk_] [r] h' Q) from ?_)
              have ct1 := ct_H ct (mk_H hi9 q1); have wf1 := q1.gq.2.2.2.1 wf
              refine c_tryT0 hi9 cs1 cl1 mk1 ct1 (fun h2 c2 q2 cl2 mk2 => ?_)
              have qs2 := qs_lm qs1 q2; have hp2 := ch_p ch qs2; have qh2 : Fq scH h h2 := (mk_H hi9 q1).tr (lm_H hi9 q2)
              have cs2 := cs_H cs qh2; have wf2 := qh2.gq.2.2.2.1 wf; have ct2 := ct_H ct qh2; have hdl := evD_le g vs e.1 n; have hO2 := cl2.1.2.1
              show Go (d + 5) true 131 46 [.ref 10, .int 0, mk_] [.int (nI (evD g vs e.1 n))] h2 Q
              refine exf_go 3 (show ((nI (evD g vs e.1 n)) ≤ 0 → Go (d + 5) true 131 58 [.ref 10, .int 0, .int (nI (evD g vs e.1 n))] [] h2 Q) ∧ (¬ ((nI (evD g vs e.1 n)) ≤ 0) → Go (d + 5) true 131 51 [.ref 10, .int 0, .int (nI (evD g vs e.1 n))] [] h2 Q) from ⟨fun c6 => ?_, fun c6 => ?_⟩)
              · skip
                have c6 : (evD g vs e.1 n) ≤ 0 := (nI_leI (a := (evD g vs e.1 n)) (b := 0) (by omega) (by omega)).mp c6
                refine exf_go 2 (show Q (.int (nI (evD g vs e.1 n))) h2 from ?_)
                simp only [dPerf, et, hq] at k; rw [if_neg (by omega)] at k
                have e0 : evD g vs e.1 n = 0 := by omega
                rw [e0] at cl2
                exact k _ qh2 ⟨cl2, i, ch_keep0 ch qs2⟩
              · skip
                have c6 : ¬ (evD g vs e.1 n) ≤ 0 := fun q => c6 ((nI_leI (a := (evD g vs e.1 n)) (b := 0) (by omega) (by omega)).mpr q)
                refine exf_go 3 (show wpC (d + 5) true 14 [.ref 42] h2 (fun _ h' => Go (d + 5) true 131 58 [.ref 10, .int 0, .int (nI (evD g vs e.1 n))] [] h' Q) from ?_)
                refine c_keep hp2.1 hp2.2 hi9 hm8 ?_
                have cd2 := cd_keep ch qs2 cl2 mk2
                have qk2 : Fq scH h _ := (qh2.uI' 42 1 (nI ((i + 1) % 9)) rfl).uI' 42 2 (nI (min 8 (e.2.1 + 1))) rfl
                show Go (d + 5) true 131 58 [.ref 10, .int 0, .int (nI (evD g vs e.1 n))] [] (uI (uI h2 42 1 (nI ((i + 1) % 9))) 42 2 (nI (min 8 (e.2.1 + 1)))) Q
                refine exf_go 2 (show Q (.int (nI (evD g vs e.1 n))) (uI (uI h2 42 1 (nI ((i + 1) % 9))) 42 2 (nI (min 8 (e.2.1 + 1)))) from ?_)
                simp only [dPerf, et, hq] at k; rw [if_pos (by omega)] at k; exact k _ qk2 cd2
            · skip
              exact absurd (((wf.2.2 87 0 rfl)).symm.trans c5) (by decide)
          · skip
            exact absurd (by decide) c4
      · skip
        exact absurd (((wf.2.2 87 0 rfl)).symm.trans c2) (by decide)
    · skip
      exact absurd (by decide) c1
  · skip
    subst etq
    show Go (d + 5) true 131 4 [.ref 10, .int 1, mk_] [.int 1] h Q
    refine exf_go 1 (show (¬ (1 : Int32) = 0 → Go (d + 5) true 131 10 [.ref 10, .int 1, mk_] [] h Q) ∧ (¬ (¬ (1 : Int32) = 0) → Go (d + 5) true 131 7 [.ref 10, .int 1, mk_] [] h Q) from ⟨fun c7 => ?_, fun c7 => ?_⟩)
    · skip
      refine exf_go 4 (show vp_in (1 : Int32) 4 ∧ (rN h 87 1 = true → Go (d + 5) true 131 16 [.ref 10, .int 1, mk_] [.ref 90] h Q) ∧ (rN h 87 1 = false → Go (d + 5) true 131 16 [.ref 10, .int 1, mk_] [.null] h Q) from ⟨vp_in_nI (n := 1) (by decide) (by decide), fun c8 => ?_, fun c8 => ?_⟩)
      · skip
        refine exf_go 1 (show wpC (d + 5) true 102 [.ref 90] h (fun r h' => Go (d + 5) true 131 19 [.ref 10, .int 1, mk_] [r] h' Q) from ?_)
        rcases hq : tr 1 with _ | ⟨so, n, vs⟩
        · skip
          have ct : CT 1 none h := by have := ca 1 (by decide); rw [hq] at this; exact this
          refine c_miss11 ct ?_
          show Go (d + 5) true 131 19 [.ref 10, .int 1, mk_] [.int 1] h Q
          refine exf_go 1 (show ((1 : Int32) = 0 → Go (d + 5) true 131 25 [.ref 10, .int 1, mk_] [] h Q) ∧ (¬ ((1 : Int32) = 0) → Go (d + 5) true 131 22 [.ref 10, .int 1, mk_] [] h Q) from ⟨fun c9 => ?_, fun c9 => ?_⟩)
          · skip
            exact absurd c9 (by decide)
          · skip
            refine exf_go 2 (show Q (.int (-6)) h from ?_)
            simp only [dPerf, et, hq] at k; exact k _ Fq.rfl' cd0
        · skip
          have ct : CT 1 (some (so, n, vs)) h := by have := ca 1 (by decide); rw [hq] at this; exact this
          have hn4 := ct.2.1; have hs3 := ct.1
          refine c_miss01 ct ?_
          show Go (d + 5) true 131 19 [.ref 10, .int 1, mk_] [.int 0] h Q
          refine exf_go 1 (show ((0 : Int32) = 0 → Go (d + 5) true 131 25 [.ref 10, .int 1, mk_] [] h Q) ∧ (¬ ((0 : Int32) = 0) → Go (d + 5) true 131 22 [.ref 10, .int 1, mk_] [] h Q) from ⟨fun c10 => ?_, fun c10 => ?_⟩)
          · skip
            refine exf_go 5 (show vp_in (1 : Int32) 4 ∧ (rN h 87 1 = true → Go (d + 5) true 131 32 [.ref 10, .int 1, mk_] [.ref 90, .ref 10] h Q) ∧ (rN h 87 1 = false → Go (d + 5) true 131 32 [.ref 10, .int 1, mk_] [.null, .ref 10] h Q) from ⟨vp_in_nI (n := 1) (by decide) (by decide), fun c11 => ?_, fun c11 => ?_⟩)
            · skip
              refine exf_go 5 (show wpC (d + 5) true 13 [.ref 42, .ref 39] h (fun r h' => Go (d + 5) true 131 43 [.ref 10, .int 1, mk_] [r, .ref 90, .ref 10] h' Q) from ?_)
              refine c_mark i hi9 wf cs.1 cl ch.2.2.1 (fun h1 q1 mk1 => ?_)
              have cs1 := cs_H cs (mk_H hi9 q1); have cl1 := cl_mk cl q1
              have qs1 : ∀ a, 42 ≤ a → a ≤ 70 → (a < 44 + 3 * i ∨ 46 + 3 * i < a) → rI h1 a = rI h a := fun a u v z => q1.I (fun x => sMk_f z)
              show Go (d + 5) true 131 43 [.ref 10, .int 1, mk_] [.ref (44 + 3 * i), .ref 90, .ref 10] h1 Q
              refine exf_go 1 (show wpC (d + 5) true 172 [.ref 10, .ref 90, .ref (44 + 3 * i)] h1 (fun r h' => Go (d + 5) true 131 46 [.ref 10, .int 1, mk_] [r] h' Q) from ?_)
              have ct1 := ct_H ct (mk_H hi9 q1); have wf1 := q1.gq.2.2.2.1 wf
              refine c_tryT1 hi9 cs1 cl1 mk1 ct1 (fun h2 c2 q2 cl2 mk2 => ?_)
              have qs2 := qs_lm qs1 q2; have hp2 := ch_p ch qs2; have qh2 : Fq scH h h2 := (mk_H hi9 q1).tr (lm_H hi9 q2)
              have cs2 := cs_H cs qh2; have wf2 := qh2.gq.2.2.2.1 wf; have ct2 := ct_H ct qh2; have hdl := evD_le g vs e.1 n; have hO2 := cl2.1.2.1
              show Go (d + 5) true 131 46 [.ref 10, .int 1, mk_] [.int (nI (evD g vs e.1 n))] h2 Q
              refine exf_go 3 (show ((nI (evD g vs e.1 n)) ≤ 0 → Go (d + 5) true 131 58 [.ref 10, .int 1, .int (nI (evD g vs e.1 n))] [] h2 Q) ∧ (¬ ((nI (evD g vs e.1 n)) ≤ 0) → Go (d + 5) true 131 51 [.ref 10, .int 1, .int (nI (evD g vs e.1 n))] [] h2 Q) from ⟨fun c12 => ?_, fun c12 => ?_⟩)
              · skip
                have c12 : (evD g vs e.1 n) ≤ 0 := (nI_leI (a := (evD g vs e.1 n)) (b := 0) (by omega) (by omega)).mp c12
                refine exf_go 2 (show Q (.int (nI (evD g vs e.1 n))) h2 from ?_)
                simp only [dPerf, et, hq] at k; rw [if_neg (by omega)] at k
                have e0 : evD g vs e.1 n = 0 := by omega
                rw [e0] at cl2
                exact k _ qh2 ⟨cl2, i, ch_keep0 ch qs2⟩
              · skip
                have c12 : ¬ (evD g vs e.1 n) ≤ 0 := fun q => c12 ((nI_leI (a := (evD g vs e.1 n)) (b := 0) (by omega) (by omega)).mpr q)
                refine exf_go 3 (show wpC (d + 5) true 14 [.ref 42] h2 (fun _ h' => Go (d + 5) true 131 58 [.ref 10, .int 1, .int (nI (evD g vs e.1 n))] [] h' Q) from ?_)
                refine c_keep hp2.1 hp2.2 hi9 hm8 ?_
                have cd2 := cd_keep ch qs2 cl2 mk2
                have qk2 : Fq scH h _ := (qh2.uI' 42 1 (nI ((i + 1) % 9)) rfl).uI' 42 2 (nI (min 8 (e.2.1 + 1))) rfl
                show Go (d + 5) true 131 58 [.ref 10, .int 1, .int (nI (evD g vs e.1 n))] [] (uI (uI h2 42 1 (nI ((i + 1) % 9))) 42 2 (nI (min 8 (e.2.1 + 1)))) Q
                refine exf_go 2 (show Q (.int (nI (evD g vs e.1 n))) (uI (uI h2 42 1 (nI ((i + 1) % 9))) 42 2 (nI (min 8 (e.2.1 + 1)))) from ?_)
                simp only [dPerf, et, hq] at k; rw [if_pos (by omega)] at k; exact k _ qk2 cd2
            · skip
              exact absurd (((wf.2.2 87 1 rfl)).symm.trans c11) (by decide)
          · skip
            exact absurd (by decide) c10
      · skip
        exact absurd (((wf.2.2 87 1 rfl)).symm.trans c8) (by decide)
    · skip
      exact absurd (by decide) c7
  · skip
    subst etq
    show Go (d + 5) true 131 4 [.ref 10, .int 2, mk_] [.int 1] h Q
    refine exf_go 1 (show (¬ (1 : Int32) = 0 → Go (d + 5) true 131 10 [.ref 10, .int 2, mk_] [] h Q) ∧ (¬ (¬ (1 : Int32) = 0) → Go (d + 5) true 131 7 [.ref 10, .int 2, mk_] [] h Q) from ⟨fun c13 => ?_, fun c13 => ?_⟩)
    · skip
      refine exf_go 4 (show vp_in (2 : Int32) 4 ∧ (rN h 87 2 = true → Go (d + 5) true 131 16 [.ref 10, .int 2, mk_] [.ref 92] h Q) ∧ (rN h 87 2 = false → Go (d + 5) true 131 16 [.ref 10, .int 2, mk_] [.null] h Q) from ⟨vp_in_nI (n := 2) (by decide) (by decide), fun c14 => ?_, fun c14 => ?_⟩)
      · skip
        refine exf_go 1 (show wpC (d + 5) true 102 [.ref 92] h (fun r h' => Go (d + 5) true 131 19 [.ref 10, .int 2, mk_] [r] h' Q) from ?_)
        rcases hq : tr 2 with _ | ⟨so, n, vs⟩
        · skip
          have ct : CT 2 none h := by have := ca 2 (by decide); rw [hq] at this; exact this
          refine c_miss12 ct ?_
          show Go (d + 5) true 131 19 [.ref 10, .int 2, mk_] [.int 1] h Q
          refine exf_go 1 (show ((1 : Int32) = 0 → Go (d + 5) true 131 25 [.ref 10, .int 2, mk_] [] h Q) ∧ (¬ ((1 : Int32) = 0) → Go (d + 5) true 131 22 [.ref 10, .int 2, mk_] [] h Q) from ⟨fun c15 => ?_, fun c15 => ?_⟩)
          · skip
            exact absurd c15 (by decide)
          · skip
            refine exf_go 2 (show Q (.int (-6)) h from ?_)
            simp only [dPerf, et, hq] at k; exact k _ Fq.rfl' cd0
        · skip
          have ct : CT 2 (some (so, n, vs)) h := by have := ca 2 (by decide); rw [hq] at this; exact this
          have hn4 := ct.2.1; have hs3 := ct.1
          refine c_miss02 ct ?_
          show Go (d + 5) true 131 19 [.ref 10, .int 2, mk_] [.int 0] h Q
          refine exf_go 1 (show ((0 : Int32) = 0 → Go (d + 5) true 131 25 [.ref 10, .int 2, mk_] [] h Q) ∧ (¬ ((0 : Int32) = 0) → Go (d + 5) true 131 22 [.ref 10, .int 2, mk_] [] h Q) from ⟨fun c16 => ?_, fun c16 => ?_⟩)
          · skip
            refine exf_go 5 (show vp_in (2 : Int32) 4 ∧ (rN h 87 2 = true → Go (d + 5) true 131 32 [.ref 10, .int 2, mk_] [.ref 92, .ref 10] h Q) ∧ (rN h 87 2 = false → Go (d + 5) true 131 32 [.ref 10, .int 2, mk_] [.null, .ref 10] h Q) from ⟨vp_in_nI (n := 2) (by decide) (by decide), fun c17 => ?_, fun c17 => ?_⟩)
            · skip
              refine exf_go 5 (show wpC (d + 5) true 13 [.ref 42, .ref 39] h (fun r h' => Go (d + 5) true 131 43 [.ref 10, .int 2, mk_] [r, .ref 92, .ref 10] h' Q) from ?_)
              refine c_mark i hi9 wf cs.1 cl ch.2.2.1 (fun h1 q1 mk1 => ?_)
              have cs1 := cs_H cs (mk_H hi9 q1); have cl1 := cl_mk cl q1
              have qs1 : ∀ a, 42 ≤ a → a ≤ 70 → (a < 44 + 3 * i ∨ 46 + 3 * i < a) → rI h1 a = rI h a := fun a u v z => q1.I (fun x => sMk_f z)
              show Go (d + 5) true 131 43 [.ref 10, .int 2, mk_] [.ref (44 + 3 * i), .ref 92, .ref 10] h1 Q
              refine exf_go 1 (show wpC (d + 5) true 172 [.ref 10, .ref 92, .ref (44 + 3 * i)] h1 (fun r h' => Go (d + 5) true 131 46 [.ref 10, .int 2, mk_] [r] h' Q) from ?_)
              have ct1 := ct_H ct (mk_H hi9 q1); have wf1 := q1.gq.2.2.2.1 wf
              refine c_tryT2 hi9 cs1 cl1 mk1 ct1 (fun h2 c2 q2 cl2 mk2 => ?_)
              have qs2 := qs_lm qs1 q2; have hp2 := ch_p ch qs2; have qh2 : Fq scH h h2 := (mk_H hi9 q1).tr (lm_H hi9 q2)
              have cs2 := cs_H cs qh2; have wf2 := qh2.gq.2.2.2.1 wf; have ct2 := ct_H ct qh2; have hdl := evD_le g vs e.1 n; have hO2 := cl2.1.2.1
              show Go (d + 5) true 131 46 [.ref 10, .int 2, mk_] [.int (nI (evD g vs e.1 n))] h2 Q
              refine exf_go 3 (show ((nI (evD g vs e.1 n)) ≤ 0 → Go (d + 5) true 131 58 [.ref 10, .int 2, .int (nI (evD g vs e.1 n))] [] h2 Q) ∧ (¬ ((nI (evD g vs e.1 n)) ≤ 0) → Go (d + 5) true 131 51 [.ref 10, .int 2, .int (nI (evD g vs e.1 n))] [] h2 Q) from ⟨fun c18 => ?_, fun c18 => ?_⟩)
              · skip
                have c18 : (evD g vs e.1 n) ≤ 0 := (nI_leI (a := (evD g vs e.1 n)) (b := 0) (by omega) (by omega)).mp c18
                refine exf_go 2 (show Q (.int (nI (evD g vs e.1 n))) h2 from ?_)
                simp only [dPerf, et, hq] at k; rw [if_neg (by omega)] at k
                have e0 : evD g vs e.1 n = 0 := by omega
                rw [e0] at cl2
                exact k _ qh2 ⟨cl2, i, ch_keep0 ch qs2⟩
              · skip
                have c18 : ¬ (evD g vs e.1 n) ≤ 0 := fun q => c18 ((nI_leI (a := (evD g vs e.1 n)) (b := 0) (by omega) (by omega)).mpr q)
                refine exf_go 3 (show wpC (d + 5) true 14 [.ref 42] h2 (fun _ h' => Go (d + 5) true 131 58 [.ref 10, .int 2, .int (nI (evD g vs e.1 n))] [] h' Q) from ?_)
                refine c_keep hp2.1 hp2.2 hi9 hm8 ?_
                have cd2 := cd_keep ch qs2 cl2 mk2
                have qk2 : Fq scH h _ := (qh2.uI' 42 1 (nI ((i + 1) % 9)) rfl).uI' 42 2 (nI (min 8 (e.2.1 + 1))) rfl
                show Go (d + 5) true 131 58 [.ref 10, .int 2, .int (nI (evD g vs e.1 n))] [] (uI (uI h2 42 1 (nI ((i + 1) % 9))) 42 2 (nI (min 8 (e.2.1 + 1)))) Q
                refine exf_go 2 (show Q (.int (nI (evD g vs e.1 n))) (uI (uI h2 42 1 (nI ((i + 1) % 9))) 42 2 (nI (min 8 (e.2.1 + 1)))) from ?_)
                simp only [dPerf, et, hq] at k; rw [if_pos (by omega)] at k; exact k _ qk2 cd2
            · skip
              exact absurd (((wf.2.2 87 2 rfl)).symm.trans c17) (by decide)
          · skip
            exact absurd (by decide) c16
      · skip
        exact absurd (((wf.2.2 87 2 rfl)).symm.trans c14) (by decide)
    · skip
      exact absurd (by decide) c13
  · skip
    subst etq
    show Go (d + 5) true 131 4 [.ref 10, .int 3, mk_] [.int 1] h Q
    refine exf_go 1 (show (¬ (1 : Int32) = 0 → Go (d + 5) true 131 10 [.ref 10, .int 3, mk_] [] h Q) ∧ (¬ (¬ (1 : Int32) = 0) → Go (d + 5) true 131 7 [.ref 10, .int 3, mk_] [] h Q) from ⟨fun c19 => ?_, fun c19 => ?_⟩)
    · skip
      refine exf_go 4 (show vp_in (3 : Int32) 4 ∧ (rN h 87 3 = true → Go (d + 5) true 131 16 [.ref 10, .int 3, mk_] [.ref 94] h Q) ∧ (rN h 87 3 = false → Go (d + 5) true 131 16 [.ref 10, .int 3, mk_] [.null] h Q) from ⟨vp_in_nI (n := 3) (by decide) (by decide), fun c20 => ?_, fun c20 => ?_⟩)
      · skip
        refine exf_go 1 (show wpC (d + 5) true 102 [.ref 94] h (fun r h' => Go (d + 5) true 131 19 [.ref 10, .int 3, mk_] [r] h' Q) from ?_)
        rcases hq : tr 3 with _ | ⟨so, n, vs⟩
        · skip
          have ct : CT 3 none h := by have := ca 3 (by decide); rw [hq] at this; exact this
          refine c_miss13 ct ?_
          show Go (d + 5) true 131 19 [.ref 10, .int 3, mk_] [.int 1] h Q
          refine exf_go 1 (show ((1 : Int32) = 0 → Go (d + 5) true 131 25 [.ref 10, .int 3, mk_] [] h Q) ∧ (¬ ((1 : Int32) = 0) → Go (d + 5) true 131 22 [.ref 10, .int 3, mk_] [] h Q) from ⟨fun c21 => ?_, fun c21 => ?_⟩)
          · skip
            exact absurd c21 (by decide)
          · skip
            refine exf_go 2 (show Q (.int (-6)) h from ?_)
            simp only [dPerf, et, hq] at k; exact k _ Fq.rfl' cd0
        · skip
          have ct : CT 3 (some (so, n, vs)) h := by have := ca 3 (by decide); rw [hq] at this; exact this
          have hn4 := ct.2.1; have hs3 := ct.1
          refine c_miss03 ct ?_
          show Go (d + 5) true 131 19 [.ref 10, .int 3, mk_] [.int 0] h Q
          refine exf_go 1 (show ((0 : Int32) = 0 → Go (d + 5) true 131 25 [.ref 10, .int 3, mk_] [] h Q) ∧ (¬ ((0 : Int32) = 0) → Go (d + 5) true 131 22 [.ref 10, .int 3, mk_] [] h Q) from ⟨fun c22 => ?_, fun c22 => ?_⟩)
          · skip
            refine exf_go 5 (show vp_in (3 : Int32) 4 ∧ (rN h 87 3 = true → Go (d + 5) true 131 32 [.ref 10, .int 3, mk_] [.ref 94, .ref 10] h Q) ∧ (rN h 87 3 = false → Go (d + 5) true 131 32 [.ref 10, .int 3, mk_] [.null, .ref 10] h Q) from ⟨vp_in_nI (n := 3) (by decide) (by decide), fun c23 => ?_, fun c23 => ?_⟩)
            · skip
              refine exf_go 5 (show wpC (d + 5) true 13 [.ref 42, .ref 39] h (fun r h' => Go (d + 5) true 131 43 [.ref 10, .int 3, mk_] [r, .ref 94, .ref 10] h' Q) from ?_)
              refine c_mark i hi9 wf cs.1 cl ch.2.2.1 (fun h1 q1 mk1 => ?_)
              have cs1 := cs_H cs (mk_H hi9 q1); have cl1 := cl_mk cl q1
              have qs1 : ∀ a, 42 ≤ a → a ≤ 70 → (a < 44 + 3 * i ∨ 46 + 3 * i < a) → rI h1 a = rI h a := fun a u v z => q1.I (fun x => sMk_f z)
              show Go (d + 5) true 131 43 [.ref 10, .int 3, mk_] [.ref (44 + 3 * i), .ref 94, .ref 10] h1 Q
              refine exf_go 1 (show wpC (d + 5) true 172 [.ref 10, .ref 94, .ref (44 + 3 * i)] h1 (fun r h' => Go (d + 5) true 131 46 [.ref 10, .int 3, mk_] [r] h' Q) from ?_)
              have ct1 := ct_H ct (mk_H hi9 q1); have wf1 := q1.gq.2.2.2.1 wf
              refine c_tryT3 hi9 cs1 cl1 mk1 ct1 (fun h2 c2 q2 cl2 mk2 => ?_)
              have qs2 := qs_lm qs1 q2; have hp2 := ch_p ch qs2; have qh2 : Fq scH h h2 := (mk_H hi9 q1).tr (lm_H hi9 q2)
              have cs2 := cs_H cs qh2; have wf2 := qh2.gq.2.2.2.1 wf; have ct2 := ct_H ct qh2; have hdl := evD_le g vs e.1 n; have hO2 := cl2.1.2.1
              show Go (d + 5) true 131 46 [.ref 10, .int 3, mk_] [.int (nI (evD g vs e.1 n))] h2 Q
              refine exf_go 3 (show ((nI (evD g vs e.1 n)) ≤ 0 → Go (d + 5) true 131 58 [.ref 10, .int 3, .int (nI (evD g vs e.1 n))] [] h2 Q) ∧ (¬ ((nI (evD g vs e.1 n)) ≤ 0) → Go (d + 5) true 131 51 [.ref 10, .int 3, .int (nI (evD g vs e.1 n))] [] h2 Q) from ⟨fun c24 => ?_, fun c24 => ?_⟩)
              · skip
                have c24 : (evD g vs e.1 n) ≤ 0 := (nI_leI (a := (evD g vs e.1 n)) (b := 0) (by omega) (by omega)).mp c24
                refine exf_go 2 (show Q (.int (nI (evD g vs e.1 n))) h2 from ?_)
                simp only [dPerf, et, hq] at k; rw [if_neg (by omega)] at k
                have e0 : evD g vs e.1 n = 0 := by omega
                rw [e0] at cl2
                exact k _ qh2 ⟨cl2, i, ch_keep0 ch qs2⟩
              · skip
                have c24 : ¬ (evD g vs e.1 n) ≤ 0 := fun q => c24 ((nI_leI (a := (evD g vs e.1 n)) (b := 0) (by omega) (by omega)).mpr q)
                refine exf_go 3 (show wpC (d + 5) true 14 [.ref 42] h2 (fun _ h' => Go (d + 5) true 131 58 [.ref 10, .int 3, .int (nI (evD g vs e.1 n))] [] h' Q) from ?_)
                refine c_keep hp2.1 hp2.2 hi9 hm8 ?_
                have cd2 := cd_keep ch qs2 cl2 mk2
                have qk2 : Fq scH h _ := (qh2.uI' 42 1 (nI ((i + 1) % 9)) rfl).uI' 42 2 (nI (min 8 (e.2.1 + 1))) rfl
                show Go (d + 5) true 131 58 [.ref 10, .int 3, .int (nI (evD g vs e.1 n))] [] (uI (uI h2 42 1 (nI ((i + 1) % 9))) 42 2 (nI (min 8 (e.2.1 + 1)))) Q
                refine exf_go 2 (show Q (.int (nI (evD g vs e.1 n))) (uI (uI h2 42 1 (nI ((i + 1) % 9))) 42 2 (nI (min 8 (e.2.1 + 1)))) from ?_)
                simp only [dPerf, et, hq] at k; rw [if_pos (by omega)] at k; exact k _ qk2 cd2
            · skip
              exact absurd (((wf.2.2 87 3 rfl)).symm.trans c23) (by decide)
          · skip
            exact absurd (by decide) c22
      · skip
        exact absurd (((wf.2.2 87 3 rfl)).symm.trans c20) (by decide)
    · skip
      exact absurd (by decide) c19
  · skip
    show Go (d + 5) true 131 4 [.ref 10, .int x, mk_] [.int 0] h Q
    refine exf_go 1 (show (¬ (0 : Int32) = 0 → Go (d + 5) true 131 10 [.ref 10, .int x, mk_] [] h Q) ∧ (¬ (¬ (0 : Int32) = 0) → Go (d + 5) true 131 7 [.ref 10, .int x, mk_] [] h Q) from ⟨fun c25 => ?_, fun c25 => ?_⟩)
    · skip
      exact absurd c25 (by decide)
    · skip
      refine exf_go 2 (show Q (.int (-2)) h from ?_)
      simp only [dPerf, et] at k; exact k _ Fq.rfl' cd0
theorem c_judge {d : Nat} {h : Hp} {g : ShG} {e : DeG} {tr : Nat → TrG} {x y : Int32} {Q : Po} (wf : WF h) (cs : CS 31 g h) (cd : CD g e h) (ca : CTA tr h) (k : ∀ h1, Fq scH h h1 → CD g e h1 → Q (.int (fJudge g e.1 tr x y)) h1) : wpC (d + 6) true 130 [.ref 10, .int x, .int y] h Q := by
  have hN := tot_b cs.1
  have h4 := cs.1.1
  have cd0 := cd
  obtain ⟨cl, i, ch⟩ := cd
  have hi9 := ch.1; have hm8 := ch.2.1; have hO1 := cl.1.2.1
  refine go_in rfl ?_
  refine exf_go 2 (show wpC (d + 5) true 159 [.int x] h (fun r h' => Go (d + 5) true 130 4 [.ref 10, .int x, .int y, mk_, mk_, mk_, mk_] [r] h' Q) from ?_)
  refine c_isTray (x := x) (fun et etq => ?_) (fun et etq => ?_) (fun et etq => ?_) (fun et etq => ?_) (fun et => ?_)
  · skip
    subst etq
    show Go (d + 5) true 130 4 [.ref 10, .int 0, .int y, mk_, mk_, mk_, mk_] [.int 1] h Q
    refine exf_go 1 (show ((1 : Int32) = 0 → Go (d + 5) true 130 16 [.ref 10, .int 0, .int y, mk_, mk_, mk_, mk_] [] h Q) ∧ (¬ ((1 : Int32) = 0) → Go (d + 5) true 130 7 [.ref 10, .int 0, .int y, mk_, mk_, mk_, mk_] [] h Q) from ⟨fun c1 => ?_, fun c1 => ?_⟩)
    · skip
      exact absurd c1 (by decide)
    · skip
      refine exf_go 2 (show (y < 0 → Go (d + 5) true 130 16 [.ref 10, .int 0, .int y, mk_, mk_, mk_, mk_] [] h Q) ∧ (¬ (y < 0) → Go (d + 5) true 130 11 [.ref 10, .int 0, .int y, mk_, mk_, mk_, mk_] [] h Q) from ⟨fun c2 => ?_, fun c2 => ?_⟩)
      · skip
        have ey : ixN y 4 = none := ix_neg c2
        refine exf_go 2 (show Q (.int (-2)) h from ?_)
        first | (simp only [fJudge, et] at k; exact k _ Fq.rfl' cd0) | (simp only [fJudge, et, ey] at k; exact k _ Fq.rfl' cd0)
      · skip
        refine exf_go 3 (show (y ≤ 3 → Go (d + 5) true 130 19 [.ref 10, .int 0, .int y, mk_, mk_, mk_, mk_] [] h Q) ∧ (¬ (y ≤ 3) → Go (d + 5) true 130 16 [.ref 10, .int 0, .int y, mk_, mk_, mk_, mk_] [] h Q) from ⟨fun c3 => ?_, fun c3 => ?_⟩)
        · skip
          obtain ⟨jy, ey, eyq, eyr⟩ := ix_le (n := 3) (by omega) c2 c3
          subst eyq
          refine exf_go 4 (show vp_in (0 : Int32) 4 ∧ (rN h 87 0 = true → Go (d + 5) true 130 25 [.ref 10, .int 0, .int (nI jy), mk_, mk_, mk_, mk_] [.ref 88] h Q) ∧ (rN h 87 0 = false → Go (d + 5) true 130 25 [.ref 10, .int 0, .int (nI jy), mk_, mk_, mk_, mk_] [.null] h Q) from ⟨vp_in_nI (n := 0) (by decide) (by decide), fun c4 => ?_, fun c4 => ?_⟩)
          · skip
            refine exf_go 1 (show wpC (d + 5) true 102 [.ref 88] h (fun r h' => Go (d + 5) true 130 28 [.ref 10, .int 0, .int (nI jy), mk_, mk_, mk_, mk_] [r] h' Q) from ?_)
            rcases hq : tr 0 with _ | ⟨so, n, vs⟩
            · skip
              have ct : CT 0 none h := by have := ca 0 (by decide); rw [hq] at this; exact this
              refine c_miss10 ct ?_
              show Go (d + 5) true 130 28 [.ref 10, .int 0, .int (nI jy), mk_, mk_, mk_, mk_] [.int 1] h Q
              refine exf_go 1 (show ((1 : Int32) = 0 → Go (d + 5) true 130 34 [.ref 10, .int 0, .int (nI jy), mk_, mk_, mk_, mk_] [] h Q) ∧ (¬ ((1 : Int32) = 0) → Go (d + 5) true 130 31 [.ref 10, .int 0, .int (nI jy), mk_, mk_, mk_, mk_] [] h Q) from ⟨fun c5 => ?_, fun c5 => ?_⟩)
              · skip
                exact absurd c5 (by decide)
              · skip
                refine exf_go 2 (show Q (.int (-6)) h from ?_)
                simp only [fJudge, et, ey, hq] at k; exact k _ Fq.rfl' cd0
            · skip
              have ct : CT 0 (some (so, n, vs)) h := by have := ca 0 (by decide); rw [hq] at this; exact this
              have hn4 := ct.2.1; have hs3 := ct.1
              refine c_miss00 ct ?_
              show Go (d + 5) true 130 28 [.ref 10, .int 0, .int (nI jy), mk_, mk_, mk_, mk_] [.int 0] h Q
              refine exf_go 1 (show ((0 : Int32) = 0 → Go (d + 5) true 130 34 [.ref 10, .int 0, .int (nI jy), mk_, mk_, mk_, mk_] [] h Q) ∧ (¬ ((0 : Int32) = 0) → Go (d + 5) true 130 31 [.ref 10, .int 0, .int (nI jy), mk_, mk_, mk_, mk_] [] h Q) from ⟨fun c6 => ?_, fun c6 => ?_⟩)
              · skip
                refine exf_go 3 (show Go (d + 5) true 130 41 [.ref 10, .int 0, .int (nI jy), mk_, mk_, mk_, mk_] [.int (rI h 39 4)] h Q from ?_)
                rw [show (rI h 39 4 : Int32) = lX e.1 from cl_X cl]
                refine exf_go 6 (show wpC (d + 5) true 13 [.ref 42, .ref 39] h (fun r h' => Go (d + 5) true 130 53 [.ref 10, .int 0, .int (nI jy), .int (lX e.1), mk_, mk_, mk_] [r] h' Q) from ?_)
                refine c_mark i hi9 wf cs.1 cl ch.2.2.1 (fun h1 q1 mk1 => ?_)
                have cs1 := cs_H cs (mk_H hi9 q1); have cl1 := cl_mk cl q1
                have qs1 : ∀ a, 42 ≤ a → a ≤ 70 → (a < 44 + 3 * i ∨ 46 + 3 * i < a) → rI h1 a = rI h a := fun a u v z => q1.I (fun x => sMk_f z)
                have wf1 := q1.gq.2.2.2.1 wf
                show Go (d + 5) true 130 53 [.ref 10, .int 0, .int (nI jy), .int (lX e.1), mk_, mk_, mk_] [.ref (44 + 3 * i)] h1 Q
                refine exf_go 6 (show vp_in (0 : Int32) 4 ∧ (rN h1 87 0 = true → Go (d + 5) true 130 62 [.ref 10, .int 0, .int (nI jy), .int (lX e.1), .ref (44 + 3 * i), mk_, mk_] [.ref 88, .ref 10] h1 Q) ∧ (rN h1 87 0 = false → Go (d + 5) true 130 62 [.ref 10, .int 0, .int (nI jy), .int (lX e.1), .ref (44 + 3 * i), mk_, mk_] [.null, .ref 10] h1 Q) from ⟨vp_in_nI (n := 0) (by decide) (by decide), fun c7 => ?_, fun c7 => ?_⟩)
                · skip
                  refine exf_go 2 (show wpC (d + 5) true 172 [.ref 10, .ref 88, .ref (44 + 3 * i)] h1 (fun r h' => Go (d + 5) true 130 67 [.ref 10, .int 0, .int (nI jy), .int (lX e.1), .ref (44 + 3 * i), mk_, mk_] [r] h' Q) from ?_)
                  have ct1 := ct_H ct (mk_H hi9 q1); have wf1 := q1.gq.2.2.2.1 wf
                  refine c_tryT0 hi9 cs1 cl1 mk1 ct1 (fun h2 c2 q2 cl2 mk2 => ?_)
                  have qs2 := qs_lm qs1 q2; have hp2 := ch_p ch qs2; have qh2 : Fq scH h h2 := (mk_H hi9 q1).tr (lm_H hi9 q2)
                  have cs2 := cs_H cs qh2; have wf2 := qh2.gq.2.2.2.1 wf; have ct2 := ct_H ct qh2; have hdl := evD_le g vs e.1 n; have hO2 := cl2.1.2.1
                  show Go (d + 5) true 130 67 [.ref 10, .int 0, .int (nI jy), .int (lX e.1), .ref (44 + 3 * i), mk_, mk_] [.int (nI (evD g vs e.1 n))] h2 Q
                  refine exf_go 3 (show (¬ (nI jy) = 0 → Go (d + 5) true 130 98 [.ref 10, .int 0, .int (nI jy), .int (lX e.1), .ref (44 + 3 * i), .int (nI (evD g vs e.1 n)), mk_] [] h2 Q) ∧ (¬ (¬ (nI jy) = 0) → Go (d + 5) true 130 73 [.ref 10, .int 0, .int (nI jy), .int (lX e.1), .ref (44 + 3 * i), .int (nI (evD g vs e.1 n)), mk_] [] h2 Q) from ⟨fun c8 => ?_, fun c8 => ?_⟩)
                  · skip
                    have c8 : ¬ jy = 0 := fun q => c8 ((nI_eq (a := jy) (b := 0) (by omega) (by omega)).mpr q)
                    refine exf_go 3 (show (¬ (nI jy) = 1 → Go (d + 5) true 130 117 [.ref 10, .int 0, .int (nI jy), .int (lX e.1), .ref (44 + 3 * i), .int (nI (evD g vs e.1 n)), mk_] [] h2 Q) ∧ (¬ (¬ (nI jy) = 1) → Go (d + 5) true 130 103 [.ref 10, .int 0, .int (nI jy), .int (lX e.1), .ref (44 + 3 * i), .int (nI (evD g vs e.1 n)), mk_] [] h2 Q) from ⟨fun c9 => ?_, fun c9 => ?_⟩)
                    · skip
                      have c9 : ¬ jy = 1 := fun q => c9 ((nI_eq (a := jy) (b := 1) (by omega) (by omega)).mpr q)
                      refine exf_go 3 (show (¬ (nI jy) = 2 → Go (d + 5) true 130 142 [.ref 10, .int 0, .int (nI jy), .int (lX e.1), .ref (44 + 3 * i), .int (nI (evD g vs e.1 n)), mk_] [] h2 Q) ∧ (¬ (¬ (nI jy) = 2) → Go (d + 5) true 130 122 [.ref 10, .int 0, .int (nI jy), .int (lX e.1), .ref (44 + 3 * i), .int (nI (evD g vs e.1 n)), mk_] [] h2 Q) from ⟨fun c10 => ?_, fun c10 => ?_⟩)
                      · skip
                        have c10 : ¬ jy = 2 := fun q => c10 ((nI_eq (a := jy) (b := 2) (by omega) (by omega)).mpr q)
                        refine exf_go 3 (show wpC (d + 5) true 33 [.ref 39] h2 (fun r h' => Go (d + 5) true 130 149 [.ref 10, .int 0, .int (nI jy), .int (lX e.1), .ref (44 + 3 * i), .int (nI (evD g vs e.1 n)), mk_] [r] h' Q) from ?_)
                        refine c_leftOnes cs2 cl2 ?_
                        show Go (d + 5) true 130 149 [.ref 10, .int 0, .int (nI jy), .int (lX e.1), .ref (44 + 3 * i), .int (nI (evD g vs e.1 n)), mk_] [.int (nI (cntN (lft g (evL g vs e.1 (evD g vs e.1 n))) (tot g)))] h2 Q
                        refine exf_go 7 (show wpC (d + 5) true 36 [.ref 39, .ref 31, .ref (44 + 3 * i)] h2 (fun _ h' => Go (d + 5) true 130 164 [.ref 10, .int 0, .int (nI jy), .int (lX e.1), .ref (44 + 3 * i), .int (nI (evD g vs e.1 n)), .int (nI (cntN (lft g (evL g vs e.1 (evD g vs e.1 n))) (tot g)))] [] h' Q) from ?_)
                        refine c_takeBack i hi9 cs2 cl2 mk2 (fun h3 q3 cl3 => ?_)
                        have qs3 : ∀ a, 42 ≤ a → a ≤ 70 → (a < 44 + 3 * i ∨ 46 + 3 * i < a) → rI h3 a = rI h a := fun a u v z => (q3.I (fun x => sL3_f (by omega))).trans (qs2 a u v z)
                        show Go (d + 5) true 130 164 [.ref 10, .int 0, .int (nI jy), .int (lX e.1), .ref (44 + 3 * i), .int (nI (evD g vs e.1 n)), .int (nI (cntN (lft g (evL g vs e.1 (evD g vs e.1 n))) (tot g)))] [] h3 Q
                        refine exf_go 2 (show Q (.int (nI (cntN (lft g (evL g vs e.1 (evD g vs e.1 n))) (tot g)))) h3 from ?_)
                        simp only [fJudge, et, ey, hq] at k
                        have kk := k h3 (qh2.tr (l3_H q3)) ⟨cl3, i, ch_keep0 ch qs3⟩
                        rw [if_neg (by omega), if_neg (by omega), if_neg (by omega)] at kk; exact kk
                      · skip
                        have c10 : jy = 2 := (nI_eq (a := jy) (b := 2) (by omega) (by omega)).mp (Classical.not_not.mp c10)
                        refine exf_go 3 (show Go (d + 5) true 130 129 [.ref 10, .int 0, .int (nI jy), .int (lX e.1), .ref (44 + 3 * i), .int (nI (evD g vs e.1 n)), mk_] [.int (rI h2 39 7)] h2 Q from ?_)
                        rw [show (rI h2 39 7 : Int32) = nI (lO (evL g vs e.1 (evD g vs e.1 n))) from cl_O cl2]
                        refine exf_go 1 (show ((nI (lO (evL g vs e.1 (evD g vs e.1 n)))) = 0 → Go (d + 5) true 130 136 [.ref 10, .int 0, .int (nI jy), .int (lX e.1), .ref (44 + 3 * i), .int (nI (evD g vs e.1 n)), mk_] [] h2 Q) ∧ (¬ ((nI (lO (evL g vs e.1 (evD g vs e.1 n)))) = 0) → Go (d + 5) true 130 132 [.ref 10, .int 0, .int (nI jy), .int (lX e.1), .ref (44 + 3 * i), .int (nI (evD g vs e.1 n)), mk_] [] h2 Q) from ⟨fun c11 => ?_, fun c11 => ?_⟩)
                        · skip
                          have c11 : (lO (evL g vs e.1 (evD g vs e.1 n))) = 0 := (nI_eq (a := (lO (evL g vs e.1 (evD g vs e.1 n)))) (b := 0) (by omega) (by omega)).mp c11
                          refine exf_go 9 (show wpC (d + 5) true 36 [.ref 39, .ref 31, .ref (44 + 3 * i)] h2 (fun _ h' => Go (d + 5) true 130 164 [.ref 10, .int 0, .int (nI jy), .int (lX e.1), .ref (44 + 3 * i), .int (nI (evD g vs e.1 n)), .int 0] [] h' Q) from ?_)
                          refine c_takeBack i hi9 cs2 cl2 mk2 (fun h3 q3 cl3 => ?_)
                          have qs3 : ∀ a, 42 ≤ a → a ≤ 70 → (a < 44 + 3 * i ∨ 46 + 3 * i < a) → rI h3 a = rI h a := fun a u v z => (q3.I (fun x => sL3_f (by omega))).trans (qs2 a u v z)
                          show Go (d + 5) true 130 164 [.ref 10, .int 0, .int (nI jy), .int (lX e.1), .ref (44 + 3 * i), .int (nI (evD g vs e.1 n)), .int 0] [] h3 Q
                          refine exf_go 2 (show Q (.int 0) h3 from ?_)
                          simp only [fJudge, et, ey, hq] at k
                          have kk := k h3 (qh2.tr (l3_H q3)) ⟨cl3, i, ch_keep0 ch qs3⟩
                          rw [if_neg (by omega), if_neg (by omega), if_pos (by omega), show lO (evL g vs e.1 (evD g vs e.1 n)) = 0 from by omega] at kk; exact kk
                        · skip
                          have c11 : ¬ (lO (evL g vs e.1 (evD g vs e.1 n))) = 0 := fun q => c11 ((nI_eq (a := (lO (evL g vs e.1 (evD g vs e.1 n)))) (b := 0) (by omega) (by omega)).mpr q)
                          refine exf_go 10 (show wpC (d + 5) true 36 [.ref 39, .ref 31, .ref (44 + 3 * i)] h2 (fun _ h' => Go (d + 5) true 130 164 [.ref 10, .int 0, .int (nI jy), .int (lX e.1), .ref (44 + 3 * i), .int (nI (evD g vs e.1 n)), .int 1] [] h' Q) from ?_)
                          refine c_takeBack i hi9 cs2 cl2 mk2 (fun h3 q3 cl3 => ?_)
                          have qs3 : ∀ a, 42 ≤ a → a ≤ 70 → (a < 44 + 3 * i ∨ 46 + 3 * i < a) → rI h3 a = rI h a := fun a u v z => (q3.I (fun x => sL3_f (by omega))).trans (qs2 a u v z)
                          show Go (d + 5) true 130 164 [.ref 10, .int 0, .int (nI jy), .int (lX e.1), .ref (44 + 3 * i), .int (nI (evD g vs e.1 n)), .int 1] [] h3 Q
                          refine exf_go 2 (show Q (.int 1) h3 from ?_)
                          simp only [fJudge, et, ey, hq] at k
                          have kk := k h3 (qh2.tr (l3_H q3)) ⟨cl3, i, ch_keep0 ch qs3⟩
                          rw [if_neg (by omega), if_neg (by omega), if_pos (by omega), show lO (evL g vs e.1 (evD g vs e.1 n)) = 1 from by omega] at kk; exact kk
                    · skip
                      have c9 : jy = 1 := (nI_eq (a := jy) (b := 1) (by omega) (by omega)).mp (Classical.not_not.mp c9)
                      refine exf_go 3 (show Go (d + 5) true 130 110 [.ref 10, .int 0, .int (nI jy), .int (lX e.1), .ref (44 + 3 * i), .int (nI (evD g vs e.1 n)), mk_] [.int (rI h2 39 4)] h2 Q from ?_)
                      rw [show (rI h2 39 4 : Int32) = lX (evL g vs e.1 (evD g vs e.1 n)) from cl_X cl2]
                      refine exf_go 10 (show wpC (d + 5) true 36 [.ref 39, .ref 31, .ref (44 + 3 * i)] h2 (fun _ h' => Go (d + 5) true 130 164 [.ref 10, .int 0, .int (nI jy), .int (lX e.1), .ref (44 + 3 * i), .int (nI (evD g vs e.1 n)), .int ((lX (evL g vs e.1 (evD g vs e.1 n))) - (lX e.1))] [] h' Q) from ?_)
                      refine c_takeBack i hi9 cs2 cl2 mk2 (fun h3 q3 cl3 => ?_)
                      have qs3 : ∀ a, 42 ≤ a → a ≤ 70 → (a < 44 + 3 * i ∨ 46 + 3 * i < a) → rI h3 a = rI h a := fun a u v z => (q3.I (fun x => sL3_f (by omega))).trans (qs2 a u v z)
                      show Go (d + 5) true 130 164 [.ref 10, .int 0, .int (nI jy), .int (lX e.1), .ref (44 + 3 * i), .int (nI (evD g vs e.1 n)), .int ((lX (evL g vs e.1 (evD g vs e.1 n))) - (lX e.1))] [] h3 Q
                      refine exf_go 2 (show Q (.int ((lX (evL g vs e.1 (evD g vs e.1 n))) - (lX e.1))) h3 from ?_)
                      simp only [fJudge, et, ey, hq] at k
                      have kk := k h3 (qh2.tr (l3_H q3)) ⟨cl3, i, ch_keep0 ch qs3⟩
                      rw [if_neg (by omega), if_pos (by omega)] at kk; exact kk
                  · skip
                    have c8 : jy = 0 := (nI_eq (a := jy) (b := 0) (by omega) (by omega)).mp (Classical.not_not.mp c8)
                    refine exf_go 5 (show vp_in (0 : Int32) 4 ∧ (rN h2 87 0 = true → Go (d + 5) true 130 81 [.ref 10, .int 0, .int (nI jy), .int (lX e.1), .ref (44 + 3 * i), .int (nI (evD g vs e.1 n)), mk_] [.ref 88, .int (nI (evD g vs e.1 n))] h2 Q) ∧ (rN h2 87 0 = false → Go (d + 5) true 130 81 [.ref 10, .int 0, .int (nI jy), .int (lX e.1), .ref (44 + 3 * i), .int (nI (evD g vs e.1 n)), mk_] [.null, .int (nI (evD g vs e.1 n))] h2 Q) from ⟨vp_in_nI (n := 0) (by decide) (by decide), fun c12 => ?_, fun c12 => ?_⟩)
                    · skip
                      refine exf_go 1 (show Go (d + 5) true 130 84 [.ref 10, .int 0, .int (nI jy), .int (lX e.1), .ref (44 + 3 * i), .int (nI (evD g vs e.1 n)), mk_] [.int (rI h2 88 2), .int (nI (evD g vs e.1 n))] h2 Q from ?_)
                      rw [show (rI h2 88 2 : Int32) = nI n from ct2.2.2.2.1]
                      refine exf_go 1 (show ((nI n) ≤ (nI (evD g vs e.1 n)) → Go (d + 5) true 130 92 [.ref 10, .int 0, .int (nI jy), .int (lX e.1), .ref (44 + 3 * i), .int (nI (evD g vs e.1 n)), mk_] [] h2 Q) ∧ (¬ ((nI n) ≤ (nI (evD g vs e.1 n))) → Go (d + 5) true 130 87 [.ref 10, .int 0, .int (nI jy), .int (lX e.1), .ref (44 + 3 * i), .int (nI (evD g vs e.1 n)), mk_] [] h2 Q) from ⟨fun c13 => ?_, fun c13 => ?_⟩)
                      · skip
                        have c13 : n ≤ (evD g vs e.1 n) := (nI_leI (a := n) (b := (evD g vs e.1 n)) (by omega) (by omega)).mp c13
                        refine exf_go 9 (show wpC (d + 5) true 36 [.ref 39, .ref 31, .ref (44 + 3 * i)] h2 (fun _ h' => Go (d + 5) true 130 164 [.ref 10, .int 0, .int (nI jy), .int (lX e.1), .ref (44 + 3 * i), .int (nI (evD g vs e.1 n)), .int (-1)] [] h' Q) from ?_)
                        refine c_takeBack i hi9 cs2 cl2 mk2 (fun h3 q3 cl3 => ?_)
                        have qs3 : ∀ a, 42 ≤ a → a ≤ 70 → (a < 44 + 3 * i ∨ 46 + 3 * i < a) → rI h3 a = rI h a := fun a u v z => (q3.I (fun x => sL3_f (by omega))).trans (qs2 a u v z)
                        show Go (d + 5) true 130 164 [.ref 10, .int 0, .int (nI jy), .int (lX e.1), .ref (44 + 3 * i), .int (nI (evD g vs e.1 n)), .int (-1)] [] h3 Q
                        refine exf_go 2 (show Q (.int (-1)) h3 from ?_)
                        simp only [fJudge, et, ey, hq] at k
                        have kk := k h3 (qh2.tr (l3_H q3)) ⟨cl3, i, ch_keep0 ch qs3⟩
                        rw [if_pos (by omega), if_neg (by omega)] at kk; exact kk
                      · skip
                        have c13 : ¬ n ≤ (evD g vs e.1 n) := fun q => c13 ((nI_leI (a := n) (b := (evD g vs e.1 n)) (by omega) (by omega)).mpr q)
                        refine exf_go 10 (show wpC (d + 5) true 36 [.ref 39, .ref 31, .ref (44 + 3 * i)] h2 (fun _ h' => Go (d + 5) true 130 164 [.ref 10, .int 0, .int (nI jy), .int (lX e.1), .ref (44 + 3 * i), .int (nI (evD g vs e.1 n)), .int (nI (evD g vs e.1 n))] [] h' Q) from ?_)
                        refine c_takeBack i hi9 cs2 cl2 mk2 (fun h3 q3 cl3 => ?_)
                        have qs3 : ∀ a, 42 ≤ a → a ≤ 70 → (a < 44 + 3 * i ∨ 46 + 3 * i < a) → rI h3 a = rI h a := fun a u v z => (q3.I (fun x => sL3_f (by omega))).trans (qs2 a u v z)
                        show Go (d + 5) true 130 164 [.ref 10, .int 0, .int (nI jy), .int (lX e.1), .ref (44 + 3 * i), .int (nI (evD g vs e.1 n)), .int (nI (evD g vs e.1 n))] [] h3 Q
                        refine exf_go 2 (show Q (.int (nI (evD g vs e.1 n))) h3 from ?_)
                        simp only [fJudge, et, ey, hq] at k
                        have kk := k h3 (qh2.tr (l3_H q3)) ⟨cl3, i, ch_keep0 ch qs3⟩
                        rw [if_pos (by omega), if_pos (by omega)] at kk; exact kk
                    · skip
                      exact absurd (((wf2.2.2 87 0 rfl)).symm.trans c12) (by decide)
                · skip
                  exact absurd (((wf1.2.2 87 0 rfl)).symm.trans c7) (by decide)
              · skip
                exact absurd (by decide) c6
          · skip
            exact absurd (((wf.2.2 87 0 rfl)).symm.trans c4) (by decide)
        · skip
          have ey : ixN y 4 = none := ix_gt (n := 3) (by omega) c3
          refine exf_go 2 (show Q (.int (-2)) h from ?_)
          first | (simp only [fJudge, et] at k; exact k _ Fq.rfl' cd0) | (simp only [fJudge, et, ey] at k; exact k _ Fq.rfl' cd0)
  · skip
    subst etq
    show Go (d + 5) true 130 4 [.ref 10, .int 1, .int y, mk_, mk_, mk_, mk_] [.int 1] h Q
    refine exf_go 1 (show ((1 : Int32) = 0 → Go (d + 5) true 130 16 [.ref 10, .int 1, .int y, mk_, mk_, mk_, mk_] [] h Q) ∧ (¬ ((1 : Int32) = 0) → Go (d + 5) true 130 7 [.ref 10, .int 1, .int y, mk_, mk_, mk_, mk_] [] h Q) from ⟨fun c14 => ?_, fun c14 => ?_⟩)
    · skip
      exact absurd c14 (by decide)
    · skip
      refine exf_go 2 (show (y < 0 → Go (d + 5) true 130 16 [.ref 10, .int 1, .int y, mk_, mk_, mk_, mk_] [] h Q) ∧ (¬ (y < 0) → Go (d + 5) true 130 11 [.ref 10, .int 1, .int y, mk_, mk_, mk_, mk_] [] h Q) from ⟨fun c15 => ?_, fun c15 => ?_⟩)
      · skip
        have ey : ixN y 4 = none := ix_neg c15
        refine exf_go 2 (show Q (.int (-2)) h from ?_)
        first | (simp only [fJudge, et] at k; exact k _ Fq.rfl' cd0) | (simp only [fJudge, et, ey] at k; exact k _ Fq.rfl' cd0)
      · skip
        refine exf_go 3 (show (y ≤ 3 → Go (d + 5) true 130 19 [.ref 10, .int 1, .int y, mk_, mk_, mk_, mk_] [] h Q) ∧ (¬ (y ≤ 3) → Go (d + 5) true 130 16 [.ref 10, .int 1, .int y, mk_, mk_, mk_, mk_] [] h Q) from ⟨fun c16 => ?_, fun c16 => ?_⟩)
        · skip
          obtain ⟨jy, ey, eyq, eyr⟩ := ix_le (n := 3) (by omega) c15 c16
          subst eyq
          refine exf_go 4 (show vp_in (1 : Int32) 4 ∧ (rN h 87 1 = true → Go (d + 5) true 130 25 [.ref 10, .int 1, .int (nI jy), mk_, mk_, mk_, mk_] [.ref 90] h Q) ∧ (rN h 87 1 = false → Go (d + 5) true 130 25 [.ref 10, .int 1, .int (nI jy), mk_, mk_, mk_, mk_] [.null] h Q) from ⟨vp_in_nI (n := 1) (by decide) (by decide), fun c17 => ?_, fun c17 => ?_⟩)
          · skip
            refine exf_go 1 (show wpC (d + 5) true 102 [.ref 90] h (fun r h' => Go (d + 5) true 130 28 [.ref 10, .int 1, .int (nI jy), mk_, mk_, mk_, mk_] [r] h' Q) from ?_)
            rcases hq : tr 1 with _ | ⟨so, n, vs⟩
            · skip
              have ct : CT 1 none h := by have := ca 1 (by decide); rw [hq] at this; exact this
              refine c_miss11 ct ?_
              show Go (d + 5) true 130 28 [.ref 10, .int 1, .int (nI jy), mk_, mk_, mk_, mk_] [.int 1] h Q
              refine exf_go 1 (show ((1 : Int32) = 0 → Go (d + 5) true 130 34 [.ref 10, .int 1, .int (nI jy), mk_, mk_, mk_, mk_] [] h Q) ∧ (¬ ((1 : Int32) = 0) → Go (d + 5) true 130 31 [.ref 10, .int 1, .int (nI jy), mk_, mk_, mk_, mk_] [] h Q) from ⟨fun c18 => ?_, fun c18 => ?_⟩)
              · skip
                exact absurd c18 (by decide)
              · skip
                refine exf_go 2 (show Q (.int (-6)) h from ?_)
                simp only [fJudge, et, ey, hq] at k; exact k _ Fq.rfl' cd0
            · skip
              have ct : CT 1 (some (so, n, vs)) h := by have := ca 1 (by decide); rw [hq] at this; exact this
              have hn4 := ct.2.1; have hs3 := ct.1
              refine c_miss01 ct ?_
              show Go (d + 5) true 130 28 [.ref 10, .int 1, .int (nI jy), mk_, mk_, mk_, mk_] [.int 0] h Q
              refine exf_go 1 (show ((0 : Int32) = 0 → Go (d + 5) true 130 34 [.ref 10, .int 1, .int (nI jy), mk_, mk_, mk_, mk_] [] h Q) ∧ (¬ ((0 : Int32) = 0) → Go (d + 5) true 130 31 [.ref 10, .int 1, .int (nI jy), mk_, mk_, mk_, mk_] [] h Q) from ⟨fun c19 => ?_, fun c19 => ?_⟩)
              · skip
                refine exf_go 3 (show Go (d + 5) true 130 41 [.ref 10, .int 1, .int (nI jy), mk_, mk_, mk_, mk_] [.int (rI h 39 4)] h Q from ?_)
                rw [show (rI h 39 4 : Int32) = lX e.1 from cl_X cl]
                refine exf_go 6 (show wpC (d + 5) true 13 [.ref 42, .ref 39] h (fun r h' => Go (d + 5) true 130 53 [.ref 10, .int 1, .int (nI jy), .int (lX e.1), mk_, mk_, mk_] [r] h' Q) from ?_)
                refine c_mark i hi9 wf cs.1 cl ch.2.2.1 (fun h1 q1 mk1 => ?_)
                have cs1 := cs_H cs (mk_H hi9 q1); have cl1 := cl_mk cl q1
                have qs1 : ∀ a, 42 ≤ a → a ≤ 70 → (a < 44 + 3 * i ∨ 46 + 3 * i < a) → rI h1 a = rI h a := fun a u v z => q1.I (fun x => sMk_f z)
                have wf1 := q1.gq.2.2.2.1 wf
                show Go (d + 5) true 130 53 [.ref 10, .int 1, .int (nI jy), .int (lX e.1), mk_, mk_, mk_] [.ref (44 + 3 * i)] h1 Q
                refine exf_go 6 (show vp_in (1 : Int32) 4 ∧ (rN h1 87 1 = true → Go (d + 5) true 130 62 [.ref 10, .int 1, .int (nI jy), .int (lX e.1), .ref (44 + 3 * i), mk_, mk_] [.ref 90, .ref 10] h1 Q) ∧ (rN h1 87 1 = false → Go (d + 5) true 130 62 [.ref 10, .int 1, .int (nI jy), .int (lX e.1), .ref (44 + 3 * i), mk_, mk_] [.null, .ref 10] h1 Q) from ⟨vp_in_nI (n := 1) (by decide) (by decide), fun c20 => ?_, fun c20 => ?_⟩)
                · skip
                  refine exf_go 2 (show wpC (d + 5) true 172 [.ref 10, .ref 90, .ref (44 + 3 * i)] h1 (fun r h' => Go (d + 5) true 130 67 [.ref 10, .int 1, .int (nI jy), .int (lX e.1), .ref (44 + 3 * i), mk_, mk_] [r] h' Q) from ?_)
                  have ct1 := ct_H ct (mk_H hi9 q1); have wf1 := q1.gq.2.2.2.1 wf
                  refine c_tryT1 hi9 cs1 cl1 mk1 ct1 (fun h2 c2 q2 cl2 mk2 => ?_)
                  have qs2 := qs_lm qs1 q2; have hp2 := ch_p ch qs2; have qh2 : Fq scH h h2 := (mk_H hi9 q1).tr (lm_H hi9 q2)
                  have cs2 := cs_H cs qh2; have wf2 := qh2.gq.2.2.2.1 wf; have ct2 := ct_H ct qh2; have hdl := evD_le g vs e.1 n; have hO2 := cl2.1.2.1
                  show Go (d + 5) true 130 67 [.ref 10, .int 1, .int (nI jy), .int (lX e.1), .ref (44 + 3 * i), mk_, mk_] [.int (nI (evD g vs e.1 n))] h2 Q
                  refine exf_go 3 (show (¬ (nI jy) = 0 → Go (d + 5) true 130 98 [.ref 10, .int 1, .int (nI jy), .int (lX e.1), .ref (44 + 3 * i), .int (nI (evD g vs e.1 n)), mk_] [] h2 Q) ∧ (¬ (¬ (nI jy) = 0) → Go (d + 5) true 130 73 [.ref 10, .int 1, .int (nI jy), .int (lX e.1), .ref (44 + 3 * i), .int (nI (evD g vs e.1 n)), mk_] [] h2 Q) from ⟨fun c21 => ?_, fun c21 => ?_⟩)
                  · skip
                    have c21 : ¬ jy = 0 := fun q => c21 ((nI_eq (a := jy) (b := 0) (by omega) (by omega)).mpr q)
                    refine exf_go 3 (show (¬ (nI jy) = 1 → Go (d + 5) true 130 117 [.ref 10, .int 1, .int (nI jy), .int (lX e.1), .ref (44 + 3 * i), .int (nI (evD g vs e.1 n)), mk_] [] h2 Q) ∧ (¬ (¬ (nI jy) = 1) → Go (d + 5) true 130 103 [.ref 10, .int 1, .int (nI jy), .int (lX e.1), .ref (44 + 3 * i), .int (nI (evD g vs e.1 n)), mk_] [] h2 Q) from ⟨fun c22 => ?_, fun c22 => ?_⟩)
                    · skip
                      have c22 : ¬ jy = 1 := fun q => c22 ((nI_eq (a := jy) (b := 1) (by omega) (by omega)).mpr q)
                      refine exf_go 3 (show (¬ (nI jy) = 2 → Go (d + 5) true 130 142 [.ref 10, .int 1, .int (nI jy), .int (lX e.1), .ref (44 + 3 * i), .int (nI (evD g vs e.1 n)), mk_] [] h2 Q) ∧ (¬ (¬ (nI jy) = 2) → Go (d + 5) true 130 122 [.ref 10, .int 1, .int (nI jy), .int (lX e.1), .ref (44 + 3 * i), .int (nI (evD g vs e.1 n)), mk_] [] h2 Q) from ⟨fun c23 => ?_, fun c23 => ?_⟩)
                      · skip
                        have c23 : ¬ jy = 2 := fun q => c23 ((nI_eq (a := jy) (b := 2) (by omega) (by omega)).mpr q)
                        refine exf_go 3 (show wpC (d + 5) true 33 [.ref 39] h2 (fun r h' => Go (d + 5) true 130 149 [.ref 10, .int 1, .int (nI jy), .int (lX e.1), .ref (44 + 3 * i), .int (nI (evD g vs e.1 n)), mk_] [r] h' Q) from ?_)
                        refine c_leftOnes cs2 cl2 ?_
                        show Go (d + 5) true 130 149 [.ref 10, .int 1, .int (nI jy), .int (lX e.1), .ref (44 + 3 * i), .int (nI (evD g vs e.1 n)), mk_] [.int (nI (cntN (lft g (evL g vs e.1 (evD g vs e.1 n))) (tot g)))] h2 Q
                        refine exf_go 7 (show wpC (d + 5) true 36 [.ref 39, .ref 31, .ref (44 + 3 * i)] h2 (fun _ h' => Go (d + 5) true 130 164 [.ref 10, .int 1, .int (nI jy), .int (lX e.1), .ref (44 + 3 * i), .int (nI (evD g vs e.1 n)), .int (nI (cntN (lft g (evL g vs e.1 (evD g vs e.1 n))) (tot g)))] [] h' Q) from ?_)
                        refine c_takeBack i hi9 cs2 cl2 mk2 (fun h3 q3 cl3 => ?_)
                        have qs3 : ∀ a, 42 ≤ a → a ≤ 70 → (a < 44 + 3 * i ∨ 46 + 3 * i < a) → rI h3 a = rI h a := fun a u v z => (q3.I (fun x => sL3_f (by omega))).trans (qs2 a u v z)
                        show Go (d + 5) true 130 164 [.ref 10, .int 1, .int (nI jy), .int (lX e.1), .ref (44 + 3 * i), .int (nI (evD g vs e.1 n)), .int (nI (cntN (lft g (evL g vs e.1 (evD g vs e.1 n))) (tot g)))] [] h3 Q
                        refine exf_go 2 (show Q (.int (nI (cntN (lft g (evL g vs e.1 (evD g vs e.1 n))) (tot g)))) h3 from ?_)
                        simp only [fJudge, et, ey, hq] at k
                        have kk := k h3 (qh2.tr (l3_H q3)) ⟨cl3, i, ch_keep0 ch qs3⟩
                        rw [if_neg (by omega), if_neg (by omega), if_neg (by omega)] at kk; exact kk
                      · skip
                        have c23 : jy = 2 := (nI_eq (a := jy) (b := 2) (by omega) (by omega)).mp (Classical.not_not.mp c23)
                        refine exf_go 3 (show Go (d + 5) true 130 129 [.ref 10, .int 1, .int (nI jy), .int (lX e.1), .ref (44 + 3 * i), .int (nI (evD g vs e.1 n)), mk_] [.int (rI h2 39 7)] h2 Q from ?_)
                        rw [show (rI h2 39 7 : Int32) = nI (lO (evL g vs e.1 (evD g vs e.1 n))) from cl_O cl2]
                        refine exf_go 1 (show ((nI (lO (evL g vs e.1 (evD g vs e.1 n)))) = 0 → Go (d + 5) true 130 136 [.ref 10, .int 1, .int (nI jy), .int (lX e.1), .ref (44 + 3 * i), .int (nI (evD g vs e.1 n)), mk_] [] h2 Q) ∧ (¬ ((nI (lO (evL g vs e.1 (evD g vs e.1 n)))) = 0) → Go (d + 5) true 130 132 [.ref 10, .int 1, .int (nI jy), .int (lX e.1), .ref (44 + 3 * i), .int (nI (evD g vs e.1 n)), mk_] [] h2 Q) from ⟨fun c24 => ?_, fun c24 => ?_⟩)
                        · skip
                          have c24 : (lO (evL g vs e.1 (evD g vs e.1 n))) = 0 := (nI_eq (a := (lO (evL g vs e.1 (evD g vs e.1 n)))) (b := 0) (by omega) (by omega)).mp c24
                          refine exf_go 9 (show wpC (d + 5) true 36 [.ref 39, .ref 31, .ref (44 + 3 * i)] h2 (fun _ h' => Go (d + 5) true 130 164 [.ref 10, .int 1, .int (nI jy), .int (lX e.1), .ref (44 + 3 * i), .int (nI (evD g vs e.1 n)), .int 0] [] h' Q) from ?_)
                          refine c_takeBack i hi9 cs2 cl2 mk2 (fun h3 q3 cl3 => ?_)
                          have qs3 : ∀ a, 42 ≤ a → a ≤ 70 → (a < 44 + 3 * i ∨ 46 + 3 * i < a) → rI h3 a = rI h a := fun a u v z => (q3.I (fun x => sL3_f (by omega))).trans (qs2 a u v z)
                          show Go (d + 5) true 130 164 [.ref 10, .int 1, .int (nI jy), .int (lX e.1), .ref (44 + 3 * i), .int (nI (evD g vs e.1 n)), .int 0] [] h3 Q
                          refine exf_go 2 (show Q (.int 0) h3 from ?_)
                          simp only [fJudge, et, ey, hq] at k
                          have kk := k h3 (qh2.tr (l3_H q3)) ⟨cl3, i, ch_keep0 ch qs3⟩
                          rw [if_neg (by omega), if_neg (by omega), if_pos (by omega), show lO (evL g vs e.1 (evD g vs e.1 n)) = 0 from by omega] at kk; exact kk
                        · skip
                          have c24 : ¬ (lO (evL g vs e.1 (evD g vs e.1 n))) = 0 := fun q => c24 ((nI_eq (a := (lO (evL g vs e.1 (evD g vs e.1 n)))) (b := 0) (by omega) (by omega)).mpr q)
                          refine exf_go 10 (show wpC (d + 5) true 36 [.ref 39, .ref 31, .ref (44 + 3 * i)] h2 (fun _ h' => Go (d + 5) true 130 164 [.ref 10, .int 1, .int (nI jy), .int (lX e.1), .ref (44 + 3 * i), .int (nI (evD g vs e.1 n)), .int 1] [] h' Q) from ?_)
                          refine c_takeBack i hi9 cs2 cl2 mk2 (fun h3 q3 cl3 => ?_)
                          have qs3 : ∀ a, 42 ≤ a → a ≤ 70 → (a < 44 + 3 * i ∨ 46 + 3 * i < a) → rI h3 a = rI h a := fun a u v z => (q3.I (fun x => sL3_f (by omega))).trans (qs2 a u v z)
                          show Go (d + 5) true 130 164 [.ref 10, .int 1, .int (nI jy), .int (lX e.1), .ref (44 + 3 * i), .int (nI (evD g vs e.1 n)), .int 1] [] h3 Q
                          refine exf_go 2 (show Q (.int 1) h3 from ?_)
                          simp only [fJudge, et, ey, hq] at k
                          have kk := k h3 (qh2.tr (l3_H q3)) ⟨cl3, i, ch_keep0 ch qs3⟩
                          rw [if_neg (by omega), if_neg (by omega), if_pos (by omega), show lO (evL g vs e.1 (evD g vs e.1 n)) = 1 from by omega] at kk; exact kk
                    · skip
                      have c22 : jy = 1 := (nI_eq (a := jy) (b := 1) (by omega) (by omega)).mp (Classical.not_not.mp c22)
                      refine exf_go 3 (show Go (d + 5) true 130 110 [.ref 10, .int 1, .int (nI jy), .int (lX e.1), .ref (44 + 3 * i), .int (nI (evD g vs e.1 n)), mk_] [.int (rI h2 39 4)] h2 Q from ?_)
                      rw [show (rI h2 39 4 : Int32) = lX (evL g vs e.1 (evD g vs e.1 n)) from cl_X cl2]
                      refine exf_go 10 (show wpC (d + 5) true 36 [.ref 39, .ref 31, .ref (44 + 3 * i)] h2 (fun _ h' => Go (d + 5) true 130 164 [.ref 10, .int 1, .int (nI jy), .int (lX e.1), .ref (44 + 3 * i), .int (nI (evD g vs e.1 n)), .int ((lX (evL g vs e.1 (evD g vs e.1 n))) - (lX e.1))] [] h' Q) from ?_)
                      refine c_takeBack i hi9 cs2 cl2 mk2 (fun h3 q3 cl3 => ?_)
                      have qs3 : ∀ a, 42 ≤ a → a ≤ 70 → (a < 44 + 3 * i ∨ 46 + 3 * i < a) → rI h3 a = rI h a := fun a u v z => (q3.I (fun x => sL3_f (by omega))).trans (qs2 a u v z)
                      show Go (d + 5) true 130 164 [.ref 10, .int 1, .int (nI jy), .int (lX e.1), .ref (44 + 3 * i), .int (nI (evD g vs e.1 n)), .int ((lX (evL g vs e.1 (evD g vs e.1 n))) - (lX e.1))] [] h3 Q
                      refine exf_go 2 (show Q (.int ((lX (evL g vs e.1 (evD g vs e.1 n))) - (lX e.1))) h3 from ?_)
                      simp only [fJudge, et, ey, hq] at k
                      have kk := k h3 (qh2.tr (l3_H q3)) ⟨cl3, i, ch_keep0 ch qs3⟩
                      rw [if_neg (by omega), if_pos (by omega)] at kk; exact kk
                  · skip
                    have c21 : jy = 0 := (nI_eq (a := jy) (b := 0) (by omega) (by omega)).mp (Classical.not_not.mp c21)
                    refine exf_go 5 (show vp_in (1 : Int32) 4 ∧ (rN h2 87 1 = true → Go (d + 5) true 130 81 [.ref 10, .int 1, .int (nI jy), .int (lX e.1), .ref (44 + 3 * i), .int (nI (evD g vs e.1 n)), mk_] [.ref 90, .int (nI (evD g vs e.1 n))] h2 Q) ∧ (rN h2 87 1 = false → Go (d + 5) true 130 81 [.ref 10, .int 1, .int (nI jy), .int (lX e.1), .ref (44 + 3 * i), .int (nI (evD g vs e.1 n)), mk_] [.null, .int (nI (evD g vs e.1 n))] h2 Q) from ⟨vp_in_nI (n := 1) (by decide) (by decide), fun c25 => ?_, fun c25 => ?_⟩)
                    · skip
                      refine exf_go 1 (show Go (d + 5) true 130 84 [.ref 10, .int 1, .int (nI jy), .int (lX e.1), .ref (44 + 3 * i), .int (nI (evD g vs e.1 n)), mk_] [.int (rI h2 90 2), .int (nI (evD g vs e.1 n))] h2 Q from ?_)
                      rw [show (rI h2 90 2 : Int32) = nI n from ct2.2.2.2.1]
                      refine exf_go 1 (show ((nI n) ≤ (nI (evD g vs e.1 n)) → Go (d + 5) true 130 92 [.ref 10, .int 1, .int (nI jy), .int (lX e.1), .ref (44 + 3 * i), .int (nI (evD g vs e.1 n)), mk_] [] h2 Q) ∧ (¬ ((nI n) ≤ (nI (evD g vs e.1 n))) → Go (d + 5) true 130 87 [.ref 10, .int 1, .int (nI jy), .int (lX e.1), .ref (44 + 3 * i), .int (nI (evD g vs e.1 n)), mk_] [] h2 Q) from ⟨fun c26 => ?_, fun c26 => ?_⟩)
                      · skip
                        have c26 : n ≤ (evD g vs e.1 n) := (nI_leI (a := n) (b := (evD g vs e.1 n)) (by omega) (by omega)).mp c26
                        refine exf_go 9 (show wpC (d + 5) true 36 [.ref 39, .ref 31, .ref (44 + 3 * i)] h2 (fun _ h' => Go (d + 5) true 130 164 [.ref 10, .int 1, .int (nI jy), .int (lX e.1), .ref (44 + 3 * i), .int (nI (evD g vs e.1 n)), .int (-1)] [] h' Q) from ?_)
                        refine c_takeBack i hi9 cs2 cl2 mk2 (fun h3 q3 cl3 => ?_)
                        have qs3 : ∀ a, 42 ≤ a → a ≤ 70 → (a < 44 + 3 * i ∨ 46 + 3 * i < a) → rI h3 a = rI h a := fun a u v z => (q3.I (fun x => sL3_f (by omega))).trans (qs2 a u v z)
                        show Go (d + 5) true 130 164 [.ref 10, .int 1, .int (nI jy), .int (lX e.1), .ref (44 + 3 * i), .int (nI (evD g vs e.1 n)), .int (-1)] [] h3 Q
                        refine exf_go 2 (show Q (.int (-1)) h3 from ?_)
                        simp only [fJudge, et, ey, hq] at k
                        have kk := k h3 (qh2.tr (l3_H q3)) ⟨cl3, i, ch_keep0 ch qs3⟩
                        rw [if_pos (by omega), if_neg (by omega)] at kk; exact kk
                      · skip
                        have c26 : ¬ n ≤ (evD g vs e.1 n) := fun q => c26 ((nI_leI (a := n) (b := (evD g vs e.1 n)) (by omega) (by omega)).mpr q)
                        refine exf_go 10 (show wpC (d + 5) true 36 [.ref 39, .ref 31, .ref (44 + 3 * i)] h2 (fun _ h' => Go (d + 5) true 130 164 [.ref 10, .int 1, .int (nI jy), .int (lX e.1), .ref (44 + 3 * i), .int (nI (evD g vs e.1 n)), .int (nI (evD g vs e.1 n))] [] h' Q) from ?_)
                        refine c_takeBack i hi9 cs2 cl2 mk2 (fun h3 q3 cl3 => ?_)
                        have qs3 : ∀ a, 42 ≤ a → a ≤ 70 → (a < 44 + 3 * i ∨ 46 + 3 * i < a) → rI h3 a = rI h a := fun a u v z => (q3.I (fun x => sL3_f (by omega))).trans (qs2 a u v z)
                        show Go (d + 5) true 130 164 [.ref 10, .int 1, .int (nI jy), .int (lX e.1), .ref (44 + 3 * i), .int (nI (evD g vs e.1 n)), .int (nI (evD g vs e.1 n))] [] h3 Q
                        refine exf_go 2 (show Q (.int (nI (evD g vs e.1 n))) h3 from ?_)
                        simp only [fJudge, et, ey, hq] at k
                        have kk := k h3 (qh2.tr (l3_H q3)) ⟨cl3, i, ch_keep0 ch qs3⟩
                        rw [if_pos (by omega), if_pos (by omega)] at kk; exact kk
                    · skip
                      exact absurd (((wf2.2.2 87 1 rfl)).symm.trans c25) (by decide)
                · skip
                  exact absurd (((wf1.2.2 87 1 rfl)).symm.trans c20) (by decide)
              · skip
                exact absurd (by decide) c19
          · skip
            exact absurd (((wf.2.2 87 1 rfl)).symm.trans c17) (by decide)
        · skip
          have ey : ixN y 4 = none := ix_gt (n := 3) (by omega) c16
          refine exf_go 2 (show Q (.int (-2)) h from ?_)
          first | (simp only [fJudge, et] at k; exact k _ Fq.rfl' cd0) | (simp only [fJudge, et, ey] at k; exact k _ Fq.rfl' cd0)
  · skip
    subst etq
    show Go (d + 5) true 130 4 [.ref 10, .int 2, .int y, mk_, mk_, mk_, mk_] [.int 1] h Q
    refine exf_go 1 (show ((1 : Int32) = 0 → Go (d + 5) true 130 16 [.ref 10, .int 2, .int y, mk_, mk_, mk_, mk_] [] h Q) ∧ (¬ ((1 : Int32) = 0) → Go (d + 5) true 130 7 [.ref 10, .int 2, .int y, mk_, mk_, mk_, mk_] [] h Q) from ⟨fun c27 => ?_, fun c27 => ?_⟩)
    · skip
      exact absurd c27 (by decide)
    · skip
      refine exf_go 2 (show (y < 0 → Go (d + 5) true 130 16 [.ref 10, .int 2, .int y, mk_, mk_, mk_, mk_] [] h Q) ∧ (¬ (y < 0) → Go (d + 5) true 130 11 [.ref 10, .int 2, .int y, mk_, mk_, mk_, mk_] [] h Q) from ⟨fun c28 => ?_, fun c28 => ?_⟩)
      · skip
        have ey : ixN y 4 = none := ix_neg c28
        refine exf_go 2 (show Q (.int (-2)) h from ?_)
        first | (simp only [fJudge, et] at k; exact k _ Fq.rfl' cd0) | (simp only [fJudge, et, ey] at k; exact k _ Fq.rfl' cd0)
      · skip
        refine exf_go 3 (show (y ≤ 3 → Go (d + 5) true 130 19 [.ref 10, .int 2, .int y, mk_, mk_, mk_, mk_] [] h Q) ∧ (¬ (y ≤ 3) → Go (d + 5) true 130 16 [.ref 10, .int 2, .int y, mk_, mk_, mk_, mk_] [] h Q) from ⟨fun c29 => ?_, fun c29 => ?_⟩)
        · skip
          obtain ⟨jy, ey, eyq, eyr⟩ := ix_le (n := 3) (by omega) c28 c29
          subst eyq
          refine exf_go 4 (show vp_in (2 : Int32) 4 ∧ (rN h 87 2 = true → Go (d + 5) true 130 25 [.ref 10, .int 2, .int (nI jy), mk_, mk_, mk_, mk_] [.ref 92] h Q) ∧ (rN h 87 2 = false → Go (d + 5) true 130 25 [.ref 10, .int 2, .int (nI jy), mk_, mk_, mk_, mk_] [.null] h Q) from ⟨vp_in_nI (n := 2) (by decide) (by decide), fun c30 => ?_, fun c30 => ?_⟩)
          · skip
            refine exf_go 1 (show wpC (d + 5) true 102 [.ref 92] h (fun r h' => Go (d + 5) true 130 28 [.ref 10, .int 2, .int (nI jy), mk_, mk_, mk_, mk_] [r] h' Q) from ?_)
            rcases hq : tr 2 with _ | ⟨so, n, vs⟩
            · skip
              have ct : CT 2 none h := by have := ca 2 (by decide); rw [hq] at this; exact this
              refine c_miss12 ct ?_
              show Go (d + 5) true 130 28 [.ref 10, .int 2, .int (nI jy), mk_, mk_, mk_, mk_] [.int 1] h Q
              refine exf_go 1 (show ((1 : Int32) = 0 → Go (d + 5) true 130 34 [.ref 10, .int 2, .int (nI jy), mk_, mk_, mk_, mk_] [] h Q) ∧ (¬ ((1 : Int32) = 0) → Go (d + 5) true 130 31 [.ref 10, .int 2, .int (nI jy), mk_, mk_, mk_, mk_] [] h Q) from ⟨fun c31 => ?_, fun c31 => ?_⟩)
              · skip
                exact absurd c31 (by decide)
              · skip
                refine exf_go 2 (show Q (.int (-6)) h from ?_)
                simp only [fJudge, et, ey, hq] at k; exact k _ Fq.rfl' cd0
            · skip
              have ct : CT 2 (some (so, n, vs)) h := by have := ca 2 (by decide); rw [hq] at this; exact this
              have hn4 := ct.2.1; have hs3 := ct.1
              refine c_miss02 ct ?_
              show Go (d + 5) true 130 28 [.ref 10, .int 2, .int (nI jy), mk_, mk_, mk_, mk_] [.int 0] h Q
              refine exf_go 1 (show ((0 : Int32) = 0 → Go (d + 5) true 130 34 [.ref 10, .int 2, .int (nI jy), mk_, mk_, mk_, mk_] [] h Q) ∧ (¬ ((0 : Int32) = 0) → Go (d + 5) true 130 31 [.ref 10, .int 2, .int (nI jy), mk_, mk_, mk_, mk_] [] h Q) from ⟨fun c32 => ?_, fun c32 => ?_⟩)
              · skip
                refine exf_go 3 (show Go (d + 5) true 130 41 [.ref 10, .int 2, .int (nI jy), mk_, mk_, mk_, mk_] [.int (rI h 39 4)] h Q from ?_)
                rw [show (rI h 39 4 : Int32) = lX e.1 from cl_X cl]
                refine exf_go 6 (show wpC (d + 5) true 13 [.ref 42, .ref 39] h (fun r h' => Go (d + 5) true 130 53 [.ref 10, .int 2, .int (nI jy), .int (lX e.1), mk_, mk_, mk_] [r] h' Q) from ?_)
                refine c_mark i hi9 wf cs.1 cl ch.2.2.1 (fun h1 q1 mk1 => ?_)
                have cs1 := cs_H cs (mk_H hi9 q1); have cl1 := cl_mk cl q1
                have qs1 : ∀ a, 42 ≤ a → a ≤ 70 → (a < 44 + 3 * i ∨ 46 + 3 * i < a) → rI h1 a = rI h a := fun a u v z => q1.I (fun x => sMk_f z)
                have wf1 := q1.gq.2.2.2.1 wf
                show Go (d + 5) true 130 53 [.ref 10, .int 2, .int (nI jy), .int (lX e.1), mk_, mk_, mk_] [.ref (44 + 3 * i)] h1 Q
                refine exf_go 6 (show vp_in (2 : Int32) 4 ∧ (rN h1 87 2 = true → Go (d + 5) true 130 62 [.ref 10, .int 2, .int (nI jy), .int (lX e.1), .ref (44 + 3 * i), mk_, mk_] [.ref 92, .ref 10] h1 Q) ∧ (rN h1 87 2 = false → Go (d + 5) true 130 62 [.ref 10, .int 2, .int (nI jy), .int (lX e.1), .ref (44 + 3 * i), mk_, mk_] [.null, .ref 10] h1 Q) from ⟨vp_in_nI (n := 2) (by decide) (by decide), fun c33 => ?_, fun c33 => ?_⟩)
                · skip
                  refine exf_go 2 (show wpC (d + 5) true 172 [.ref 10, .ref 92, .ref (44 + 3 * i)] h1 (fun r h' => Go (d + 5) true 130 67 [.ref 10, .int 2, .int (nI jy), .int (lX e.1), .ref (44 + 3 * i), mk_, mk_] [r] h' Q) from ?_)
                  have ct1 := ct_H ct (mk_H hi9 q1); have wf1 := q1.gq.2.2.2.1 wf
                  refine c_tryT2 hi9 cs1 cl1 mk1 ct1 (fun h2 c2 q2 cl2 mk2 => ?_)
                  have qs2 := qs_lm qs1 q2; have hp2 := ch_p ch qs2; have qh2 : Fq scH h h2 := (mk_H hi9 q1).tr (lm_H hi9 q2)
                  have cs2 := cs_H cs qh2; have wf2 := qh2.gq.2.2.2.1 wf; have ct2 := ct_H ct qh2; have hdl := evD_le g vs e.1 n; have hO2 := cl2.1.2.1
                  show Go (d + 5) true 130 67 [.ref 10, .int 2, .int (nI jy), .int (lX e.1), .ref (44 + 3 * i), mk_, mk_] [.int (nI (evD g vs e.1 n))] h2 Q
                  refine exf_go 3 (show (¬ (nI jy) = 0 → Go (d + 5) true 130 98 [.ref 10, .int 2, .int (nI jy), .int (lX e.1), .ref (44 + 3 * i), .int (nI (evD g vs e.1 n)), mk_] [] h2 Q) ∧ (¬ (¬ (nI jy) = 0) → Go (d + 5) true 130 73 [.ref 10, .int 2, .int (nI jy), .int (lX e.1), .ref (44 + 3 * i), .int (nI (evD g vs e.1 n)), mk_] [] h2 Q) from ⟨fun c34 => ?_, fun c34 => ?_⟩)
                  · skip
                    have c34 : ¬ jy = 0 := fun q => c34 ((nI_eq (a := jy) (b := 0) (by omega) (by omega)).mpr q)
                    refine exf_go 3 (show (¬ (nI jy) = 1 → Go (d + 5) true 130 117 [.ref 10, .int 2, .int (nI jy), .int (lX e.1), .ref (44 + 3 * i), .int (nI (evD g vs e.1 n)), mk_] [] h2 Q) ∧ (¬ (¬ (nI jy) = 1) → Go (d + 5) true 130 103 [.ref 10, .int 2, .int (nI jy), .int (lX e.1), .ref (44 + 3 * i), .int (nI (evD g vs e.1 n)), mk_] [] h2 Q) from ⟨fun c35 => ?_, fun c35 => ?_⟩)
                    · skip
                      have c35 : ¬ jy = 1 := fun q => c35 ((nI_eq (a := jy) (b := 1) (by omega) (by omega)).mpr q)
                      refine exf_go 3 (show (¬ (nI jy) = 2 → Go (d + 5) true 130 142 [.ref 10, .int 2, .int (nI jy), .int (lX e.1), .ref (44 + 3 * i), .int (nI (evD g vs e.1 n)), mk_] [] h2 Q) ∧ (¬ (¬ (nI jy) = 2) → Go (d + 5) true 130 122 [.ref 10, .int 2, .int (nI jy), .int (lX e.1), .ref (44 + 3 * i), .int (nI (evD g vs e.1 n)), mk_] [] h2 Q) from ⟨fun c36 => ?_, fun c36 => ?_⟩)
                      · skip
                        have c36 : ¬ jy = 2 := fun q => c36 ((nI_eq (a := jy) (b := 2) (by omega) (by omega)).mpr q)
                        refine exf_go 3 (show wpC (d + 5) true 33 [.ref 39] h2 (fun r h' => Go (d + 5) true 130 149 [.ref 10, .int 2, .int (nI jy), .int (lX e.1), .ref (44 + 3 * i), .int (nI (evD g vs e.1 n)), mk_] [r] h' Q) from ?_)
                        refine c_leftOnes cs2 cl2 ?_
                        show Go (d + 5) true 130 149 [.ref 10, .int 2, .int (nI jy), .int (lX e.1), .ref (44 + 3 * i), .int (nI (evD g vs e.1 n)), mk_] [.int (nI (cntN (lft g (evL g vs e.1 (evD g vs e.1 n))) (tot g)))] h2 Q
                        refine exf_go 7 (show wpC (d + 5) true 36 [.ref 39, .ref 31, .ref (44 + 3 * i)] h2 (fun _ h' => Go (d + 5) true 130 164 [.ref 10, .int 2, .int (nI jy), .int (lX e.1), .ref (44 + 3 * i), .int (nI (evD g vs e.1 n)), .int (nI (cntN (lft g (evL g vs e.1 (evD g vs e.1 n))) (tot g)))] [] h' Q) from ?_)
                        refine c_takeBack i hi9 cs2 cl2 mk2 (fun h3 q3 cl3 => ?_)
                        have qs3 : ∀ a, 42 ≤ a → a ≤ 70 → (a < 44 + 3 * i ∨ 46 + 3 * i < a) → rI h3 a = rI h a := fun a u v z => (q3.I (fun x => sL3_f (by omega))).trans (qs2 a u v z)
                        show Go (d + 5) true 130 164 [.ref 10, .int 2, .int (nI jy), .int (lX e.1), .ref (44 + 3 * i), .int (nI (evD g vs e.1 n)), .int (nI (cntN (lft g (evL g vs e.1 (evD g vs e.1 n))) (tot g)))] [] h3 Q
                        refine exf_go 2 (show Q (.int (nI (cntN (lft g (evL g vs e.1 (evD g vs e.1 n))) (tot g)))) h3 from ?_)
                        simp only [fJudge, et, ey, hq] at k
                        have kk := k h3 (qh2.tr (l3_H q3)) ⟨cl3, i, ch_keep0 ch qs3⟩
                        rw [if_neg (by omega), if_neg (by omega), if_neg (by omega)] at kk; exact kk
                      · skip
                        have c36 : jy = 2 := (nI_eq (a := jy) (b := 2) (by omega) (by omega)).mp (Classical.not_not.mp c36)
                        refine exf_go 3 (show Go (d + 5) true 130 129 [.ref 10, .int 2, .int (nI jy), .int (lX e.1), .ref (44 + 3 * i), .int (nI (evD g vs e.1 n)), mk_] [.int (rI h2 39 7)] h2 Q from ?_)
                        rw [show (rI h2 39 7 : Int32) = nI (lO (evL g vs e.1 (evD g vs e.1 n))) from cl_O cl2]
                        refine exf_go 1 (show ((nI (lO (evL g vs e.1 (evD g vs e.1 n)))) = 0 → Go (d + 5) true 130 136 [.ref 10, .int 2, .int (nI jy), .int (lX e.1), .ref (44 + 3 * i), .int (nI (evD g vs e.1 n)), mk_] [] h2 Q) ∧ (¬ ((nI (lO (evL g vs e.1 (evD g vs e.1 n)))) = 0) → Go (d + 5) true 130 132 [.ref 10, .int 2, .int (nI jy), .int (lX e.1), .ref (44 + 3 * i), .int (nI (evD g vs e.1 n)), mk_] [] h2 Q) from ⟨fun c37 => ?_, fun c37 => ?_⟩)
                        · skip
                          have c37 : (lO (evL g vs e.1 (evD g vs e.1 n))) = 0 := (nI_eq (a := (lO (evL g vs e.1 (evD g vs e.1 n)))) (b := 0) (by omega) (by omega)).mp c37
                          refine exf_go 9 (show wpC (d + 5) true 36 [.ref 39, .ref 31, .ref (44 + 3 * i)] h2 (fun _ h' => Go (d + 5) true 130 164 [.ref 10, .int 2, .int (nI jy), .int (lX e.1), .ref (44 + 3 * i), .int (nI (evD g vs e.1 n)), .int 0] [] h' Q) from ?_)
                          refine c_takeBack i hi9 cs2 cl2 mk2 (fun h3 q3 cl3 => ?_)
                          have qs3 : ∀ a, 42 ≤ a → a ≤ 70 → (a < 44 + 3 * i ∨ 46 + 3 * i < a) → rI h3 a = rI h a := fun a u v z => (q3.I (fun x => sL3_f (by omega))).trans (qs2 a u v z)
                          show Go (d + 5) true 130 164 [.ref 10, .int 2, .int (nI jy), .int (lX e.1), .ref (44 + 3 * i), .int (nI (evD g vs e.1 n)), .int 0] [] h3 Q
                          refine exf_go 2 (show Q (.int 0) h3 from ?_)
                          simp only [fJudge, et, ey, hq] at k
                          have kk := k h3 (qh2.tr (l3_H q3)) ⟨cl3, i, ch_keep0 ch qs3⟩
                          rw [if_neg (by omega), if_neg (by omega), if_pos (by omega), show lO (evL g vs e.1 (evD g vs e.1 n)) = 0 from by omega] at kk; exact kk
                        · skip
                          have c37 : ¬ (lO (evL g vs e.1 (evD g vs e.1 n))) = 0 := fun q => c37 ((nI_eq (a := (lO (evL g vs e.1 (evD g vs e.1 n)))) (b := 0) (by omega) (by omega)).mpr q)
                          refine exf_go 10 (show wpC (d + 5) true 36 [.ref 39, .ref 31, .ref (44 + 3 * i)] h2 (fun _ h' => Go (d + 5) true 130 164 [.ref 10, .int 2, .int (nI jy), .int (lX e.1), .ref (44 + 3 * i), .int (nI (evD g vs e.1 n)), .int 1] [] h' Q) from ?_)
                          refine c_takeBack i hi9 cs2 cl2 mk2 (fun h3 q3 cl3 => ?_)
                          have qs3 : ∀ a, 42 ≤ a → a ≤ 70 → (a < 44 + 3 * i ∨ 46 + 3 * i < a) → rI h3 a = rI h a := fun a u v z => (q3.I (fun x => sL3_f (by omega))).trans (qs2 a u v z)
                          show Go (d + 5) true 130 164 [.ref 10, .int 2, .int (nI jy), .int (lX e.1), .ref (44 + 3 * i), .int (nI (evD g vs e.1 n)), .int 1] [] h3 Q
                          refine exf_go 2 (show Q (.int 1) h3 from ?_)
                          simp only [fJudge, et, ey, hq] at k
                          have kk := k h3 (qh2.tr (l3_H q3)) ⟨cl3, i, ch_keep0 ch qs3⟩
                          rw [if_neg (by omega), if_neg (by omega), if_pos (by omega), show lO (evL g vs e.1 (evD g vs e.1 n)) = 1 from by omega] at kk; exact kk
                    · skip
                      have c35 : jy = 1 := (nI_eq (a := jy) (b := 1) (by omega) (by omega)).mp (Classical.not_not.mp c35)
                      refine exf_go 3 (show Go (d + 5) true 130 110 [.ref 10, .int 2, .int (nI jy), .int (lX e.1), .ref (44 + 3 * i), .int (nI (evD g vs e.1 n)), mk_] [.int (rI h2 39 4)] h2 Q from ?_)
                      rw [show (rI h2 39 4 : Int32) = lX (evL g vs e.1 (evD g vs e.1 n)) from cl_X cl2]
                      refine exf_go 10 (show wpC (d + 5) true 36 [.ref 39, .ref 31, .ref (44 + 3 * i)] h2 (fun _ h' => Go (d + 5) true 130 164 [.ref 10, .int 2, .int (nI jy), .int (lX e.1), .ref (44 + 3 * i), .int (nI (evD g vs e.1 n)), .int ((lX (evL g vs e.1 (evD g vs e.1 n))) - (lX e.1))] [] h' Q) from ?_)
                      refine c_takeBack i hi9 cs2 cl2 mk2 (fun h3 q3 cl3 => ?_)
                      have qs3 : ∀ a, 42 ≤ a → a ≤ 70 → (a < 44 + 3 * i ∨ 46 + 3 * i < a) → rI h3 a = rI h a := fun a u v z => (q3.I (fun x => sL3_f (by omega))).trans (qs2 a u v z)
                      show Go (d + 5) true 130 164 [.ref 10, .int 2, .int (nI jy), .int (lX e.1), .ref (44 + 3 * i), .int (nI (evD g vs e.1 n)), .int ((lX (evL g vs e.1 (evD g vs e.1 n))) - (lX e.1))] [] h3 Q
                      refine exf_go 2 (show Q (.int ((lX (evL g vs e.1 (evD g vs e.1 n))) - (lX e.1))) h3 from ?_)
                      simp only [fJudge, et, ey, hq] at k
                      have kk := k h3 (qh2.tr (l3_H q3)) ⟨cl3, i, ch_keep0 ch qs3⟩
                      rw [if_neg (by omega), if_pos (by omega)] at kk; exact kk
                  · skip
                    have c34 : jy = 0 := (nI_eq (a := jy) (b := 0) (by omega) (by omega)).mp (Classical.not_not.mp c34)
                    refine exf_go 5 (show vp_in (2 : Int32) 4 ∧ (rN h2 87 2 = true → Go (d + 5) true 130 81 [.ref 10, .int 2, .int (nI jy), .int (lX e.1), .ref (44 + 3 * i), .int (nI (evD g vs e.1 n)), mk_] [.ref 92, .int (nI (evD g vs e.1 n))] h2 Q) ∧ (rN h2 87 2 = false → Go (d + 5) true 130 81 [.ref 10, .int 2, .int (nI jy), .int (lX e.1), .ref (44 + 3 * i), .int (nI (evD g vs e.1 n)), mk_] [.null, .int (nI (evD g vs e.1 n))] h2 Q) from ⟨vp_in_nI (n := 2) (by decide) (by decide), fun c38 => ?_, fun c38 => ?_⟩)
                    · skip
                      refine exf_go 1 (show Go (d + 5) true 130 84 [.ref 10, .int 2, .int (nI jy), .int (lX e.1), .ref (44 + 3 * i), .int (nI (evD g vs e.1 n)), mk_] [.int (rI h2 92 2), .int (nI (evD g vs e.1 n))] h2 Q from ?_)
                      rw [show (rI h2 92 2 : Int32) = nI n from ct2.2.2.2.1]
                      refine exf_go 1 (show ((nI n) ≤ (nI (evD g vs e.1 n)) → Go (d + 5) true 130 92 [.ref 10, .int 2, .int (nI jy), .int (lX e.1), .ref (44 + 3 * i), .int (nI (evD g vs e.1 n)), mk_] [] h2 Q) ∧ (¬ ((nI n) ≤ (nI (evD g vs e.1 n))) → Go (d + 5) true 130 87 [.ref 10, .int 2, .int (nI jy), .int (lX e.1), .ref (44 + 3 * i), .int (nI (evD g vs e.1 n)), mk_] [] h2 Q) from ⟨fun c39 => ?_, fun c39 => ?_⟩)
                      · skip
                        have c39 : n ≤ (evD g vs e.1 n) := (nI_leI (a := n) (b := (evD g vs e.1 n)) (by omega) (by omega)).mp c39
                        refine exf_go 9 (show wpC (d + 5) true 36 [.ref 39, .ref 31, .ref (44 + 3 * i)] h2 (fun _ h' => Go (d + 5) true 130 164 [.ref 10, .int 2, .int (nI jy), .int (lX e.1), .ref (44 + 3 * i), .int (nI (evD g vs e.1 n)), .int (-1)] [] h' Q) from ?_)
                        refine c_takeBack i hi9 cs2 cl2 mk2 (fun h3 q3 cl3 => ?_)
                        have qs3 : ∀ a, 42 ≤ a → a ≤ 70 → (a < 44 + 3 * i ∨ 46 + 3 * i < a) → rI h3 a = rI h a := fun a u v z => (q3.I (fun x => sL3_f (by omega))).trans (qs2 a u v z)
                        show Go (d + 5) true 130 164 [.ref 10, .int 2, .int (nI jy), .int (lX e.1), .ref (44 + 3 * i), .int (nI (evD g vs e.1 n)), .int (-1)] [] h3 Q
                        refine exf_go 2 (show Q (.int (-1)) h3 from ?_)
                        simp only [fJudge, et, ey, hq] at k
                        have kk := k h3 (qh2.tr (l3_H q3)) ⟨cl3, i, ch_keep0 ch qs3⟩
                        rw [if_pos (by omega), if_neg (by omega)] at kk; exact kk
                      · skip
                        have c39 : ¬ n ≤ (evD g vs e.1 n) := fun q => c39 ((nI_leI (a := n) (b := (evD g vs e.1 n)) (by omega) (by omega)).mpr q)
                        refine exf_go 10 (show wpC (d + 5) true 36 [.ref 39, .ref 31, .ref (44 + 3 * i)] h2 (fun _ h' => Go (d + 5) true 130 164 [.ref 10, .int 2, .int (nI jy), .int (lX e.1), .ref (44 + 3 * i), .int (nI (evD g vs e.1 n)), .int (nI (evD g vs e.1 n))] [] h' Q) from ?_)
                        refine c_takeBack i hi9 cs2 cl2 mk2 (fun h3 q3 cl3 => ?_)
                        have qs3 : ∀ a, 42 ≤ a → a ≤ 70 → (a < 44 + 3 * i ∨ 46 + 3 * i < a) → rI h3 a = rI h a := fun a u v z => (q3.I (fun x => sL3_f (by omega))).trans (qs2 a u v z)
                        show Go (d + 5) true 130 164 [.ref 10, .int 2, .int (nI jy), .int (lX e.1), .ref (44 + 3 * i), .int (nI (evD g vs e.1 n)), .int (nI (evD g vs e.1 n))] [] h3 Q
                        refine exf_go 2 (show Q (.int (nI (evD g vs e.1 n))) h3 from ?_)
                        simp only [fJudge, et, ey, hq] at k
                        have kk := k h3 (qh2.tr (l3_H q3)) ⟨cl3, i, ch_keep0 ch qs3⟩
                        rw [if_pos (by omega), if_pos (by omega)] at kk; exact kk
                    · skip
                      exact absurd (((wf2.2.2 87 2 rfl)).symm.trans c38) (by decide)
                · skip
                  exact absurd (((wf1.2.2 87 2 rfl)).symm.trans c33) (by decide)
              · skip
                exact absurd (by decide) c32
          · skip
            exact absurd (((wf.2.2 87 2 rfl)).symm.trans c30) (by decide)
        · skip
          have ey : ixN y 4 = none := ix_gt (n := 3) (by omega) c29
          refine exf_go 2 (show Q (.int (-2)) h from ?_)
          first | (simp only [fJudge, et] at k; exact k _ Fq.rfl' cd0) | (simp only [fJudge, et, ey] at k; exact k _ Fq.rfl' cd0)
  · skip
    subst etq
    show Go (d + 5) true 130 4 [.ref 10, .int 3, .int y, mk_, mk_, mk_, mk_] [.int 1] h Q
    refine exf_go 1 (show ((1 : Int32) = 0 → Go (d + 5) true 130 16 [.ref 10, .int 3, .int y, mk_, mk_, mk_, mk_] [] h Q) ∧ (¬ ((1 : Int32) = 0) → Go (d + 5) true 130 7 [.ref 10, .int 3, .int y, mk_, mk_, mk_, mk_] [] h Q) from ⟨fun c40 => ?_, fun c40 => ?_⟩)
    · skip
      exact absurd c40 (by decide)
    · skip
      refine exf_go 2 (show (y < 0 → Go (d + 5) true 130 16 [.ref 10, .int 3, .int y, mk_, mk_, mk_, mk_] [] h Q) ∧ (¬ (y < 0) → Go (d + 5) true 130 11 [.ref 10, .int 3, .int y, mk_, mk_, mk_, mk_] [] h Q) from ⟨fun c41 => ?_, fun c41 => ?_⟩)
      · skip
        have ey : ixN y 4 = none := ix_neg c41
        refine exf_go 2 (show Q (.int (-2)) h from ?_)
        first | (simp only [fJudge, et] at k; exact k _ Fq.rfl' cd0) | (simp only [fJudge, et, ey] at k; exact k _ Fq.rfl' cd0)
      · skip
        refine exf_go 3 (show (y ≤ 3 → Go (d + 5) true 130 19 [.ref 10, .int 3, .int y, mk_, mk_, mk_, mk_] [] h Q) ∧ (¬ (y ≤ 3) → Go (d + 5) true 130 16 [.ref 10, .int 3, .int y, mk_, mk_, mk_, mk_] [] h Q) from ⟨fun c42 => ?_, fun c42 => ?_⟩)
        · skip
          obtain ⟨jy, ey, eyq, eyr⟩ := ix_le (n := 3) (by omega) c41 c42
          subst eyq
          refine exf_go 4 (show vp_in (3 : Int32) 4 ∧ (rN h 87 3 = true → Go (d + 5) true 130 25 [.ref 10, .int 3, .int (nI jy), mk_, mk_, mk_, mk_] [.ref 94] h Q) ∧ (rN h 87 3 = false → Go (d + 5) true 130 25 [.ref 10, .int 3, .int (nI jy), mk_, mk_, mk_, mk_] [.null] h Q) from ⟨vp_in_nI (n := 3) (by decide) (by decide), fun c43 => ?_, fun c43 => ?_⟩)
          · skip
            refine exf_go 1 (show wpC (d + 5) true 102 [.ref 94] h (fun r h' => Go (d + 5) true 130 28 [.ref 10, .int 3, .int (nI jy), mk_, mk_, mk_, mk_] [r] h' Q) from ?_)
            rcases hq : tr 3 with _ | ⟨so, n, vs⟩
            · skip
              have ct : CT 3 none h := by have := ca 3 (by decide); rw [hq] at this; exact this
              refine c_miss13 ct ?_
              show Go (d + 5) true 130 28 [.ref 10, .int 3, .int (nI jy), mk_, mk_, mk_, mk_] [.int 1] h Q
              refine exf_go 1 (show ((1 : Int32) = 0 → Go (d + 5) true 130 34 [.ref 10, .int 3, .int (nI jy), mk_, mk_, mk_, mk_] [] h Q) ∧ (¬ ((1 : Int32) = 0) → Go (d + 5) true 130 31 [.ref 10, .int 3, .int (nI jy), mk_, mk_, mk_, mk_] [] h Q) from ⟨fun c44 => ?_, fun c44 => ?_⟩)
              · skip
                exact absurd c44 (by decide)
              · skip
                refine exf_go 2 (show Q (.int (-6)) h from ?_)
                simp only [fJudge, et, ey, hq] at k; exact k _ Fq.rfl' cd0
            · skip
              have ct : CT 3 (some (so, n, vs)) h := by have := ca 3 (by decide); rw [hq] at this; exact this
              have hn4 := ct.2.1; have hs3 := ct.1
              refine c_miss03 ct ?_
              show Go (d + 5) true 130 28 [.ref 10, .int 3, .int (nI jy), mk_, mk_, mk_, mk_] [.int 0] h Q
              refine exf_go 1 (show ((0 : Int32) = 0 → Go (d + 5) true 130 34 [.ref 10, .int 3, .int (nI jy), mk_, mk_, mk_, mk_] [] h Q) ∧ (¬ ((0 : Int32) = 0) → Go (d + 5) true 130 31 [.ref 10, .int 3, .int (nI jy), mk_, mk_, mk_, mk_] [] h Q) from ⟨fun c45 => ?_, fun c45 => ?_⟩)
              · skip
                refine exf_go 3 (show Go (d + 5) true 130 41 [.ref 10, .int 3, .int (nI jy), mk_, mk_, mk_, mk_] [.int (rI h 39 4)] h Q from ?_)
                rw [show (rI h 39 4 : Int32) = lX e.1 from cl_X cl]
                refine exf_go 6 (show wpC (d + 5) true 13 [.ref 42, .ref 39] h (fun r h' => Go (d + 5) true 130 53 [.ref 10, .int 3, .int (nI jy), .int (lX e.1), mk_, mk_, mk_] [r] h' Q) from ?_)
                refine c_mark i hi9 wf cs.1 cl ch.2.2.1 (fun h1 q1 mk1 => ?_)
                have cs1 := cs_H cs (mk_H hi9 q1); have cl1 := cl_mk cl q1
                have qs1 : ∀ a, 42 ≤ a → a ≤ 70 → (a < 44 + 3 * i ∨ 46 + 3 * i < a) → rI h1 a = rI h a := fun a u v z => q1.I (fun x => sMk_f z)
                have wf1 := q1.gq.2.2.2.1 wf
                show Go (d + 5) true 130 53 [.ref 10, .int 3, .int (nI jy), .int (lX e.1), mk_, mk_, mk_] [.ref (44 + 3 * i)] h1 Q
                refine exf_go 6 (show vp_in (3 : Int32) 4 ∧ (rN h1 87 3 = true → Go (d + 5) true 130 62 [.ref 10, .int 3, .int (nI jy), .int (lX e.1), .ref (44 + 3 * i), mk_, mk_] [.ref 94, .ref 10] h1 Q) ∧ (rN h1 87 3 = false → Go (d + 5) true 130 62 [.ref 10, .int 3, .int (nI jy), .int (lX e.1), .ref (44 + 3 * i), mk_, mk_] [.null, .ref 10] h1 Q) from ⟨vp_in_nI (n := 3) (by decide) (by decide), fun c46 => ?_, fun c46 => ?_⟩)
                · skip
                  refine exf_go 2 (show wpC (d + 5) true 172 [.ref 10, .ref 94, .ref (44 + 3 * i)] h1 (fun r h' => Go (d + 5) true 130 67 [.ref 10, .int 3, .int (nI jy), .int (lX e.1), .ref (44 + 3 * i), mk_, mk_] [r] h' Q) from ?_)
                  have ct1 := ct_H ct (mk_H hi9 q1); have wf1 := q1.gq.2.2.2.1 wf
                  refine c_tryT3 hi9 cs1 cl1 mk1 ct1 (fun h2 c2 q2 cl2 mk2 => ?_)
                  have qs2 := qs_lm qs1 q2; have hp2 := ch_p ch qs2; have qh2 : Fq scH h h2 := (mk_H hi9 q1).tr (lm_H hi9 q2)
                  have cs2 := cs_H cs qh2; have wf2 := qh2.gq.2.2.2.1 wf; have ct2 := ct_H ct qh2; have hdl := evD_le g vs e.1 n; have hO2 := cl2.1.2.1
                  show Go (d + 5) true 130 67 [.ref 10, .int 3, .int (nI jy), .int (lX e.1), .ref (44 + 3 * i), mk_, mk_] [.int (nI (evD g vs e.1 n))] h2 Q
                  refine exf_go 3 (show (¬ (nI jy) = 0 → Go (d + 5) true 130 98 [.ref 10, .int 3, .int (nI jy), .int (lX e.1), .ref (44 + 3 * i), .int (nI (evD g vs e.1 n)), mk_] [] h2 Q) ∧ (¬ (¬ (nI jy) = 0) → Go (d + 5) true 130 73 [.ref 10, .int 3, .int (nI jy), .int (lX e.1), .ref (44 + 3 * i), .int (nI (evD g vs e.1 n)), mk_] [] h2 Q) from ⟨fun c47 => ?_, fun c47 => ?_⟩)
                  · skip
                    have c47 : ¬ jy = 0 := fun q => c47 ((nI_eq (a := jy) (b := 0) (by omega) (by omega)).mpr q)
                    refine exf_go 3 (show (¬ (nI jy) = 1 → Go (d + 5) true 130 117 [.ref 10, .int 3, .int (nI jy), .int (lX e.1), .ref (44 + 3 * i), .int (nI (evD g vs e.1 n)), mk_] [] h2 Q) ∧ (¬ (¬ (nI jy) = 1) → Go (d + 5) true 130 103 [.ref 10, .int 3, .int (nI jy), .int (lX e.1), .ref (44 + 3 * i), .int (nI (evD g vs e.1 n)), mk_] [] h2 Q) from ⟨fun c48 => ?_, fun c48 => ?_⟩)
                    · skip
                      have c48 : ¬ jy = 1 := fun q => c48 ((nI_eq (a := jy) (b := 1) (by omega) (by omega)).mpr q)
                      refine exf_go 3 (show (¬ (nI jy) = 2 → Go (d + 5) true 130 142 [.ref 10, .int 3, .int (nI jy), .int (lX e.1), .ref (44 + 3 * i), .int (nI (evD g vs e.1 n)), mk_] [] h2 Q) ∧ (¬ (¬ (nI jy) = 2) → Go (d + 5) true 130 122 [.ref 10, .int 3, .int (nI jy), .int (lX e.1), .ref (44 + 3 * i), .int (nI (evD g vs e.1 n)), mk_] [] h2 Q) from ⟨fun c49 => ?_, fun c49 => ?_⟩)
                      · skip
                        have c49 : ¬ jy = 2 := fun q => c49 ((nI_eq (a := jy) (b := 2) (by omega) (by omega)).mpr q)
                        refine exf_go 3 (show wpC (d + 5) true 33 [.ref 39] h2 (fun r h' => Go (d + 5) true 130 149 [.ref 10, .int 3, .int (nI jy), .int (lX e.1), .ref (44 + 3 * i), .int (nI (evD g vs e.1 n)), mk_] [r] h' Q) from ?_)
                        refine c_leftOnes cs2 cl2 ?_
                        show Go (d + 5) true 130 149 [.ref 10, .int 3, .int (nI jy), .int (lX e.1), .ref (44 + 3 * i), .int (nI (evD g vs e.1 n)), mk_] [.int (nI (cntN (lft g (evL g vs e.1 (evD g vs e.1 n))) (tot g)))] h2 Q
                        refine exf_go 7 (show wpC (d + 5) true 36 [.ref 39, .ref 31, .ref (44 + 3 * i)] h2 (fun _ h' => Go (d + 5) true 130 164 [.ref 10, .int 3, .int (nI jy), .int (lX e.1), .ref (44 + 3 * i), .int (nI (evD g vs e.1 n)), .int (nI (cntN (lft g (evL g vs e.1 (evD g vs e.1 n))) (tot g)))] [] h' Q) from ?_)
                        refine c_takeBack i hi9 cs2 cl2 mk2 (fun h3 q3 cl3 => ?_)
                        have qs3 : ∀ a, 42 ≤ a → a ≤ 70 → (a < 44 + 3 * i ∨ 46 + 3 * i < a) → rI h3 a = rI h a := fun a u v z => (q3.I (fun x => sL3_f (by omega))).trans (qs2 a u v z)
                        show Go (d + 5) true 130 164 [.ref 10, .int 3, .int (nI jy), .int (lX e.1), .ref (44 + 3 * i), .int (nI (evD g vs e.1 n)), .int (nI (cntN (lft g (evL g vs e.1 (evD g vs e.1 n))) (tot g)))] [] h3 Q
                        refine exf_go 2 (show Q (.int (nI (cntN (lft g (evL g vs e.1 (evD g vs e.1 n))) (tot g)))) h3 from ?_)
                        simp only [fJudge, et, ey, hq] at k
                        have kk := k h3 (qh2.tr (l3_H q3)) ⟨cl3, i, ch_keep0 ch qs3⟩
                        rw [if_neg (by omega), if_neg (by omega), if_neg (by omega)] at kk; exact kk
                      · skip
                        have c49 : jy = 2 := (nI_eq (a := jy) (b := 2) (by omega) (by omega)).mp (Classical.not_not.mp c49)
                        refine exf_go 3 (show Go (d + 5) true 130 129 [.ref 10, .int 3, .int (nI jy), .int (lX e.1), .ref (44 + 3 * i), .int (nI (evD g vs e.1 n)), mk_] [.int (rI h2 39 7)] h2 Q from ?_)
                        rw [show (rI h2 39 7 : Int32) = nI (lO (evL g vs e.1 (evD g vs e.1 n))) from cl_O cl2]
                        refine exf_go 1 (show ((nI (lO (evL g vs e.1 (evD g vs e.1 n)))) = 0 → Go (d + 5) true 130 136 [.ref 10, .int 3, .int (nI jy), .int (lX e.1), .ref (44 + 3 * i), .int (nI (evD g vs e.1 n)), mk_] [] h2 Q) ∧ (¬ ((nI (lO (evL g vs e.1 (evD g vs e.1 n)))) = 0) → Go (d + 5) true 130 132 [.ref 10, .int 3, .int (nI jy), .int (lX e.1), .ref (44 + 3 * i), .int (nI (evD g vs e.1 n)), mk_] [] h2 Q) from ⟨fun c50 => ?_, fun c50 => ?_⟩)
                        · skip
                          have c50 : (lO (evL g vs e.1 (evD g vs e.1 n))) = 0 := (nI_eq (a := (lO (evL g vs e.1 (evD g vs e.1 n)))) (b := 0) (by omega) (by omega)).mp c50
                          refine exf_go 9 (show wpC (d + 5) true 36 [.ref 39, .ref 31, .ref (44 + 3 * i)] h2 (fun _ h' => Go (d + 5) true 130 164 [.ref 10, .int 3, .int (nI jy), .int (lX e.1), .ref (44 + 3 * i), .int (nI (evD g vs e.1 n)), .int 0] [] h' Q) from ?_)
                          refine c_takeBack i hi9 cs2 cl2 mk2 (fun h3 q3 cl3 => ?_)
                          have qs3 : ∀ a, 42 ≤ a → a ≤ 70 → (a < 44 + 3 * i ∨ 46 + 3 * i < a) → rI h3 a = rI h a := fun a u v z => (q3.I (fun x => sL3_f (by omega))).trans (qs2 a u v z)
                          show Go (d + 5) true 130 164 [.ref 10, .int 3, .int (nI jy), .int (lX e.1), .ref (44 + 3 * i), .int (nI (evD g vs e.1 n)), .int 0] [] h3 Q
                          refine exf_go 2 (show Q (.int 0) h3 from ?_)
                          simp only [fJudge, et, ey, hq] at k
                          have kk := k h3 (qh2.tr (l3_H q3)) ⟨cl3, i, ch_keep0 ch qs3⟩
                          rw [if_neg (by omega), if_neg (by omega), if_pos (by omega), show lO (evL g vs e.1 (evD g vs e.1 n)) = 0 from by omega] at kk; exact kk
                        · skip
                          have c50 : ¬ (lO (evL g vs e.1 (evD g vs e.1 n))) = 0 := fun q => c50 ((nI_eq (a := (lO (evL g vs e.1 (evD g vs e.1 n)))) (b := 0) (by omega) (by omega)).mpr q)
                          refine exf_go 10 (show wpC (d + 5) true 36 [.ref 39, .ref 31, .ref (44 + 3 * i)] h2 (fun _ h' => Go (d + 5) true 130 164 [.ref 10, .int 3, .int (nI jy), .int (lX e.1), .ref (44 + 3 * i), .int (nI (evD g vs e.1 n)), .int 1] [] h' Q) from ?_)
                          refine c_takeBack i hi9 cs2 cl2 mk2 (fun h3 q3 cl3 => ?_)
                          have qs3 : ∀ a, 42 ≤ a → a ≤ 70 → (a < 44 + 3 * i ∨ 46 + 3 * i < a) → rI h3 a = rI h a := fun a u v z => (q3.I (fun x => sL3_f (by omega))).trans (qs2 a u v z)
                          show Go (d + 5) true 130 164 [.ref 10, .int 3, .int (nI jy), .int (lX e.1), .ref (44 + 3 * i), .int (nI (evD g vs e.1 n)), .int 1] [] h3 Q
                          refine exf_go 2 (show Q (.int 1) h3 from ?_)
                          simp only [fJudge, et, ey, hq] at k
                          have kk := k h3 (qh2.tr (l3_H q3)) ⟨cl3, i, ch_keep0 ch qs3⟩
                          rw [if_neg (by omega), if_neg (by omega), if_pos (by omega), show lO (evL g vs e.1 (evD g vs e.1 n)) = 1 from by omega] at kk; exact kk
                    · skip
                      have c48 : jy = 1 := (nI_eq (a := jy) (b := 1) (by omega) (by omega)).mp (Classical.not_not.mp c48)
                      refine exf_go 3 (show Go (d + 5) true 130 110 [.ref 10, .int 3, .int (nI jy), .int (lX e.1), .ref (44 + 3 * i), .int (nI (evD g vs e.1 n)), mk_] [.int (rI h2 39 4)] h2 Q from ?_)
                      rw [show (rI h2 39 4 : Int32) = lX (evL g vs e.1 (evD g vs e.1 n)) from cl_X cl2]
                      refine exf_go 10 (show wpC (d + 5) true 36 [.ref 39, .ref 31, .ref (44 + 3 * i)] h2 (fun _ h' => Go (d + 5) true 130 164 [.ref 10, .int 3, .int (nI jy), .int (lX e.1), .ref (44 + 3 * i), .int (nI (evD g vs e.1 n)), .int ((lX (evL g vs e.1 (evD g vs e.1 n))) - (lX e.1))] [] h' Q) from ?_)
                      refine c_takeBack i hi9 cs2 cl2 mk2 (fun h3 q3 cl3 => ?_)
                      have qs3 : ∀ a, 42 ≤ a → a ≤ 70 → (a < 44 + 3 * i ∨ 46 + 3 * i < a) → rI h3 a = rI h a := fun a u v z => (q3.I (fun x => sL3_f (by omega))).trans (qs2 a u v z)
                      show Go (d + 5) true 130 164 [.ref 10, .int 3, .int (nI jy), .int (lX e.1), .ref (44 + 3 * i), .int (nI (evD g vs e.1 n)), .int ((lX (evL g vs e.1 (evD g vs e.1 n))) - (lX e.1))] [] h3 Q
                      refine exf_go 2 (show Q (.int ((lX (evL g vs e.1 (evD g vs e.1 n))) - (lX e.1))) h3 from ?_)
                      simp only [fJudge, et, ey, hq] at k
                      have kk := k h3 (qh2.tr (l3_H q3)) ⟨cl3, i, ch_keep0 ch qs3⟩
                      rw [if_neg (by omega), if_pos (by omega)] at kk; exact kk
                  · skip
                    have c47 : jy = 0 := (nI_eq (a := jy) (b := 0) (by omega) (by omega)).mp (Classical.not_not.mp c47)
                    refine exf_go 5 (show vp_in (3 : Int32) 4 ∧ (rN h2 87 3 = true → Go (d + 5) true 130 81 [.ref 10, .int 3, .int (nI jy), .int (lX e.1), .ref (44 + 3 * i), .int (nI (evD g vs e.1 n)), mk_] [.ref 94, .int (nI (evD g vs e.1 n))] h2 Q) ∧ (rN h2 87 3 = false → Go (d + 5) true 130 81 [.ref 10, .int 3, .int (nI jy), .int (lX e.1), .ref (44 + 3 * i), .int (nI (evD g vs e.1 n)), mk_] [.null, .int (nI (evD g vs e.1 n))] h2 Q) from ⟨vp_in_nI (n := 3) (by decide) (by decide), fun c51 => ?_, fun c51 => ?_⟩)
                    · skip
                      refine exf_go 1 (show Go (d + 5) true 130 84 [.ref 10, .int 3, .int (nI jy), .int (lX e.1), .ref (44 + 3 * i), .int (nI (evD g vs e.1 n)), mk_] [.int (rI h2 94 2), .int (nI (evD g vs e.1 n))] h2 Q from ?_)
                      rw [show (rI h2 94 2 : Int32) = nI n from ct2.2.2.2.1]
                      refine exf_go 1 (show ((nI n) ≤ (nI (evD g vs e.1 n)) → Go (d + 5) true 130 92 [.ref 10, .int 3, .int (nI jy), .int (lX e.1), .ref (44 + 3 * i), .int (nI (evD g vs e.1 n)), mk_] [] h2 Q) ∧ (¬ ((nI n) ≤ (nI (evD g vs e.1 n))) → Go (d + 5) true 130 87 [.ref 10, .int 3, .int (nI jy), .int (lX e.1), .ref (44 + 3 * i), .int (nI (evD g vs e.1 n)), mk_] [] h2 Q) from ⟨fun c52 => ?_, fun c52 => ?_⟩)
                      · skip
                        have c52 : n ≤ (evD g vs e.1 n) := (nI_leI (a := n) (b := (evD g vs e.1 n)) (by omega) (by omega)).mp c52
                        refine exf_go 9 (show wpC (d + 5) true 36 [.ref 39, .ref 31, .ref (44 + 3 * i)] h2 (fun _ h' => Go (d + 5) true 130 164 [.ref 10, .int 3, .int (nI jy), .int (lX e.1), .ref (44 + 3 * i), .int (nI (evD g vs e.1 n)), .int (-1)] [] h' Q) from ?_)
                        refine c_takeBack i hi9 cs2 cl2 mk2 (fun h3 q3 cl3 => ?_)
                        have qs3 : ∀ a, 42 ≤ a → a ≤ 70 → (a < 44 + 3 * i ∨ 46 + 3 * i < a) → rI h3 a = rI h a := fun a u v z => (q3.I (fun x => sL3_f (by omega))).trans (qs2 a u v z)
                        show Go (d + 5) true 130 164 [.ref 10, .int 3, .int (nI jy), .int (lX e.1), .ref (44 + 3 * i), .int (nI (evD g vs e.1 n)), .int (-1)] [] h3 Q
                        refine exf_go 2 (show Q (.int (-1)) h3 from ?_)
                        simp only [fJudge, et, ey, hq] at k
                        have kk := k h3 (qh2.tr (l3_H q3)) ⟨cl3, i, ch_keep0 ch qs3⟩
                        rw [if_pos (by omega), if_neg (by omega)] at kk; exact kk
                      · skip
                        have c52 : ¬ n ≤ (evD g vs e.1 n) := fun q => c52 ((nI_leI (a := n) (b := (evD g vs e.1 n)) (by omega) (by omega)).mpr q)
                        refine exf_go 10 (show wpC (d + 5) true 36 [.ref 39, .ref 31, .ref (44 + 3 * i)] h2 (fun _ h' => Go (d + 5) true 130 164 [.ref 10, .int 3, .int (nI jy), .int (lX e.1), .ref (44 + 3 * i), .int (nI (evD g vs e.1 n)), .int (nI (evD g vs e.1 n))] [] h' Q) from ?_)
                        refine c_takeBack i hi9 cs2 cl2 mk2 (fun h3 q3 cl3 => ?_)
                        have qs3 : ∀ a, 42 ≤ a → a ≤ 70 → (a < 44 + 3 * i ∨ 46 + 3 * i < a) → rI h3 a = rI h a := fun a u v z => (q3.I (fun x => sL3_f (by omega))).trans (qs2 a u v z)
                        show Go (d + 5) true 130 164 [.ref 10, .int 3, .int (nI jy), .int (lX e.1), .ref (44 + 3 * i), .int (nI (evD g vs e.1 n)), .int (nI (evD g vs e.1 n))] [] h3 Q
                        refine exf_go 2 (show Q (.int (nI (evD g vs e.1 n))) h3 from ?_)
                        simp only [fJudge, et, ey, hq] at k
                        have kk := k h3 (qh2.tr (l3_H q3)) ⟨cl3, i, ch_keep0 ch qs3⟩
                        rw [if_pos (by omega), if_pos (by omega)] at kk; exact kk
                    · skip
                      exact absurd (((wf2.2.2 87 3 rfl)).symm.trans c51) (by decide)
                · skip
                  exact absurd (((wf1.2.2 87 3 rfl)).symm.trans c46) (by decide)
              · skip
                exact absurd (by decide) c45
          · skip
            exact absurd (((wf.2.2 87 3 rfl)).symm.trans c43) (by decide)
        · skip
          have ey : ixN y 4 = none := ix_gt (n := 3) (by omega) c42
          refine exf_go 2 (show Q (.int (-2)) h from ?_)
          first | (simp only [fJudge, et] at k; exact k _ Fq.rfl' cd0) | (simp only [fJudge, et, ey] at k; exact k _ Fq.rfl' cd0)
  · skip
    show Go (d + 5) true 130 4 [.ref 10, .int x, .int y, mk_, mk_, mk_, mk_] [.int 0] h Q
    refine exf_go 1 (show ((0 : Int32) = 0 → Go (d + 5) true 130 16 [.ref 10, .int x, .int y, mk_, mk_, mk_, mk_] [] h Q) ∧ (¬ ((0 : Int32) = 0) → Go (d + 5) true 130 7 [.ref 10, .int x, .int y, mk_, mk_, mk_, mk_] [] h Q) from ⟨fun c53 => ?_, fun c53 => ?_⟩)
    · skip
      refine exf_go 2 (show Q (.int (-2)) h from ?_)
      first | (simp only [fJudge, et] at k; exact k _ Fq.rfl' cd0) | (simp only [fJudge, et, ey] at k; exact k _ Fq.rfl' cd0)
    · skip
      exact absurd (by decide) c53
