/-! Years by draws. -/
def nxD (x : Int32) : Int32 := 1103515245 * x + 12345
def drD (x : Int32) : Nat := (nxD x).toBitVec.toNat / 65536
theorem drD_b (x : Int32) : drD x < 65536 := by
  have := (nxD x).toBitVec.isLt
  unfold drD
  omega
theorem i_nI (x : Int32) : x = nI x.toBitVec.toNat := by
  apply Int32.toBitVec_inj.mp
  show x.toBitVec = BitVec.ofNat 32 (x.toBitVec.toNat)
  rw [BitVec.ofNat_toNat, BitVec.setWidth_eq]
theorem us_16 (x : Int32) : ((nxD x).toUInt32 >>> ((16 : Int32).toUInt32 &&& Int32.toUInt32 31)).toInt32 = nI (drD x) := by
  have h := pk_ushrN (n := (nxD x).toBitVec.toNat) (nxD x).toBitVec.isLt 16 16 (by decide)
  rw [← i_nI] at h
  exact h
/-- the k-th of those left, by numbers -/
def byN (g : ShG) (l : LkG) (k : Nat) : Nat := ordV (lft g l) (fun _ => 0) (tot g) k
theorem pos_0 (E : Nat → Bool) (N n : Nat) : pos E (fun _ => 0) N n = cntN E n := by
  unfold pos cLt cEq
  rw [cnt_0 (fun k => by simp), Nat.zero_add]
  exact cnt_cg n (fun k _ => by simp)
theorem byN_at {g : ShG} {l : LkG} {n : Nat} (hn : n < tot g) (h : lft g l n = true) : byN g l (cntN (lft g l) n) = n := by
  have := ordV_ok (lft g l) (fun _ => 0) (tot g) n hn h
  rw [pos_0] at this
  exact this
def nrN (g : ShG) (l : LkG) : Nat := ((nrL g l (tot g)).1).getD 0
theorem nr_some {p : Nat → Bool} {f : Nat → Nat} : ∀ N, 0 < cntN p N → ∃ b, (nrF p f N).1 = some b
  | 0, h => absurd h (Nat.lt_irrefl _)
  | N + 1, h => by
    rw [nrF]
    by_cases e : p N = true
    · rw [if_pos e]
      split
      · exact ⟨N, rfl⟩
      · split
        · exact ⟨N, rfl⟩
        · exact ⟨_, rfl⟩
    · rw [if_neg e]
      rw [cntN, if_neg e] at h
      exact nr_some N h
theorem nrN_e {g : ShG} {l : LkG} (h : 0 < cntN (lft g l) (tot g)) : fNearest g l = nI (nrN g l) ∧ nrN g l < tot g := by
  obtain ⟨b, e⟩ := nr_some (f := fun n => trn g (lA l) n) (tot g) h
  have e2 : (nrL g l (tot g)).1 = some b := e
  unfold fNearest nrN
  rw [e2]
  exact ⟨rfl, nrF_b _ b e⟩
def pkN (g : ShG) (l : LkG) (x : Int32) : Nat := if drD x % 3 = 0 then ordL g l 0 else if drD x % 3 = 1 then byN g l (drD (nxD x) % cntL g l) else nrN g l
def pkX (x : Int32) : Int32 := if drD x % 3 = 1 then nxD (nxD x) else nxD x
def yrF (g : ShG) (l : LkG) (x : Int32) : Nat → LkG × Int32 × Nat
  | 0 => (l, x, 0)
  | k + 1 => if lO (yrF g l x k).1 = 1 ∨ cntL g (yrF g l x k).1 = 0 then yrF g l x k else (tryL g (yrF g l x k).1 (pkN g (yrF g l x k).1 (yrF g l x k).2.1), pkX (yrF g l x k).2.1, (yrF g l x k).2.2 + 1)
def dYear (g : ShG) (e : DeG) (x y : Int32) : DeG × Int32 := match ixN (y - 1) 30 with
  | none => (e, -3)
  | some j => (if 0 < (yrF g e.1 x (j + 1)).2.2 then keepD e (yrF g e.1 x (j + 1)).1 else e, lX (yrF g e.1 x (j + 1)).1 - lX e.1)
theorem yr_no {g : ShG} {l : LkG} {x : Int32} {k : Nat} (h : lO (yrF g l x k).1 = 1 ∨ cntL g (yrF g l x k).1 = 0) : ∀ j, yrF g l x (k + j) = yrF g l x k
  | 0 => rfl
  | j + 1 => by
    rw [← Nat.add_assoc, yrF, yr_no h j, if_pos h]
theorem yr_end {g : ShG} {l : LkG} {x : Int32} {k n : Nat} (h : lO (yrF g l x k).1 = 1 ∨ cntL g (yrF g l x k).1 = 0) (hk : k ≤ n) : yrF g l x n = yrF g l x k := by
  have := yr_no h (n - k)
  rwa [show k + (n - k) = n from by omega] at this
theorem yr_go {g : ShG} {l : LkG} {x : Int32} {k : Nat} (h : ¬ (lO (yrF g l x k).1 = 1 ∨ cntL g (yrF g l x k).1 = 0)) : yrF g l x (k + 1) = (tryL g (yrF g l x k).1 (pkN g (yrF g l x k).1 (yrF g l x k).2.1), pkX (yrF g l x k).2.1, (yrF g l x k).2.2 + 1) := by rw [yrF, if_neg h]
theorem yr_le (g : ShG) (l : LkG) (x : Int32) : ∀ k, (yrF g l x k).2.2 ≤ k
  | 0 => Nat.le_refl _
  | k + 1 => by
    have := yr_le g l x k
    rw [yrF]
    split
    · omega
    · exact Nat.succ_le_succ this
theorem yr_0 (g : ShG) (l : LkG) (x : Int32) : ∀ k, (yrF g l x k).2.2 = 0 → (yrF g l x k).1 = l
  | 0, _ => rfl
  | k + 1, h => by
    rw [yrF] at h ⊢
    split at h
    · rename_i q
      rw [if_pos q]
      exact yr_0 g l x k h
    · exact absurd h (Nat.succ_ne_zero _)
theorem pkN_b {g : ShG} {l : LkG} (hc : 0 < cntN (lft g l) (tot g)) (x : Int32) : pkN g l x < tot g := by
  unfold pkN
  split
  · exact (ordE_in (E := lft g l) (g := g) (kn := evr g) hc).1
  · split
    · exact (ord_in (ordV_ok (lft g l) (fun _ => 0) (tot g)) (k := drD (nxD x) % cntL g l) (Nat.mod_lt _ hc)).1
    · exact (nrN_e hc).2
theorem LkW_yr {g : ShG} {l : LkG} (hl : LkW g l) (x : Int32) : ∀ k, LkW g (yrF g l x k).1
  | 0 => hl
  | k + 1 => by
    rw [yrF]
    split
    · exact LkW_yr hl x k
    · rename_i q
      exact LkW_try (LkW_yr hl x k) (pkN_b (Nat.pos_of_ne_zero (fun z => q (Or.inr z))) _)
theorem BarW_yr {g : ShG} {l : LkG} (hg : ShW g) (hb : BarW g l) (x : Int32) : ∀ k, BarW g (yrF g l x k).1
  | 0 => hb
  | k + 1 => by
    rw [yrF]
    split
    · exact BarW_yr hg hb x k
    · exact BarW_try hg (BarW_yr hg hb x k) _
/-- the first of those with the most weight is the first in order -/
theorem first_ord {g : ShG} {l : LkG} {b : Nat} (hg : ShW g) (hb : b < tot g) (h0 : 0 < lwt g l b) (h1 : ∀ j, j < tot g → lwt g l j ≤ lwt g l b) (h2 : ∀ j, j < b → lwt g l j < lwt g l b) : ordL g l 0 = b := by
  have hw : ∀ j, lft g l j = true → lwt g l j = wtK g (evr g) (sH g j) := fun j e => by rw [lwt, e]; rfl
  have hf : lft g l b = true := by
    cases e : lft g l b
    · rw [lwt, e] at h0; exact absurd h0 (Nat.lt_irrefl _)
    · rfl
  have hk : ∀ j, lft g l j = true → key g (evr g) j = 100000000 - lwt g l j := fun j e => by rw [hw j e]; rfl
  have hp : pos (lft g l) (key g (evr g)) (tot g) b = 0 := by
    unfold pos cLt cEq
    rw [cnt_cg (q := fun _ => false) (tot g) (fun j hj => ?_), cnt_cg (q := fun _ => false) b (fun j hj => ?_), cnt_0 (fun _ => rfl), cnt_0 (fun _ => rfl)]
    · cases e : lft g l j
      · rfl
      · rw [Bool.true_and, hk j e, hk b hf]
        have := h2 j hj
        have := lwt_b hg l b
        exact decide_eq_false (by omega)
    · cases e : lft g l j
      · rfl
      · rw [Bool.true_and, hk j e, hk b hf]
        have := h1 j hj
        exact decide_eq_false (by omega)
  have := ordV_ok (lft g l) (key g (evr g)) (tot g) b hb hf
  rw [hp] at this
  exact this
def s17 (a x : Nat) : Bool := Nat.beq a 10 && Nat.beq x 17
theorem c_nextDraw {d : Nat} {h : Hp} {x : Int32} {Q : Po} (hx : rI h 10 17 = x) (k : Q (.int (nI (drD x))) (uI h 10 17 (nxD x))) : wpC (d + 1) true 173 [.ref 10] h Q := by
  refine go_in rfl ?_
  refine exf_go 4 (show Go d true 173 8 [.ref 10] [.int (rI h 10 17), .int 1103515245, .ref 10] h Q from ?_)
  rw [show (rI h 10 17 : Int32) = x from hx]
  refine exf_go 3 (show Go d true 173 13 [.ref 10] [.int ((1103515245 * x) + 12345), .ref 10] h Q from ?_)
  rw [show ((1103515245 * x) + 12345 : Int32) = nxD x from rfl]
  refine exf_go 5 (show Go d true 173 23 [.ref 10] [.int (((nxD x).toUInt32 >>> ((16 : Int32).toUInt32 &&& Int32.toUInt32 31)).toInt32)] (uI h 10 17 (nxD x)) Q from ?_)
  rw [show (((nxD x).toUInt32 >>> ((16 : Int32).toUInt32 &&& Int32.toUInt32 31)).toInt32 : Int32) = nI (drD x) from us_16 x]
  refine exf_go 1 (show Q (.int (nI (drD x))) (uI h 10 17 (nxD x)) from ?_)
  exact k
theorem c_first {d : Nat} {h : Hp} {g : ShG} {l : LkG} {Q : Po} (cs : CS 31 g h) (cl : CL 39 g l h) (hc : 0 < cntN (lft g l) (tot g)) (k : Q (.int (nI (ordL g l 0))) h) : wpC (d + 4) true 175 [.ref 10] h Q := by
  have hN := tot_b cs.1
  refine go_in rfl ?_
  refine exf_go 6 (show Go (d + 3) true 175 7 [.ref 10, .int (-1), .long 0, mk_, .int 0, mk_, mk_] [] h Q from ?_)
  have L7 : ∀ (k7 : Nat) (z5 : Value) (n : Nat) (o : Option Nat) (m : Nat), (tot g - n) < k7 → (n ≤ tot g) → (o = none → m = 0 ∧ ∀ j, j < n → lwt g l j = 0) → (∀ b, o = some b → b < n ∧ m = lwt g l b ∧ 0 < m ∧ (∀ j, j < n → lwt g l j ≤ m) ∧ ∀ j, j < b → lwt g l j < m) → Go (d + 3) true 175 7 [.ref 10, .int (oI o), .long (lN m), mk_, .int (nI n), z5, mk_] [] h Q := by
    intro k7
    induction k7 with
    | zero => intro z5 n o m hk; exact absurd hk (Nat.not_lt_zero _)
    | succ k7 ih7 =>
      intro z5 n o m hk hn h0 hb
      have hlb := lwt_b cs.1 l n
      rcases o with _ | b
      · skip
        have hle : ∀ j, j < n → lwt g l j ≤ m := fun j hj => by have := (h0 rfl).2 j hj; omega
        have hmb : m ≤ 100000000 := by have := (h0 rfl).1; omega
        show Go (d + 3) true 175 7 [.ref 10, .int (-1), .long (lN m), mk_, .int (nI n), z5, mk_] [] h Q
        refine exf_go 4 (show Go (d + 3) true 175 16 [.ref 10, .int (-1), .long (lN m), mk_, .int (nI n), z5, mk_] [.int (rI h 31 5), .int (nI n)] h Q from ?_)
        rw [show (rI h 31 5 : Int32) = nI (tot g) from cs_N cs]
        refine exf_go 1 (show ((nI (tot g)) ≤ (nI n) → Go (d + 3) true 175 46 [.ref 10, .int (-1), .long (lN m), mk_, .int (nI n), z5, mk_] [] h Q) ∧ (¬ ((nI (tot g)) ≤ (nI n)) → Go (d + 3) true 175 19 [.ref 10, .int (-1), .long (lN m), mk_, .int (nI n), z5, mk_] [] h Q) from ⟨fun c1 => ?_, fun c1 => ?_⟩)
        · skip
          have c1 : (tot g) ≤ n := (nI_leI (a := (tot g)) (b := n) (by omega) (by omega)).mp c1
          refine exf_go 2 (show Q (.int (-1)) h from ?_)
          exfalso
          obtain ⟨z, hz, ez⟩ := cnt_ex _ hc
          have h9 := (h0 rfl).2 z (by omega)
          rw [lwt, ez] at h9
          have h8 := sumL_pos cs.1 hc
          have h7 : sumL g l = 0 := by unfold sumL; rw [sumN_cg _ (f2 := fun _ => 0) (fun j hj => (h0 rfl).2 j (by omega)), sumN_0]
          omega
        · skip
          have c1 : ¬ (tot g) ≤ n := fun q => c1 ((nI_leI (a := (tot g)) (b := n) (by omega) (by omega)).mpr q)
          refine exf_go 3 (show wpC (d + 3) true 164 [.ref 10, .int (nI n)] h (fun r h' => Go (d + 3) true 175 25 [.ref 10, .int (-1), .long (lN m), mk_, .int (nI n), z5, mk_] [r] h' Q) from ?_)
          refine c_leftWeight cs cl (by omega) ?_
          have := lwt_b cs.1 l n
          show Go (d + 3) true 175 25 [.ref 10, .int (-1), .long (lN m), mk_, .int (nI n), z5, mk_] [.long (lN (lwt g l n))] h Q
          refine exf_go 5 (show ((lg_cmp (lN (lwt g l n)) (lN m)) ≤ 0 → Go (d + 3) true 175 40 [.ref 10, .int (-1), .long (lN m), mk_, .int (nI n), .long (lN (lwt g l n)), mk_] [] h Q) ∧ (¬ ((lg_cmp (lN (lwt g l n)) (lN m)) ≤ 0) → Go (d + 3) true 175 34 [.ref 10, .int (-1), .long (lN m), mk_, .int (nI n), .long (lN (lwt g l n)), mk_] [] h Q) from ⟨fun c2 => ?_, fun c2 => ?_⟩)
          · skip
            have c2 : (lN (lwt g l n)) ≤ (lN m) := (lg_cmp_le _ _).mp c2
            have c2 : (lwt g l n) ≤ m := (pk_lLE (a := (lwt g l n)) (b := m) (by omega) (by omega)).mp c2
            refine exf_go 1 (show Go (d + 3) true 175 43 [.ref 10, .int (-1), .long (lN m), mk_, .int ((nI n) + 1), .long (lN (lwt g l n)), mk_] [] h Q from ?_)
            rw [show ((nI n) + 1 : Int32) = nI (n + 1) from nI_add n 1]
            refine exf_go 1 (show Go (d + 3) true 175 7 [.ref 10, .int (-1), .long (lN m), mk_, .int (nI (n + 1)), .long (lN (lwt g l n)), mk_] [] h Q from ?_)
            exact ih7 (.long (lN (lwt g l n))) (n + 1) none m (by omega) (by omega) (fun _ => ⟨(h0 rfl).1, fun j hj => (Nat.lt_or_eq_of_le (Nat.le_of_lt_succ hj)).elim (fun z => (h0 rfl).2 j z) (fun z => by rw [z]; have := (h0 rfl).1; omega)⟩) (fun b2 q => absurd q (by simp))
          · skip
            have c2 : ¬ ((lN (lwt g l n)) ≤ (lN m)) := fun q => c2 ((lg_cmp_le _ _).mpr q)
            have c2 : ¬ ((lwt g l n) ≤ m) := fun q => c2 ((pk_lLE (a := (lwt g l n)) (b := m) (by omega) (by omega)).mpr q)
            refine exf_go 5 (show Go (d + 3) true 175 43 [.ref 10, .int (nI n), .long (lN (lwt g l n)), mk_, .int ((nI n) + 1), .long (lN (lwt g l n)), mk_] [] h Q from ?_)
            rw [show ((nI n) + 1 : Int32) = nI (n + 1) from nI_add n 1]
            refine exf_go 1 (show Go (d + 3) true 175 7 [.ref 10, .int (nI n), .long (lN (lwt g l n)), mk_, .int (nI (n + 1)), .long (lN (lwt g l n)), mk_] [] h Q from ?_)
            exact ih7 (.long (lN (lwt g l n))) (n + 1) (some n) (lwt g l n) (by omega) (by omega) (fun q => absurd q (by simp)) (fun b2 q => by cases q; exact ⟨by omega, rfl, by omega, fun j hj => (Nat.lt_or_eq_of_le (Nat.le_of_lt_succ hj)).elim (fun z => by have := hle j z; omega) (fun z => by rw [z]; exact Nat.le_refl _), fun j hj => by have := hle j hj; omega⟩)
      · skip
        have hob := hb b rfl; have hle := hob.2.2.2.1; have hmb : m ≤ 100000000 := by have := lwt_b cs.1 l b; omega
        show Go (d + 3) true 175 7 [.ref 10, .int (nI b), .long (lN m), mk_, .int (nI n), z5, mk_] [] h Q
        refine exf_go 4 (show Go (d + 3) true 175 16 [.ref 10, .int (nI b), .long (lN m), mk_, .int (nI n), z5, mk_] [.int (rI h 31 5), .int (nI n)] h Q from ?_)
        rw [show (rI h 31 5 : Int32) = nI (tot g) from cs_N cs]
        refine exf_go 1 (show ((nI (tot g)) ≤ (nI n) → Go (d + 3) true 175 46 [.ref 10, .int (nI b), .long (lN m), mk_, .int (nI n), z5, mk_] [] h Q) ∧ (¬ ((nI (tot g)) ≤ (nI n)) → Go (d + 3) true 175 19 [.ref 10, .int (nI b), .long (lN m), mk_, .int (nI n), z5, mk_] [] h Q) from ⟨fun c3 => ?_, fun c3 => ?_⟩)
        · skip
          have c3 : (tot g) ≤ n := (nI_leI (a := (tot g)) (b := n) (by omega) (by omega)).mp c3
          refine exf_go 2 (show Q (.int (nI b)) h from ?_)
          rw [first_ord (b := b) cs.1 (by omega) (by have := hob.2.1; have := hob.2.2.1; omega) (fun j hj => by have := hob.2.2.2.1 j (by omega); have := hob.2.1; omega) (fun j hj => by have := hob.2.2.2.2 j hj; have := hob.2.1; omega)] at k; exact k
        · skip
          have c3 : ¬ (tot g) ≤ n := fun q => c3 ((nI_leI (a := (tot g)) (b := n) (by omega) (by omega)).mpr q)
          refine exf_go 3 (show wpC (d + 3) true 164 [.ref 10, .int (nI n)] h (fun r h' => Go (d + 3) true 175 25 [.ref 10, .int (nI b), .long (lN m), mk_, .int (nI n), z5, mk_] [r] h' Q) from ?_)
          refine c_leftWeight cs cl (by omega) ?_
          have := lwt_b cs.1 l n
          show Go (d + 3) true 175 25 [.ref 10, .int (nI b), .long (lN m), mk_, .int (nI n), z5, mk_] [.long (lN (lwt g l n))] h Q
          refine exf_go 5 (show ((lg_cmp (lN (lwt g l n)) (lN m)) ≤ 0 → Go (d + 3) true 175 40 [.ref 10, .int (nI b), .long (lN m), mk_, .int (nI n), .long (lN (lwt g l n)), mk_] [] h Q) ∧ (¬ ((lg_cmp (lN (lwt g l n)) (lN m)) ≤ 0) → Go (d + 3) true 175 34 [.ref 10, .int (nI b), .long (lN m), mk_, .int (nI n), .long (lN (lwt g l n)), mk_] [] h Q) from ⟨fun c4 => ?_, fun c4 => ?_⟩)
          · skip
            have c4 : (lN (lwt g l n)) ≤ (lN m) := (lg_cmp_le _ _).mp c4
            have c4 : (lwt g l n) ≤ m := (pk_lLE (a := (lwt g l n)) (b := m) (by omega) (by omega)).mp c4
            refine exf_go 1 (show Go (d + 3) true 175 43 [.ref 10, .int (nI b), .long (lN m), mk_, .int ((nI n) + 1), .long (lN (lwt g l n)), mk_] [] h Q from ?_)
            rw [show ((nI n) + 1 : Int32) = nI (n + 1) from nI_add n 1]
            refine exf_go 1 (show Go (d + 3) true 175 7 [.ref 10, .int (nI b), .long (lN m), mk_, .int (nI (n + 1)), .long (lN (lwt g l n)), mk_] [] h Q from ?_)
            exact ih7 (.long (lN (lwt g l n))) (n + 1) (some b) m (by omega) (by omega) (fun q => absurd q (by simp)) (fun b2 q => by cases q; exact ⟨by omega, hob.2.1, hob.2.2.1, fun j hj => (Nat.lt_or_eq_of_le (Nat.le_of_lt_succ hj)).elim (fun z => hob.2.2.2.1 j z) (fun z => by rw [z]; omega), hob.2.2.2.2⟩)
          · skip
            have c4 : ¬ ((lN (lwt g l n)) ≤ (lN m)) := fun q => c4 ((lg_cmp_le _ _).mpr q)
            have c4 : ¬ ((lwt g l n) ≤ m) := fun q => c4 ((pk_lLE (a := (lwt g l n)) (b := m) (by omega) (by omega)).mpr q)
            refine exf_go 5 (show Go (d + 3) true 175 43 [.ref 10, .int (nI n), .long (lN (lwt g l n)), mk_, .int ((nI n) + 1), .long (lN (lwt g l n)), mk_] [] h Q from ?_)
            rw [show ((nI n) + 1 : Int32) = nI (n + 1) from nI_add n 1]
            refine exf_go 1 (show Go (d + 3) true 175 7 [.ref 10, .int (nI n), .long (lN (lwt g l n)), mk_, .int (nI (n + 1)), .long (lN (lwt g l n)), mk_] [] h Q from ?_)
            exact ih7 (.long (lN (lwt g l n))) (n + 1) (some n) (lwt g l n) (by omega) (by omega) (fun q => absurd q (by simp)) (fun b2 q => by cases q; exact ⟨by omega, rfl, by omega, fun j hj => (Nat.lt_or_eq_of_le (Nat.le_of_lt_succ hj)).elim (fun z => by have := hle j z; omega) (fun z => by rw [z]; exact Nat.le_refl _), fun j hj => by have := hle j hj; omega⟩)
  exact L7 (tot g + 1) mk_ 0 none 0 (by omega) (by omega) (fun _ => ⟨rfl, fun j hj => absurd hj (Nat.not_lt_zero _)⟩) (fun b q => absurd q (by simp))
theorem c_byN {d : Nat} {h : Hp} {g : ShG} {l : LkG} {j : Nat} {Q : Po} (cs : CS 31 g h) (cl : CL 39 g l h) (hj : j < cntN (lft g l) (tot g)) (k : Q (.int (nI (byN g l j))) h) : wpC (d + 3) true 176 [.ref 10, .int (nI j)] h Q := by
  have hN := tot_b cs.1
  have hcc := cntN_le (lft g l) (tot g)
  refine go_in rfl ?_
  refine exf_go 4 (show Go (d + 2) true 176 4 [.ref 10, .int (nI j), .int 0, .int 0] [] h Q from ?_)
  have L4 : ∀ (k4 : Nat) (n s : Nat), (tot g - n) < k4 → (n ≤ tot g) → (s = cntN (lft g l) n) → (s ≤ j) → Go (d + 2) true 176 4 [.ref 10, .int (nI j), .int (nI s), .int (nI n)] [] h Q := by
    intro k4
    induction k4 with
    | zero => intro n s hk; exact absurd hk (Nat.not_lt_zero _)
    | succ k4 ih4 =>
      intro n s hk hn hs hsj
      refine exf_go 4 (show Go (d + 2) true 176 12 [.ref 10, .int (nI j), .int (nI s), .int (nI n)] [.int (rI h 31 5), .int (nI n)] h Q from ?_)
      rw [show (rI h 31 5 : Int32) = nI (tot g) from cs_N cs]
      refine exf_go 1 (show ((nI (tot g)) ≤ (nI n) → Go (d + 2) true 176 42 [.ref 10, .int (nI j), .int (nI s), .int (nI n)] [] h Q) ∧ (¬ ((nI (tot g)) ≤ (nI n)) → Go (d + 2) true 176 15 [.ref 10, .int (nI j), .int (nI s), .int (nI n)] [] h Q) from ⟨fun c1 => ?_, fun c1 => ?_⟩)
      · skip
        have c1 : (tot g) ≤ n := (nI_leI (a := (tot g)) (b := n) (by omega) (by omega)).mp c1
        refine exf_go 2 (show Q (.int (-1)) h from ?_)
        exfalso; rw [show n = tot g from by omega] at hs; omega
      · skip
        have c1 : ¬ (tot g) ≤ n := fun q => c1 ((nI_leI (a := (tot g)) (b := n) (by omega) (by omega)).mpr q)
        refine exf_go 4 (show wpC (d + 2) true 31 [.ref 39, .int (nI n)] h (fun r h' => Go (d + 2) true 176 23 [.ref 10, .int (nI j), .int (nI s), .int (nI n)] [r] h' Q) from ?_)
        refine c_isLeft cs cl (by omega) (fun b2 => ?_) (fun b2 => ?_)
        · skip
          show Go (d + 2) true 176 23 [.ref 10, .int (nI j), .int (nI s), .int (nI n)] [.int 1] h Q
          refine exf_go 1 (show ((1 : Int32) = 0 → Go (d + 2) true 176 36 [.ref 10, .int (nI j), .int (nI s), .int (nI n)] [] h Q) ∧ (¬ ((1 : Int32) = 0) → Go (d + 2) true 176 26 [.ref 10, .int (nI j), .int (nI s), .int (nI n)] [] h Q) from ⟨fun c3 => ?_, fun c3 => ?_⟩)
          · skip
            exact absurd c3 (by decide)
          · skip
            refine exf_go 3 (show (¬ (nI s) = (nI j) → Go (d + 2) true 176 33 [.ref 10, .int (nI j), .int (nI s), .int (nI n)] [] h Q) ∧ (¬ (¬ (nI s) = (nI j)) → Go (d + 2) true 176 31 [.ref 10, .int (nI j), .int (nI s), .int (nI n)] [] h Q) from ⟨fun c4 => ?_, fun c4 => ?_⟩)
            · skip
              have c4 : ¬ s = j := fun q => c4 ((nI_eq (a := s) (b := j) (by omega) (by omega)).mpr q)
              refine exf_go 1 (show Go (d + 2) true 176 36 [.ref 10, .int (nI j), .int ((nI s) + 1), .int (nI n)] [] h Q from ?_)
              rw [show ((nI s) + 1 : Int32) = nI (s + 1) from nI_add s 1]
              refine exf_go 1 (show Go (d + 2) true 176 39 [.ref 10, .int (nI j), .int (nI (s + 1)), .int ((nI n) + 1)] [] h Q from ?_)
              rw [show ((nI n) + 1 : Int32) = nI (n + 1) from nI_add n 1]
              refine exf_go 1 (show Go (d + 2) true 176 4 [.ref 10, .int (nI j), .int (nI (s + 1)), .int (nI (n + 1))] [] h Q from ?_)
              exact ih4 (n + 1) (s + 1) (by omega) (by omega) (by exact cn_y hs (by assumption)) (by omega)
            · skip
              have c4 : s = j := (nI_eq (a := s) (b := j) (by omega) (by omega)).mp (Classical.not_not.mp c4)
              refine exf_go 2 (show Q (.int (nI n)) h from ?_)
              have e := byN_at (g := g) (l := l) (n := n) (by omega) (by assumption)
              rw [← hs, show s = j from by omega] at e
              rw [e] at k; exact k
        · skip
          show Go (d + 2) true 176 23 [.ref 10, .int (nI j), .int (nI s), .int (nI n)] [.int 0] h Q
          refine exf_go 1 (show ((0 : Int32) = 0 → Go (d + 2) true 176 36 [.ref 10, .int (nI j), .int (nI s), .int (nI n)] [] h Q) ∧ (¬ ((0 : Int32) = 0) → Go (d + 2) true 176 26 [.ref 10, .int (nI j), .int (nI s), .int (nI n)] [] h Q) from ⟨fun c5 => ?_, fun c5 => ?_⟩)
          · skip
            refine exf_go 1 (show Go (d + 2) true 176 39 [.ref 10, .int (nI j), .int (nI s), .int ((nI n) + 1)] [] h Q from ?_)
            rw [show ((nI n) + 1 : Int32) = nI (n + 1) from nI_add n 1]
            refine exf_go 1 (show Go (d + 2) true 176 4 [.ref 10, .int (nI j), .int (nI s), .int (nI (n + 1))] [] h Q from ?_)
            exact ih4 (n + 1) s (by omega) (by omega) (by exact cn_n hs (by assumption)) (by omega)
          · skip
            exact absurd (by decide) c5
  exact L4 (tot g + 1) 0 0 (by omega) (by omega) rfl (by omega)
theorem cs_17 {g : ShG} {h : Hp} (cs : CS 31 g h) (v : Int32) : CS 31 g (uI h 10 17 v) := cs_same cs (fun a _ _ => rI_uI_ne (by omega))
theorem cl_17 {g : ShG} {l : LkG} {h : Hp} (cl : CL 39 g l h) (v : Int32) : CL 39 g l (uI h 10 17 v) := cl_same cl rfl rfl rfl rfl
theorem c_draw {d : Nat} {h : Hp} {g : ShG} {l : LkG} {x : Int32} {Q : Po} (cs : CS 31 g h) (cl : CL 39 g l h) (hc : 0 < cntN (lft g l) (tot g)) (hx : rI h 10 17 = x) (k : ∀ h1, Fq s17 h h1 → rI h1 10 17 = pkX x → Q (.int (nI (pkN g l x))) h1) : wpC (d + 5) true 174 [.ref 10, .int (nI (cntN (lft g l) (tot g)))] h Q := by
  have hN := tot_b cs.1
  have hcc := cntN_le (lft g l) (tot g)
  refine go_in rfl ?_
  refine exf_go 2 (show wpC (d + 4) true 173 [.ref 10] h (fun r h' => Go (d + 4) true 174 4 [.ref 10, .int (nI (cntN (lft g l) (tot g))), mk_] [r] h' Q) from ?_)
  refine c_nextDraw (x := x) hx ?_
  have hdb1 := drD_b x
  show Go (d + 4) true 174 4 [.ref 10, .int (nI (cntN (lft g l) (tot g))), mk_] [.int (nI (drD x))] (uI h 10 17 (nxD x)) Q
  refine exf_go 2 (show ¬ 3 = 0 ∧ (Go (d + 4) true 174 6 [.ref 10, .int (nI (cntN (lft g l) (tot g))), mk_] [.int ((nI (drD x)) - (nI (drD x)) / 3 * 3)] (uI h 10 17 (nxD x)) Q) from ⟨(by decide), ?_⟩)
  rw [show ((nI (drD x)) - (nI (drD x)) / 3 * 3 : Int32) = nI ((drD x) % 3) from pk_rem (a := (drD x)) (d := 3) (by omega) (by omega) (by omega)]
  refine exf_go 3 (show (¬ (nI ((drD x) % 3)) = 0 → Go (d + 4) true 174 16 [.ref 10, .int (nI (cntN (lft g l) (tot g))), .int (nI ((drD x) % 3))] [] (uI h 10 17 (nxD x)) Q) ∧ (¬ (¬ (nI ((drD x) % 3)) = 0) → Go (d + 4) true 174 11 [.ref 10, .int (nI (cntN (lft g l) (tot g))), .int (nI ((drD x) % 3))] [] (uI h 10 17 (nxD x)) Q) from ⟨fun c1 => ?_, fun c1 => ?_⟩)
  · skip
    have c1 : ¬ ((drD x) % 3) = 0 := fun q => c1 ((nI_eq (a := ((drD x) % 3)) (b := 0) (by omega) (by omega)).mpr q)
    refine exf_go 3 (show (¬ (nI ((drD x) % 3)) = 1 → Go (d + 4) true 174 40 [.ref 10, .int (nI (cntN (lft g l) (tot g))), .int (nI ((drD x) % 3))] [] (uI h 10 17 (nxD x)) Q) ∧ (¬ (¬ (nI ((drD x) % 3)) = 1) → Go (d + 4) true 174 21 [.ref 10, .int (nI (cntN (lft g l) (tot g))), .int (nI ((drD x) % 3))] [] (uI h 10 17 (nxD x)) Q) from ⟨fun c2 => ?_, fun c2 => ?_⟩)
    · skip
      have c2 : ¬ ((drD x) % 3) = 1 := fun q => c2 ((nI_eq (a := ((drD x) % 3)) (b := 1) (by omega) (by omega)).mpr q)
      refine exf_go 2 (show wpC (d + 4) true 177 [.ref 10] (uI h 10 17 (nxD x)) (fun r h' => Go (d + 4) true 174 44 [.ref 10, .int (nI (cntN (lft g l) (tot g))), .int (nI ((drD x) % 3))] [r] h' Q) from ?_)
      refine c_nearestLeft (cs_17 cs _) (cl_17 cl _) ?_
      rw [(nrN_e hc).1]
      show Go (d + 4) true 174 44 [.ref 10, .int (nI (cntN (lft g l) (tot g))), .int (nI ((drD x) % 3))] [.int (nI (nrN g l))] (uI h 10 17 (nxD x)) Q
      refine exf_go 1 (show Q (.int (nI (nrN g l))) (uI h 10 17 (nxD x)) from ?_)
      have ea : pkX x = nxD x := by unfold pkX; rw [if_neg (by omega)]
      have eb : pkN g l x = nrN g l := by unfold pkN; rw [if_neg (by omega), if_neg (by omega)]
      rw [ea, eb] at k
      exact k _ (Fq.uI' Fq.rfl' _ _ _ rfl) rI_uI_eq
    · skip
      have c2 : ((drD x) % 3) = 1 := (nI_eq (a := ((drD x) % 3)) (b := 1) (by omega) (by omega)).mp (Classical.not_not.mp c2)
      refine exf_go 2 (show (¬ (nI (cntN (lft g l) (tot g))) = 0 → Go (d + 4) true 174 29 [.ref 10, .int (nI (cntN (lft g l) (tot g))), .int (nI ((drD x) % 3))] [] (uI h 10 17 (nxD x)) Q) ∧ (¬ (¬ (nI (cntN (lft g l) (tot g))) = 0) → Go (d + 4) true 174 25 [.ref 10, .int (nI (cntN (lft g l) (tot g))), .int (nI ((drD x) % 3))] [] (uI h 10 17 (nxD x)) Q) from ⟨fun c3 => ?_, fun c3 => ?_⟩)
      · skip
        have c3 : ¬ (cntN (lft g l) (tot g)) = 0 := fun q => c3 ((nI_eq (a := (cntN (lft g l) (tot g))) (b := 0) (by omega) (by omega)).mpr q)
        refine exf_go 3 (show wpC (d + 4) true 173 [.ref 10] (uI h 10 17 (nxD x)) (fun r h' => Go (d + 4) true 174 34 [.ref 10, .int (nI (cntN (lft g l) (tot g))), .int (nI ((drD x) % 3))] [r, .ref 10] h' Q) from ?_)
        refine c_nextDraw (x := (nxD x)) rI_uI_eq ?_
        have hdb2 := drD_b (nxD x)
        show Go (d + 4) true 174 34 [.ref 10, .int (nI (cntN (lft g l) (tot g))), .int (nI ((drD x) % 3))] [.int (nI (drD (nxD x))), .ref 10] (uI (uI h 10 17 (nxD x)) 10 17 (nxD (nxD x))) Q
        refine exf_go 2 (show ¬ (nI (cntN (lft g l) (tot g))) = 0 ∧ (Go (d + 4) true 174 36 [.ref 10, .int (nI (cntN (lft g l) (tot g))), .int (nI ((drD x) % 3))] [.int ((nI (drD (nxD x))) - (nI (drD (nxD x))) / (nI (cntN (lft g l) (tot g))) * (nI (cntN (lft g l) (tot g)))), .ref 10] (uI (uI h 10 17 (nxD x)) 10 17 (nxD (nxD x))) Q) from ⟨(nI_ne0 (n := (cntN (lft g l) (tot g))) (by omega) (by omega)), ?_⟩)
        rw [show ((nI (drD (nxD x))) - (nI (drD (nxD x))) / (nI (cntN (lft g l) (tot g))) * (nI (cntN (lft g l) (tot g))) : Int32) = nI ((drD (nxD x)) % (cntN (lft g l) (tot g))) from pk_rem (a := (drD (nxD x))) (d := (cntN (lft g l) (tot g))) (by omega) (by omega) (by omega)]
        refine exf_go 1 (show wpC (d + 4) true 176 [.ref 10, .int (nI ((drD (nxD x)) % (cntN (lft g l) (tot g))))] (uI (uI h 10 17 (nxD x)) 10 17 (nxD (nxD x))) (fun r h' => Go (d + 4) true 174 39 [.ref 10, .int (nI (cntN (lft g l) (tot g))), .int (nI ((drD x) % 3))] [r] h' Q) from ?_)
        refine c_byN (cs_17 (cs_17 cs _) _) (cl_17 (cl_17 cl _) _) (j := ((drD (nxD x)) % (cntN (lft g l) (tot g)))) (Nat.mod_lt _ hc) ?_
        show Go (d + 4) true 174 39 [.ref 10, .int (nI (cntN (lft g l) (tot g))), .int (nI ((drD x) % 3))] [.int (nI (byN g l ((drD (nxD x)) % (cntN (lft g l) (tot g)))))] (uI (uI h 10 17 (nxD x)) 10 17 (nxD (nxD x))) Q
        refine exf_go 1 (show Q (.int (nI (byN g l ((drD (nxD x)) % (cntN (lft g l) (tot g)))))) (uI (uI h 10 17 (nxD x)) 10 17 (nxD (nxD x))) from ?_)
        have ea : pkX x = nxD (nxD x) := by unfold pkX; rw [if_pos (by omega)]
        have eb : pkN g l x = byN g l ((drD (nxD x)) % (cntN (lft g l) (tot g))) := by unfold pkN; rw [if_neg (by omega), if_pos (by omega)]; rfl
        rw [ea, eb] at k
        exact k _ (Fq.uI' (Fq.uI' Fq.rfl' _ _ _ rfl) _ _ _ rfl) rI_uI_eq
      · skip
        have c3 : (cntN (lft g l) (tot g)) = 0 := (nI_eq (a := (cntN (lft g l) (tot g))) (b := 0) (by omega) (by omega)).mp (Classical.not_not.mp c3)
        refine exf_go 3 (show Q (.int (-1)) (uI h 10 17 (nxD x)) from ?_)
        exfalso; omega
  · skip
    have c1 : ((drD x) % 3) = 0 := (nI_eq (a := ((drD x) % 3)) (b := 0) (by omega) (by omega)).mp (Classical.not_not.mp c1)
    refine exf_go 2 (show wpC (d + 4) true 175 [.ref 10] (uI h 10 17 (nxD x)) (fun r h' => Go (d + 4) true 174 15 [.ref 10, .int (nI (cntN (lft g l) (tot g))), .int (nI ((drD x) % 3))] [r] h' Q) from ?_)
    refine c_first (cs_17 cs _) (cl_17 cl _) hc ?_
    show Go (d + 4) true 174 15 [.ref 10, .int (nI (cntN (lft g l) (tot g))), .int (nI ((drD x) % 3))] [.int (nI (ordL g l 0))] (uI h 10 17 (nxD x)) Q
    refine exf_go 1 (show Q (.int (nI (ordL g l 0))) (uI h 10 17 (nxD x)) from ?_)
    have ea : pkX x = nxD x := by unfold pkX; rw [if_neg (by omega)]
    have eb : pkN g l x = ordL g l 0 := by unfold pkN; rw [if_pos (by omega)]
    rw [ea, eb] at k
    exact k _ (Fq.uI' Fq.rfl' _ _ _ rfl) rI_uI_eq
