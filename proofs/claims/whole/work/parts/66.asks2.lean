/-! The class's calls that go by an order. -/
theorem c_atI {d : Nat} {h : Hp} {g : ShG} {kn j : Nat} {E : Nat → Bool} {Q : Po} (hg : ShW g) (rk : RKd E g kn h) (hj : j < cntN E (tot g)) (k : Q (.int (nI (ordE E g kn j))) h) : wpC (d + 1) true 49 [.ref 71, .int (nI j)] h Q :=
  c_at hg rk (by have := cntN_le E (tot g); have := tot_b hg; omega) (fun _ => k) (fun q => absurd hj q)
theorem rkd_gq {E : Nat → Bool} {g : ShG} {kn : Nat} {s : Nat → Nat → Bool} {h h1 : Hp} (rk : RKd E g kn h) (q : Fq s h h1) (h71 : s 71 1 = false) (h72 : ∀ i, s 72 i = false) : RKd E g kn h1 := by
  refine ⟨(q.1 71 1 h71).1.trans rk.1, fun n hn hE => by rw [q.I h72]; exact rk.2.1 n hn hE, ?_⟩
  rw [show rL h1 72 = rL h 72 from q.L 72]
  exact rk.2.2
/-- the weight left of the first j of an order -/
def fstE (E : Nat → Bool) (g : ShG) (l : LkG) (kn j : Nat) : Nat := sumN (fun k => lwt g l (ordE E g kn k)) j
theorem fstE_b {E : Nat → Bool} {g : ShG} {l : LkG} (hg : ShW g) {kn j : Nat} (hj : j ≤ 10000) : fstE E g l kn j ≤ 1000000000000 := sumN_b (fun k => lwt_b hg l _) j hj
theorem ordE_in {E : Nat → Bool} {g : ShG} {kn k : Nat} (hk : k < cntN E (tot g)) : ordE E g kn k < tot g ∧ E (ordE E g kn k) = true := by
  have := ord_in (ordV_ok E (key g kn) (tot g)) hk
  exact ⟨this.1, this.2.1⟩
theorem fstE_L {g : ShG} {l : LkG} {j : Nat} (hj : j ≤ cntN (lft g l) (tot g)) : fstE (lft g l) g l (evr g) j = fstL g l j := sumN_cg j (fun k hk => by
  have := (ordE_in (E := lft g l) (g := g) (kn := evr g) (k := k) (by omega)).2
  show lwt g l (ordE (lft g l) g (evr g) k) = wtA g (sH g (ordE (lft g l) g (evr g) k))
  rw [lwt, this]; rfl)
def fMate (g : ShG) (l : LkG) (x y : Int32) : Int32 := match ixN x (sM g) with
  | none => -2
  | some m => if y < 0 then -3 else if y.toNatClampNeg < cntN (elg g l (sK g m) false) (tot g) then nI (ordE (elg g l (sK g m) false) g (sK g m) y.toNatClampNeg) else -1
def fGrd (g : ShG) (l : LkG) (n m : Nat) : Nat := fstE (elg g l (sK g m) false) g l (sK g m) (min n (cntN (elg g l (sK g m) false) (tot g)))
theorem fGrd_b {g : ShG} {l : LkG} (hg : ShW g) (n m : Nat) : fGrd g l n m ≤ 1000000000000 := fstE_b hg (by have := cntN_le (elg g l (sK g m) false) (tot g); have := tot_b hg; omega)
def fGuarded (g : ShG) (l : LkG) (x y z : Int32) : Int64 := match ixN x (sM g) with
  | none => -2
  | some m => match ixN z 2 with
    | none => -2
    | some _ => match ixN y 10001 with
      | none => -3
      | some n => if cntL g l = 0 then -5 else fPart (fGrd g l n m) (sumL g l) z
/-- the first of those that p takes with the most f -/
def mxF (p : Nat → Bool) (f : Nat → Nat) : Nat → Option Nat × Nat
  | 0 => (none, 0)
  | n + 1 => if p n then (match (mxF p f n).1 with
      | none => (some n, f n)
      | some b => if (mxF p f n).2 < f n then (some n, f n) else (some b, (mxF p f n).2)) else mxF p f n
theorem mxF_b {p : Nat → Bool} {f : Nat → Nat} : ∀ n b, (mxF p f n).1 = some b → b < n ∧ f b = (mxF p f n).2
  | 0, b, h => by simp [mxF] at h
  | n + 1, b, h => by
    have ih := mxF_b (p := p) (f := f) n
    rw [mxF] at h ⊢
    split at h
    · rename_i hp
      rw [if_pos hp]
      split at h
      · rename_i e
        simp at h; subst h; exact ⟨by omega, rfl⟩
      · rename_i b' e
        split at h
        · rename_i q
          rw [if_pos q]
          simp at h; subst h; exact ⟨by omega, rfl⟩
        · rename_i q
          rw [if_neg q]
          simp at h; subst h
          have := ih _ e
          exact ⟨by omega, this.2⟩
    · rename_i hp
      rw [if_neg hp]
      have := ih b h
      exact ⟨by omega, this.2⟩
theorem mxF_le {p : Nat → Bool} {f : Nat → Nat} {c : Nat} (hf : ∀ k, f k ≤ c) : ∀ n, (mxF p f n).2 ≤ c
  | 0 => Nat.zero_le _
  | n + 1 => by
    have ih := mxF_le (p := p) hf n
    have := hf n
    rw [mxF]
    repeat' split
    all_goals first | exact ih | exact this
theorem mx_no {p : Nat → Bool} {f : Nat → Nat} {n : Nat} {s : Option Nat × Nat} (hs : s = mxF p f n) (h : p n = false) : s = mxF p f (n + 1) := by rw [mxF, h]; exact hs
theorem mx_first {p : Nat → Bool} {f : Nat → Nat} {n m : Nat} (hs : (none, m) = mxF p f n) (h : p n = true) : (some n, f n) = mxF p f (n + 1) := by rw [mxF, h, ← hs]; rfl
theorem mx_more {p : Nat → Bool} {f : Nat → Nat} {n m b : Nat} (hs : (some b, m) = mxF p f n) (h : p n = true) (hl : m < f n) : (some n, f n) = mxF p f (n + 1) := by rw [mxF, h, ← hs]; simp only [if_true]; rw [if_pos hl]
theorem mx_less {p : Nat → Bool} {f : Nat → Nat} {n m b : Nat} (hs : (some b, m) = mxF p f n) (h : p n = true) (hl : ¬ m < f n) : (some b, m) = mxF p f (n + 1) := by rw [mxF, h, ← hs]; simp only [if_true]; rw [if_neg hl]
def fDanger (g : ShG) (l : LkG) (x : Int32) : Int32 := match ixN x 10001 with
  | none => -3
  | some n => if cntL g l = 0 then -5 else oI (mxF (fun _ => true) (fGrd g l n) (sM g)).1
def fBoth (g : ShG) (l : LkG) (x y : Int32) : Int32 := match ixN x (sM g) with
  | none => -2
  | some m => match ixN y (sM g) with
    | none => -2
    | some n => nI (cntN (elg g l (sK g m ||| sK g n) false) (tot g))
theorem prt_no {x : Int32} (h0 : ¬ x = 0) (h1 : ¬ x = 1) : ixN x 2 = none := by
  by_cases a : x < 0
  · exact ix_neg a
  · by_cases b : nI 2 ≤ x
    · exact ix_ge b
    · obtain ⟨j, _, e, hj⟩ := ix_in (by decide) a b
      have : j = 0 ∨ j = 1 := by omega
      rcases this with q | q <;> subst q
      · exact absurd e h0
      · exact absurd e h1
theorem c_isPart {d : Nat} {h : Hp} {x : Int32} {Q : Po} (k1 : ∀ j, ixN x 2 = some j → x = nI j → j < 2 → Q (.int 1) h) (k0 : ixN x 2 = none → Q (.int 0) h) : wpC (d + 1) true 161 [.int x] h Q := by
  refine go_in rfl ?_
  refine exf_go 2 (show (x = 0 → Go d true 161 9 [.int x] [] h Q) ∧ (¬ (x = 0) → Go d true 161 4 [.int x] [] h Q) from ⟨fun c1 => ?_, fun c1 => ?_⟩)
  · skip
    refine exf_go 3 (show ((1 : Int32) = 0 ∨ (1 : Int32) = 1) ∧ Q (.int 1) h from ⟨(by first | exact Or.inl rfl | exact Or.inr rfl | assumption), ?_⟩)
    first | (subst c1; exact k1 0 rfl rfl (by decide)) | (have c2 := Classical.not_not.mp c2; subst c2; exact k1 1 rfl rfl (by decide))
  · skip
    refine exf_go 3 (show (¬ x = 1 → Go d true 161 13 [.int x] [] h Q) ∧ (¬ (¬ x = 1) → Go d true 161 9 [.int x] [] h Q) from ⟨fun c2 => ?_, fun c2 => ?_⟩)
    · skip
      refine exf_go 2 (show ((0 : Int32) = 0 ∨ (0 : Int32) = 1) ∧ Q (.int 0) h from ⟨(by first | exact Or.inl rfl | exact Or.inr rfl | assumption), ?_⟩)
      exact k0 (prt_no c1 c2)
    · skip
      refine exf_go 3 (show ((1 : Int32) = 0 ∨ (1 : Int32) = 1) ∧ Q (.int 1) h from ⟨(by first | exact Or.inl rfl | exact Or.inr rfl | assumption), ?_⟩)
      first | (subst c1; exact k1 0 rfl rfl (by decide)) | (have c2 := Classical.not_not.mp c2; subst c2; exact k1 1 rfl rfl (by decide))
theorem c_order {d : Nat} {h : Hp} {g : ShG} {l : LkG} {x : Int32} {Q : Po} (wf : WF h) (cs : CS 31 g h) (cl : CL 39 g l h) (k : ∀ h1, Gq scC h h1 → Q (.int (fOrder g l x)) h1) : wpC (d + 6) true 121 [.ref 10, .int x] h Q := by
  have hN := tot_b cs.1
  have he := evr_b cs.1
  have h8 := cs.1.2.2.2.1
  have h4 := cs.1.2.2.2.2.2.1
  refine go_in rfl ?_
  refine exf_go 2 (show (0 ≤ x → Go (d + 5) true 121 7 [.ref 10, .int x] [] h Q) ∧ (¬ (0 ≤ x) → Go (d + 5) true 121 4 [.ref 10, .int x] [] h Q) from ⟨fun c1 => ?_, fun c1 => ?_⟩)
  · skip
    obtain ⟨j, e1, e2⟩ := nI_of (Int32.not_lt.mpr c1)
    subst e2
    have e3 := nI_pos e1
    refine exf_go 2 (show wpC (d + 5) true 167 [.ref 10] h (fun _ h' => Go (d + 5) true 121 11 [.ref 10, .int (nI j)] [] h' Q) from ?_)
    refine c_rankLeft wf cs cl (fun h1 r1 rk1 => ?_)
    have p1 := r1.mono scR_C
    have g1 : Gq scC h h1 := Gq.rfl'.tr p1
    have cs1 := cs_gq cs g1; have cl1 := cl_gq cl g1; have wf1 := g1.2.2.2.1 wf
    have hcc := cntN_le (lft g l) (tot g)
    show Go (d + 5) true 121 11 [.ref 10, .int (nI j)] [] h1 Q
    refine exf_go 4 (show wpC (d + 5) true 49 [.ref 71, .int (nI j)] h1 (fun r h' => Go (d + 5) true 121 19 [.ref 10, .int (nI j)] [r] h' Q) from ?_)
    refine c_at cs.1 rk1 (j := j) (by omega) (fun r2 => ?_) (fun r2 => ?_)
    · skip
      have hoi := ordE_in (E := (lft g l)) (g := g) (kn := (evr g)) (k := j) r2
      show Go (d + 5) true 121 19 [.ref 10, .int (nI j)] [.int (nI (ordE (lft g l) g (evr g) j))] h1 Q
      refine exf_go 1 (show Q (.int (nI (ordE (lft g l) g (evr g) j))) h1 from ?_)
      rw [fOrder, if_neg e3, nI_clamp e1, if_pos (by unfold cntL; exact r2)] at k
      exact k _ g1
    · skip
      show Go (d + 5) true 121 19 [.ref 10, .int (nI j)] [.int (-1)] h1 Q
      refine exf_go 1 (show Q (.int (-1)) h1 from ?_)
      rw [fOrder, if_neg e3, nI_clamp e1, if_neg (by unfold cntL; exact r2)] at k
      exact k _ g1
  · skip
    refine exf_go 2 (show Q (.int (-3)) h from ?_)
    rw [fOrder, if_pos (Int32.not_le.mp c1)] at k
    exact k _ Gq.rfl'
theorem c_lwFirst {d : Nat} {h : Hp} {g : ShG} {l : LkG} {E : Nat → Bool} {kn n : Nat} {Q : Po} (cs : CS 31 g h) (cl : CL 39 g l h) (rk : RKd E g kn h) (hn : n < 2 ^ 31) (k : Q (.long (lN (fstE E g l kn (min n (cntN E (tot g)))))) h) : wpC (d + 4) true 169 [.ref 10, .int (nI n)] h Q := by
  have hN := tot_b cs.1
  have he := evr_b cs.1
  have h8 := cs.1.2.2.2.1
  have h4 := cs.1.2.2.2.2.2.1
  have hcc := cntN_le E (tot g)
  refine go_in rfl ?_
  refine exf_go 4 (show Go (d + 3) true 169 5 [.ref 10, .int (nI n), .long 0, mk_, .int 0] [] h Q from ?_)
  have L5 : ∀ (k5 : Nat) (j s : Nat), (n - j) < k5 → (j ≤ cntN E (tot g)) → (j ≤ n) → (s = fstE E g l kn j) → Go (d + 3) true 169 5 [.ref 10, .int (nI n), .long (lN s), mk_, .int (nI j)] [] h Q := by
    intro k5
    induction k5 with
    | zero => intro j s hk; exact absurd hk (Nat.not_lt_zero _)
    | succ k5 ih5 =>
      intro j s hk hj hjn hs
      refine exf_go 3 (show ((nI n) ≤ (nI j) → Go (d + 3) true 169 45 [.ref 10, .int (nI n), .long (lN s), mk_, .int (nI j)] [] h Q) ∧ (¬ ((nI n) ≤ (nI j)) → Go (d + 3) true 169 11 [.ref 10, .int (nI n), .long (lN s), mk_, .int (nI j)] [] h Q) from ⟨fun c1 => ?_, fun c1 => ?_⟩)
      · skip
        have c1 : n ≤ j := (nI_leI (a := n) (b := j) (by omega) (by omega)).mp c1
        refine exf_go 2 (show Q (.long (lN s)) h from ?_)
        rw [hs, show j = min n (cntN E (tot g)) from by omega]; exact k
      · skip
        have c1 : ¬ n ≤ j := fun q => c1 ((nI_leI (a := n) (b := j) (by omega) (by omega)).mpr q)
        refine exf_go 4 (show Go (d + 3) true 169 20 [.ref 10, .int (nI n), .long (lN s), mk_, .int (nI j)] [.int (rI h 71 1), .int (nI j)] h Q from ?_)
        rw [show (rI h 71 1 : Int32) = nI (cntN E (tot g)) from rk.1]
        refine exf_go 1 (show ((nI (cntN E (tot g))) ≤ (nI j) → Go (d + 3) true 169 45 [.ref 10, .int (nI n), .long (lN s), mk_, .int (nI j)] [] h Q) ∧ (¬ ((nI (cntN E (tot g))) ≤ (nI j)) → Go (d + 3) true 169 23 [.ref 10, .int (nI n), .long (lN s), mk_, .int (nI j)] [] h Q) from ⟨fun c2 => ?_, fun c2 => ?_⟩)
        · skip
          have c2 : (cntN E (tot g)) ≤ j := (nI_leI (a := (cntN E (tot g))) (b := j) (by omega) (by omega)).mp c2
          refine exf_go 2 (show Q (.long (lN s)) h from ?_)
          rw [hs, show j = min n (cntN E (tot g)) from by omega]; exact k
        · skip
          have c2 : ¬ (cntN E (tot g)) ≤ j := fun q => c2 ((nI_leI (a := (cntN E (tot g))) (b := j) (by omega) (by omega)).mpr q)
          refine exf_go 6 (show wpC (d + 3) true 49 [.ref 71, .int (nI j)] h (fun r h' => Go (d + 3) true 169 34 [.ref 10, .int (nI n), .long (lN s), mk_, .int (nI j)] [r, .ref 10, .long (lN s)] h' Q) from ?_)
          refine c_atI cs.1 rk (j := j) (by omega) ?_
          have hoi := ordE_in (E := E) (g := g) (kn := kn) (k := j) (by omega)
          show Go (d + 3) true 169 34 [.ref 10, .int (nI n), .long (lN s), mk_, .int (nI j)] [.int (nI (ordE E g kn j)), .ref 10, .long (lN s)] h Q
          refine exf_go 1 (show wpC (d + 3) true 164 [.ref 10, .int (nI (ordE E g kn j))] h (fun r h' => Go (d + 3) true 169 37 [.ref 10, .int (nI n), .long (lN s), mk_, .int (nI j)] [r, .long (lN s)] h' Q) from ?_)
          refine c_leftWeight cs cl (by omega) ?_
          have := lwt_b cs.1 l (ordE E g kn j)
          show Go (d + 3) true 169 37 [.ref 10, .int (nI n), .long (lN s), mk_, .int (nI j)] [.long (lN (lwt g l (ordE E g kn j))), .long (lN s)] h Q
          refine exf_go 1 (show Go (d + 3) true 169 38 [.ref 10, .int (nI n), .long (lN s), mk_, .int (nI j)] [.long ((lN s) + (lN (lwt g l (ordE E g kn j))))] h Q from ?_)
          rw [show ((lN s) + (lN (lwt g l (ordE E g kn j))) : Int64) = lN (s + (lwt g l (ordE E g kn j))) from lN_add s (lwt g l (ordE E g kn j))]
          refine exf_go 2 (show Go (d + 3) true 169 42 [.ref 10, .int (nI n), .long (lN (s + (lwt g l (ordE E g kn j)))), mk_, .int ((nI j) + 1)] [] h Q from ?_)
          rw [show ((nI j) + 1 : Int32) = nI (j + 1) from nI_add j 1]
          refine exf_go 1 (show Go (d + 3) true 169 5 [.ref 10, .int (nI n), .long (lN (s + (lwt g l (ordE E g kn j)))), mk_, .int (nI (j + 1))] [] h Q from ?_)
          exact ih5 (j + 1) (s + (lwt g l (ordE E g kn j))) (by omega) (by omega) (by omega) (by rw [hs]; rfl)
  exact L5 (n + 1) 0 0 (by omega) (by omega) (by omega) rfl
theorem c_chance {d : Nat} {h : Hp} {g : ShG} {l : LkG} {x y : Int32} {Q : Po} (wf : WF h) (cs : CS 31 g h) (cl : CL 39 g l h) (k : ∀ h1, Gq scC h h1 → Q (.long (fChance g l x y)) h1) : wpC (d + 6) true 122 [.ref 10, .int x, .int y] h Q := by
  have hN := tot_b cs.1
  have he := evr_b cs.1
  have h8 := cs.1.2.2.2.1
  have h4 := cs.1.2.2.2.2.2.1
  refine go_in rfl ?_
  refine exf_go 2 (show wpC (d + 5) true 161 [.int y] h (fun r h' => Go (d + 5) true 122 4 [.ref 10, .int x, .int y] [r] h' Q) from ?_)
  refine c_isPart (x := y) (fun jy ey eyq eyr => ?_) (fun ey => ?_)
  · skip
    subst eyq
    show Go (d + 5) true 122 4 [.ref 10, .int x, .int (nI jy)] [.int 1] h Q
    refine exf_go 1 (show (¬ (1 : Int32) = 0 → Go (d + 5) true 122 11 [.ref 10, .int x, .int (nI jy)] [] h Q) ∧ (¬ (¬ (1 : Int32) = 0) → Go (d + 5) true 122 7 [.ref 10, .int x, .int (nI jy)] [] h Q) from ⟨fun c1 => ?_, fun c1 => ?_⟩)
    · skip
      refine exf_go 2 (show (0 ≤ x → Go (d + 5) true 122 19 [.ref 10, .int x, .int (nI jy)] [] h Q) ∧ (¬ (0 ≤ x) → Go (d + 5) true 122 15 [.ref 10, .int x, .int (nI jy)] [] h Q) from ⟨fun c2 => ?_, fun c2 => ?_⟩)
      · skip
        obtain ⟨j, e1, e2⟩ := nI_of (Int32.not_lt.mpr c2)
        subst e2
        have e3 := nI_pos e1
        refine exf_go 3 (show wpC (d + 5) true 33 [.ref 39] h (fun r h' => Go (d + 5) true 122 26 [.ref 10, .int (nI j), .int (nI jy)] [r] h' Q) from ?_)
        refine c_leftOnes cs cl ?_
        have := cntN_le (lft g l) (tot g)
        show Go (d + 5) true 122 26 [.ref 10, .int (nI j), .int (nI jy)] [.int (nI (cntN (lft g l) (tot g)))] h Q
        refine exf_go 1 (show (¬ (nI (cntN (lft g l) (tot g))) = 0 → Go (d + 5) true 122 33 [.ref 10, .int (nI j), .int (nI jy)] [] h Q) ∧ (¬ (¬ (nI (cntN (lft g l) (tot g))) = 0) → Go (d + 5) true 122 29 [.ref 10, .int (nI j), .int (nI jy)] [] h Q) from ⟨fun c3 => ?_, fun c3 => ?_⟩)
        · skip
          have c3 : ¬ (cntN (lft g l) (tot g)) = 0 := fun q => c3 ((nI_eq (a := (cntN (lft g l) (tot g))) (b := 0) (by omega) (by omega)).mpr q)
          refine exf_go 2 (show wpC (d + 5) true 167 [.ref 10] h (fun _ h' => Go (d + 5) true 122 37 [.ref 10, .int (nI j), .int (nI jy)] [] h' Q) from ?_)
          refine c_rankLeft wf cs cl (fun h1 r1 rk1 => ?_)
          have p1 := r1.mono scR_C
          have g1 : Gq scC h h1 := Gq.rfl'.tr p1
          have cs1 := cs_gq cs g1; have cl1 := cl_gq cl g1; have wf1 := g1.2.2.2.1 wf
          have hcc := cntN_le (lft g l) (tot g)
          show Go (d + 5) true 122 37 [.ref 10, .int (nI j), .int (nI jy)] [] h1 Q
          refine exf_go 3 (show wpC (d + 5) true 169 [.ref 10, .int (nI j)] h1 (fun r h' => Go (d + 5) true 122 42 [.ref 10, .int (nI j), .int (nI jy)] [r] h' Q) from ?_)
          refine c_lwFirst cs1 cl1 rk1 (n := j) (by omega) ?_
          have hfl : fstE (lft g l) g l (evr g) (min j (cntN (lft g l) (tot g))) ≤ 1000000000000 := fstE_b cs.1 (by omega)
          show Go (d + 5) true 122 42 [.ref 10, .int (nI j), .int (nI jy)] [.long (lN (fstE (lft g l) g l (evr g) (min j (cntN (lft g l) (tot g)))))] h1 Q
          refine exf_go 2 (show wpC (d + 5) true 165 [.ref 10] h1 (fun r h' => Go (d + 5) true 122 46 [.ref 10, .int (nI j), .int (nI jy)] [r, .long (lN (fstE (lft g l) g l (evr g) (min j (cntN (lft g l) (tot g)))))] h' Q) from ?_)
          refine c_leftSum cs1 cl1 ?_
          have hsL : sumL g l ≤ 1000000000000 := sumN_b (lwt_b cs.1 l) _ hN.2
          show Go (d + 5) true 122 46 [.ref 10, .int (nI j), .int (nI jy)] [.long (lN (sumL g l)), .long (lN (fstE (lft g l) g l (evr g) (min j (cntN (lft g l) (tot g)))))] h1 Q
          refine exf_go 2 (show wpC (d + 5) true 170 [.long (lN (fstE (lft g l) g l (evr g) (min j (cntN (lft g l) (tot g))))), .long (lN (sumL g l)), .int (nI jy)] h1 (fun r h' => Go (d + 5) true 122 50 [.ref 10, .int (nI j), .int (nI jy)] [r] h' Q) from ?_)
          have hsp := sumL_pos (l := l) cs.1 (by omega)
          refine c_lowest (u := (fstE (lft g l) g l (evr g) (min j (cntN (lft g l) (tot g))))) (v := (sumL g l)) (by omega) (by omega) (by omega) ?_
          show Go (d + 5) true 122 50 [.ref 10, .int (nI j), .int (nI jy)] [.long (fPart (fstE (lft g l) g l (evr g) (min j (cntN (lft g l) (tot g)))) (sumL g l) (nI jy))] h1 Q
          refine exf_go 1 (show Q (.long (fPart (fstE (lft g l) g l (evr g) (min j (cntN (lft g l) (tot g)))) (sumL g l) (nI jy))) h1 from ?_)
          simp only [fChance, ey] at k
          rw [if_neg e3, if_neg (show ¬ cntL g l = 0 from c3), nI_clamp e1, cntL, ← fstE_L (Nat.min_le_right _ _)] at k
          exact k _ g1
        · skip
          have c3 : (cntN (lft g l) (tot g)) = 0 := (nI_eq (a := (cntN (lft g l) (tot g))) (b := 0) (by omega) (by omega)).mp (Classical.not_not.mp c3)
          refine exf_go 2 (show Q (.long (-5)) h from ?_)
          simp only [fChance, ey] at k
          rw [if_neg e3, if_pos (show cntL g l = 0 from c3)] at k
          exact k _ Gq.rfl'
      · skip
        refine exf_go 2 (show Q (.long (-3)) h from ?_)
        simp only [fChance, ey] at k
        rw [if_pos (Int32.not_le.mp c2)] at k
        exact k _ Gq.rfl'
    · skip
      exact absurd (by decide) c1
  · skip
    show Go (d + 5) true 122 4 [.ref 10, .int x, .int y] [.int 0] h Q
    refine exf_go 1 (show (¬ (0 : Int32) = 0 → Go (d + 5) true 122 11 [.ref 10, .int x, .int y] [] h Q) ∧ (¬ (¬ (0 : Int32) = 0) → Go (d + 5) true 122 7 [.ref 10, .int x, .int y] [] h Q) from ⟨fun c4 => ?_, fun c4 => ?_⟩)
    · skip
      exact absurd c4 (by decide)
    · skip
      refine exf_go 2 (show Q (.long (-2)) h from ?_)
      simp only [fChance, ey] at k
      exact k _ Gq.rfl'
theorem c_mean {d : Nat} {h : Hp} {g : ShG} {l : LkG} {y : Int32} {Q : Po} (wf : WF h) (cs : CS 31 g h) (cl : CL 39 g l h) (k : ∀ h1, Gq scC h h1 → Q (.long (fMean g l y)) h1) : wpC (d + 6) true 123 [.ref 10, .int y] h Q := by
  have hN := tot_b cs.1
  have he := evr_b cs.1
  have h8 := cs.1.2.2.2.1
  have h4 := cs.1.2.2.2.2.2.1
  refine go_in rfl ?_
  refine exf_go 2 (show wpC (d + 5) true 161 [.int y] h (fun r h' => Go (d + 5) true 123 4 [.ref 10, .int y, mk_, mk_, mk_] [r] h' Q) from ?_)
  refine c_isPart (x := y) (fun jy ey eyq eyr => ?_) (fun ey => ?_)
  · skip
    subst eyq
    show Go (d + 5) true 123 4 [.ref 10, .int (nI jy), mk_, mk_, mk_] [.int 1] h Q
    refine exf_go 1 (show (¬ (1 : Int32) = 0 → Go (d + 5) true 123 11 [.ref 10, .int (nI jy), mk_, mk_, mk_] [] h Q) ∧ (¬ (¬ (1 : Int32) = 0) → Go (d + 5) true 123 7 [.ref 10, .int (nI jy), mk_, mk_, mk_] [] h Q) from ⟨fun c1 => ?_, fun c1 => ?_⟩)
    · skip
      refine exf_go 3 (show wpC (d + 5) true 33 [.ref 39] h (fun r h' => Go (d + 5) true 123 18 [.ref 10, .int (nI jy), mk_, mk_, mk_] [r] h' Q) from ?_)
      refine c_leftOnes cs cl ?_
      have := cntN_le (lft g l) (tot g)
      show Go (d + 5) true 123 18 [.ref 10, .int (nI jy), mk_, mk_, mk_] [.int (nI (cntN (lft g l) (tot g)))] h Q
      refine exf_go 1 (show (¬ (nI (cntN (lft g l) (tot g))) = 0 → Go (d + 5) true 123 25 [.ref 10, .int (nI jy), mk_, mk_, mk_] [] h Q) ∧ (¬ (¬ (nI (cntN (lft g l) (tot g))) = 0) → Go (d + 5) true 123 21 [.ref 10, .int (nI jy), mk_, mk_, mk_] [] h Q) from ⟨fun c2 => ?_, fun c2 => ?_⟩)
      · skip
        have c2 : ¬ (cntN (lft g l) (tot g)) = 0 := fun q => c2 ((nI_eq (a := (cntN (lft g l) (tot g))) (b := 0) (by omega) (by omega)).mpr q)
        refine exf_go 2 (show wpC (d + 5) true 167 [.ref 10] h (fun _ h' => Go (d + 5) true 123 29 [.ref 10, .int (nI jy), mk_, mk_, mk_] [] h' Q) from ?_)
        refine c_rankLeft wf cs cl (fun h1 r1 rk1 => ?_)
        have p1 := r1.mono scR_C
        have g1 : Gq scC h h1 := Gq.rfl'.tr p1
        have cs1 := cs_gq cs g1; have cl1 := cl_gq cl g1; have wf1 := g1.2.2.2.1 wf
        have hcc := cntN_le (lft g l) (tot g)
        show Go (d + 5) true 123 29 [.ref 10, .int (nI jy), mk_, mk_, mk_] [] h1 Q
        refine exf_go 4 (show Go (d + 5) true 123 34 [.ref 10, .int (nI jy), .long 0, mk_, .int 0] [] h1 Q from ?_)
        have L34 : ∀ (k34 : Nat) (i s : Nat), (cntN (lft g l) (tot g) - i) < k34 → (i ≤ cntN (lft g l) (tot g)) → (s = trsL g l i) → Go (d + 5) true 123 34 [.ref 10, .int (nI jy), .long (lN s), mk_, .int (nI i)] [] h1 Q := by
          intro k34
          induction k34 with
          | zero => intro i s hk; exact absurd hk (Nat.not_lt_zero _)
          | succ k34 ih34 =>
            intro i s hk hi hs
            have hsb := trs_b cs.1 (ordL g l) (j := i) (by omega)
            have hs2 : s ≤ 10000000000000000 := by rw [hs]; exact hsb
            refine exf_go 4 (show Go (d + 5) true 123 43 [.ref 10, .int (nI jy), .long (lN s), mk_, .int (nI i)] [.int (rI h1 71 1), .int (nI i)] h1 Q from ?_)
            rw [show (rI h1 71 1 : Int32) = nI (cntN (lft g l) (tot g)) from rk1.1]
            refine exf_go 1 (show ((nI (cntN (lft g l) (tot g))) ≤ (nI i) → Go (d + 5) true 123 74 [.ref 10, .int (nI jy), .long (lN s), mk_, .int (nI i)] [] h1 Q) ∧ (¬ ((nI (cntN (lft g l) (tot g))) ≤ (nI i)) → Go (d + 5) true 123 46 [.ref 10, .int (nI jy), .long (lN s), mk_, .int (nI i)] [] h1 Q) from ⟨fun c3 => ?_, fun c3 => ?_⟩)
            · skip
              have c3 : (cntN (lft g l) (tot g)) ≤ i := (nI_leI (a := (cntN (lft g l) (tot g))) (b := i) (by omega) (by omega)).mp c3
              refine exf_go 3 (show wpC (d + 5) true 165 [.ref 10] h1 (fun r h' => Go (d + 5) true 123 79 [.ref 10, .int (nI jy), .long (lN s), mk_, .int (nI i)] [r, .long (lN s)] h' Q) from ?_)
              refine c_leftSum cs1 cl1 ?_
              have hsL : sumL g l ≤ 1000000000000 := sumN_b (lwt_b cs.1 l) _ hN.2
              show Go (d + 5) true 123 79 [.ref 10, .int (nI jy), .long (lN s), mk_, .int (nI i)] [.long (lN (sumL g l)), .long (lN s)] h1 Q
              refine exf_go 2 (show wpC (d + 5) true 170 [.long (lN s), .long (lN (sumL g l)), .int (nI jy)] h1 (fun r h' => Go (d + 5) true 123 83 [.ref 10, .int (nI jy), .long (lN s), mk_, .int (nI i)] [r] h' Q) from ?_)
              have hsp := sumL_pos (l := l) cs.1 (by omega)
              refine c_lowest (u := s) (v := (sumL g l)) (by omega) (by omega) (by omega) ?_
              show Go (d + 5) true 123 83 [.ref 10, .int (nI jy), .long (lN s), mk_, .int (nI i)] [.long (fPart s (sumL g l) (nI jy))] h1 Q
              refine exf_go 1 (show Q (.long (fPart s (sumL g l) (nI jy))) h1 from ?_)
              simp only [fMean, ey] at k
              rw [if_neg (show ¬ cntL g l = 0 from c2), cntL, ← show i = cntN (lft g l) (tot g) from by omega, ← hs] at k
              exact k _ g1
            · skip
              have c3 : ¬ (cntN (lft g l) (tot g)) ≤ i := fun q => c3 ((nI_leI (a := (cntN (lft g l) (tot g))) (b := i) (by omega) (by omega)).mpr q)
              refine exf_go 4 (show Go (d + 5) true 123 51 [.ref 10, .int (nI jy), .long (lN s), mk_, .int (nI i)] [.int ((nI i) + 1), .long (lN s)] h1 Q from ?_)
              rw [show ((nI i) + 1 : Int32) = nI (i + 1) from nI_add i 1]
              refine exf_go 1 (show Go (d + 5) true 123 52 [.ref 10, .int (nI jy), .long (lN s), mk_, .int (nI i)] [.long ((nI (i + 1)).toInt64), .long (lN s)] h1 Q from ?_)
              rw [show ((nI (i + 1)).toInt64 : Int64) = lN (i + 1) from nI_l (n := (i + 1)) (by omega)]
              refine exf_go 5 (show wpC (d + 5) true 49 [.ref 71, .int (nI i)] h1 (fun r h' => Go (d + 5) true 123 62 [.ref 10, .int (nI jy), .long (lN s), mk_, .int (nI i)] [r, .ref 10, .long (lN (i + 1)), .long (lN s)] h' Q) from ?_)
              refine c_atI cs.1 rk1 (j := i) (by omega) ?_
              have hoi := ordE_in (E := (lft g l)) (g := g) (kn := (evr g)) (k := i) (by omega)
              show Go (d + 5) true 123 62 [.ref 10, .int (nI jy), .long (lN s), mk_, .int (nI i)] [.int (nI (ordE (lft g l) g (evr g) i)), .ref 10, .long (lN (i + 1)), .long (lN s)] h1 Q
              refine exf_go 1 (show wpC (d + 5) true 164 [.ref 10, .int (nI (ordE (lft g l) g (evr g) i))] h1 (fun r h' => Go (d + 5) true 123 65 [.ref 10, .int (nI jy), .long (lN s), mk_, .int (nI i)] [r, .long (lN (i + 1)), .long (lN s)] h' Q) from ?_)
              refine c_leftWeight cs1 cl1 (by omega) ?_
              have := lwt_b cs.1 l (ordE (lft g l) g (evr g) i)
              show Go (d + 5) true 123 65 [.ref 10, .int (nI jy), .long (lN s), mk_, .int (nI i)] [.long (lN (lwt g l (ordE (lft g l) g (evr g) i))), .long (lN (i + 1)), .long (lN s)] h1 Q
              refine exf_go 1 (show Go (d + 5) true 123 66 [.ref 10, .int (nI jy), .long (lN s), mk_, .int (nI i)] [.long ((lN (i + 1)) * (lN (lwt g l (ordE (lft g l) g (evr g) i)))), .long (lN s)] h1 Q from ?_)
              rw [show ((lN (i + 1)) * (lN (lwt g l (ordE (lft g l) g (evr g) i))) : Int64) = lN ((i + 1) * (lwt g l (ordE (lft g l) g (evr g) i))) from lN_mul (i + 1) (lwt g l (ordE (lft g l) g (evr g) i))]
              refine exf_go 1 (show Go (d + 5) true 123 67 [.ref 10, .int (nI jy), .long (lN s), mk_, .int (nI i)] [.long ((lN s) + (lN ((i + 1) * (lwt g l (ordE (lft g l) g (evr g) i)))))] h1 Q from ?_)
              rw [show ((lN s) + (lN ((i + 1) * (lwt g l (ordE (lft g l) g (evr g) i)))) : Int64) = lN (s + ((i + 1) * (lwt g l (ordE (lft g l) g (evr g) i)))) from lN_add s ((i + 1) * (lwt g l (ordE (lft g l) g (evr g) i)))]
              refine exf_go 2 (show Go (d + 5) true 123 71 [.ref 10, .int (nI jy), .long (lN (s + ((i + 1) * (lwt g l (ordE (lft g l) g (evr g) i))))), mk_, .int ((nI i) + 1)] [] h1 Q from ?_)
              rw [show ((nI i) + 1 : Int32) = nI (i + 1) from nI_add i 1]
              refine exf_go 1 (show Go (d + 5) true 123 34 [.ref 10, .int (nI jy), .long (lN (s + ((i + 1) * (lwt g l (ordE (lft g l) g (evr g) i))))), mk_, .int (nI (i + 1))] [] h1 Q from ?_)
              exact ih34 (i + 1) (s + ((i + 1) * (lwt g l (ordE (lft g l) g (evr g) i)))) (by omega) (by omega) (by rw [hs, trsL, trsL, sumN, lwt, hoi.2]; rfl)
        exact L34 (cntN (lft g l) (tot g) + 1) 0 0 (by omega) (by omega) rfl
      · skip
        have c2 : (cntN (lft g l) (tot g)) = 0 := (nI_eq (a := (cntN (lft g l) (tot g))) (b := 0) (by omega) (by omega)).mp (Classical.not_not.mp c2)
        refine exf_go 2 (show Q (.long (-5)) h from ?_)
        simp only [fMean, ey] at k
        rw [if_pos (show cntL g l = 0 from c2)] at k
        exact k _ Gq.rfl'
    · skip
      exact absurd (by decide) c1
  · skip
    show Go (d + 5) true 123 4 [.ref 10, .int y, mk_, mk_, mk_] [.int 0] h Q
    refine exf_go 1 (show (¬ (0 : Int32) = 0 → Go (d + 5) true 123 11 [.ref 10, .int y, mk_, mk_, mk_] [] h Q) ∧ (¬ (¬ (0 : Int32) = 0) → Go (d + 5) true 123 7 [.ref 10, .int y, mk_, mk_, mk_] [] h Q) from ⟨fun c4 => ?_, fun c4 => ?_⟩)
    · skip
      exact absurd c4 (by decide)
    · skip
      refine exf_go 2 (show Q (.long (-2)) h from ?_)
      simp only [fMean, ey] at k
      exact k _ Gq.rfl'
theorem c_mate {d : Nat} {h : Hp} {g : ShG} {l : LkG} {x y : Int32} {Q : Po} (wf : WF h) (cs : CS 31 g h) (cl : CL 39 g l h) (k : ∀ h1, Gq scC h h1 → Q (.int (fMate g l x y)) h1) : wpC (d + 6) true 141 [.ref 10, .int x, .int y] h Q := by
  have hN := tot_b cs.1
  have he := evr_b cs.1
  have h8 := cs.1.2.2.2.1
  have h4 := cs.1.2.2.2.2.2.1
  refine go_in rfl ?_
  refine exf_go 3 (show wpC (d + 5) true 158 [.ref 10, .int x] h (fun r h' => Go (d + 5) true 141 5 [.ref 10, .int x, .int y] [r] h' Q) from ?_)
  refine c_isMate cs (fun j1 e1 q1 r1 => ?_) (fun e1 => ?_)
  · skip
    subst q1
    show Go (d + 5) true 141 5 [.ref 10, .int (nI j1), .int y] [.int 1] h Q
    refine exf_go 1 (show (¬ (1 : Int32) = 0 → Go (d + 5) true 141 11 [.ref 10, .int (nI j1), .int y] [] h Q) ∧ (¬ (¬ (1 : Int32) = 0) → Go (d + 5) true 141 8 [.ref 10, .int (nI j1), .int y] [] h Q) from ⟨fun c2 => ?_, fun c2 => ?_⟩)
    · skip
      refine exf_go 2 (show (0 ≤ y → Go (d + 5) true 141 18 [.ref 10, .int (nI j1), .int y] [] h Q) ∧ (¬ (0 ≤ y) → Go (d + 5) true 141 15 [.ref 10, .int (nI j1), .int y] [] h Q) from ⟨fun c3 => ?_, fun c3 => ?_⟩)
      · skip
        obtain ⟨jy, e1y, e2y⟩ := nI_of (Int32.not_lt.mpr c3)
        subst e2y
        have e3y := nI_pos e1y
        refine exf_go 4 (show wpC (d + 5) true 168 [.ref 10, .int (nI j1), .int 256] h (fun _ h' => Go (d + 5) true 141 26 [.ref 10, .int (nI j1), .int (nI jy)] [] h' Q) from ?_)
        refine c_rankMate256 (m := j1) wf cs cl (by omega) (fun h1 r1 rk1 => ?_)
        have p1 := r1.mono scK_C
        have g1 : Gq scC h h1 := Gq.rfl'.tr p1
        have cs1 := cs_gq cs g1; have cl1 := cl_gq cl g1; have wf1 := g1.2.2.2.1 wf
        have hcc := cntN_le (elg g l (sK g j1) false) (tot g)
        show Go (d + 5) true 141 26 [.ref 10, .int (nI j1), .int (nI jy)] [] h1 Q
        refine exf_go 4 (show wpC (d + 5) true 49 [.ref 71, .int (nI jy)] h1 (fun r h' => Go (d + 5) true 141 34 [.ref 10, .int (nI j1), .int (nI jy)] [r] h' Q) from ?_)
        refine c_at cs.1 rk1 (j := jy) (by omega) (fun r4 => ?_) (fun r4 => ?_)
        · skip
          have hoi := ordE_in (E := (elg g l (sK g j1) false)) (g := g) (kn := (sK g j1)) (k := jy) r4
          show Go (d + 5) true 141 34 [.ref 10, .int (nI j1), .int (nI jy)] [.int (nI (ordE (elg g l (sK g j1) false) g (sK g j1) jy))] h1 Q
          refine exf_go 1 (show Q (.int (nI (ordE (elg g l (sK g j1) false) g (sK g j1) jy))) h1 from ?_)
          simp only [fMate, e1] at k
          rw [if_neg e3y, nI_clamp e1y, if_pos r4] at k
          exact k _ g1
        · skip
          show Go (d + 5) true 141 34 [.ref 10, .int (nI j1), .int (nI jy)] [.int (-1)] h1 Q
          refine exf_go 1 (show Q (.int (-1)) h1 from ?_)
          simp only [fMate, e1] at k
          rw [if_neg e3y, nI_clamp e1y, if_neg r4] at k
          exact k _ g1
      · skip
        refine exf_go 2 (show Q (.int (-3)) h from ?_)
        simp only [fMate, e1] at k
        rw [if_pos (Int32.not_le.mp c3)] at k
        exact k _ Gq.rfl'
    · skip
      exact absurd (by decide) c2
  · skip
    show Go (d + 5) true 141 5 [.ref 10, .int x, .int y] [.int 0] h Q
    refine exf_go 1 (show (¬ (0 : Int32) = 0 → Go (d + 5) true 141 11 [.ref 10, .int x, .int y] [] h Q) ∧ (¬ (¬ (0 : Int32) = 0) → Go (d + 5) true 141 8 [.ref 10, .int x, .int y] [] h Q) from ⟨fun c5 => ?_, fun c5 => ?_⟩)
    · skip
      exact absurd c5 (by decide)
    · skip
      refine exf_go 2 (show Q (.int (-2)) h from ?_)
      simp only [fMate, *] at k
      exact k _ Gq.rfl'
theorem c_guarded {d : Nat} {h : Hp} {g : ShG} {l : LkG} {x y z : Int32} {Q : Po} (wf : WF h) (cs : CS 31 g h) (cl : CL 39 g l h) (k : ∀ h1, Gq scC h h1 → Q (.long (fGuarded g l x y z)) h1) : wpC (d + 6) true 142 [.ref 10, .int x, .int y, .int z] h Q := by
  have hN := tot_b cs.1
  have he := evr_b cs.1
  have h8 := cs.1.2.2.2.1
  have h4 := cs.1.2.2.2.2.2.1
  refine go_in rfl ?_
  refine exf_go 3 (show wpC (d + 5) true 158 [.ref 10, .int x] h (fun r h' => Go (d + 5) true 142 5 [.ref 10, .int x, .int y, .int z] [r] h' Q) from ?_)
  refine c_isMate cs (fun j1 e1 q1 r1 => ?_) (fun e1 => ?_)
  · skip
    subst q1
    show Go (d + 5) true 142 5 [.ref 10, .int (nI j1), .int y, .int z] [.int 1] h Q
    refine exf_go 1 (show ((1 : Int32) = 0 → Go (d + 5) true 142 15 [.ref 10, .int (nI j1), .int y, .int z] [] h Q) ∧ (¬ ((1 : Int32) = 0) → Go (d + 5) true 142 8 [.ref 10, .int (nI j1), .int y, .int z] [] h Q) from ⟨fun c2 => ?_, fun c2 => ?_⟩)
    · skip
      exact absurd c2 (by decide)
    · skip
      refine exf_go 2 (show wpC (d + 5) true 161 [.int z] h (fun r h' => Go (d + 5) true 142 12 [.ref 10, .int (nI j1), .int y, .int z] [r] h' Q) from ?_)
      refine c_isPart (x := z) (fun jy ey eyq eyr => ?_) (fun ey => ?_)
      · skip
        subst eyq
        show Go (d + 5) true 142 12 [.ref 10, .int (nI j1), .int y, .int (nI jy)] [.int 1] h Q
        refine exf_go 1 (show (¬ (1 : Int32) = 0 → Go (d + 5) true 142 19 [.ref 10, .int (nI j1), .int y, .int (nI jy)] [] h Q) ∧ (¬ (¬ (1 : Int32) = 0) → Go (d + 5) true 142 15 [.ref 10, .int (nI j1), .int y, .int (nI jy)] [] h Q) from ⟨fun c3 => ?_, fun c3 => ?_⟩)
        · skip
          refine exf_go 2 (show (y < 0 → Go (d + 5) true 142 30 [.ref 10, .int (nI j1), .int y, .int (nI jy)] [] h Q) ∧ (¬ (y < 0) → Go (d + 5) true 142 23 [.ref 10, .int (nI j1), .int y, .int (nI jy)] [] h Q) from ⟨fun c4 => ?_, fun c4 => ?_⟩)
          · skip
            have ex : ixN y 10001 = none := ix_neg c4
            refine exf_go 2 (show Q (.long (-3)) h from ?_)
            simp only [fGuarded, e1, ey] at k
            simp only [ex] at k
            exact k _ Gq.rfl'
          · skip
            refine exf_go 3 (show (y ≤ 10000 → Go (d + 5) true 142 34 [.ref 10, .int (nI j1), .int y, .int (nI jy)] [] h Q) ∧ (¬ (y ≤ 10000) → Go (d + 5) true 142 30 [.ref 10, .int (nI j1), .int y, .int (nI jy)] [] h Q) from ⟨fun c5 => ?_, fun c5 => ?_⟩)
            · skip
              obtain ⟨jx, ex, exq, exr⟩ := ix_le (n := 10000) (by omega) c4 c5
              subst exq
              refine exf_go 3 (show wpC (d + 5) true 33 [.ref 39] h (fun r h' => Go (d + 5) true 142 41 [.ref 10, .int (nI j1), .int (nI jx), .int (nI jy)] [r] h' Q) from ?_)
              refine c_leftOnes cs cl ?_
              have := cntN_le (lft g l) (tot g)
              show Go (d + 5) true 142 41 [.ref 10, .int (nI j1), .int (nI jx), .int (nI jy)] [.int (nI (cntN (lft g l) (tot g)))] h Q
              refine exf_go 1 (show (¬ (nI (cntN (lft g l) (tot g))) = 0 → Go (d + 5) true 142 48 [.ref 10, .int (nI j1), .int (nI jx), .int (nI jy)] [] h Q) ∧ (¬ (¬ (nI (cntN (lft g l) (tot g))) = 0) → Go (d + 5) true 142 44 [.ref 10, .int (nI j1), .int (nI jx), .int (nI jy)] [] h Q) from ⟨fun c6 => ?_, fun c6 => ?_⟩)
              · skip
                have c6 : ¬ (cntN (lft g l) (tot g)) = 0 := fun q => c6 ((nI_eq (a := (cntN (lft g l) (tot g))) (b := 0) (by omega) (by omega)).mpr q)
                refine exf_go 4 (show wpC (d + 5) true 168 [.ref 10, .int (nI j1), .int 256] h (fun _ h' => Go (d + 5) true 142 56 [.ref 10, .int (nI j1), .int (nI jx), .int (nI jy)] [] h' Q) from ?_)
                refine c_rankMate256 (m := j1) wf cs cl (by omega) (fun h1 r1 rk1 => ?_)
                have p1 := r1.mono scK_C
                have g1 : Gq scC h h1 := Gq.rfl'.tr p1
                have cs1 := cs_gq cs g1; have cl1 := cl_gq cl g1; have wf1 := g1.2.2.2.1 wf
                have hcc := cntN_le (elg g l (sK g j1) false) (tot g)
                show Go (d + 5) true 142 56 [.ref 10, .int (nI j1), .int (nI jx), .int (nI jy)] [] h1 Q
                refine exf_go 3 (show wpC (d + 5) true 169 [.ref 10, .int (nI jx)] h1 (fun r h' => Go (d + 5) true 142 61 [.ref 10, .int (nI j1), .int (nI jx), .int (nI jy)] [r] h' Q) from ?_)
                refine c_lwFirst cs1 cl1 rk1 (n := jx) (by omega) ?_
                have hfl : fstE (elg g l (sK g j1) false) g l (sK g j1) (min jx (cntN (elg g l (sK g j1) false) (tot g))) ≤ 1000000000000 := fstE_b cs.1 (by omega)
                show Go (d + 5) true 142 61 [.ref 10, .int (nI j1), .int (nI jx), .int (nI jy)] [.long (lN (fstE (elg g l (sK g j1) false) g l (sK g j1) (min jx (cntN (elg g l (sK g j1) false) (tot g)))))] h1 Q
                refine exf_go 2 (show wpC (d + 5) true 165 [.ref 10] h1 (fun r h' => Go (d + 5) true 142 65 [.ref 10, .int (nI j1), .int (nI jx), .int (nI jy)] [r, .long (lN (fstE (elg g l (sK g j1) false) g l (sK g j1) (min jx (cntN (elg g l (sK g j1) false) (tot g)))))] h' Q) from ?_)
                refine c_leftSum cs1 cl1 ?_
                have hsL : sumL g l ≤ 1000000000000 := sumN_b (lwt_b cs.1 l) _ hN.2
                show Go (d + 5) true 142 65 [.ref 10, .int (nI j1), .int (nI jx), .int (nI jy)] [.long (lN (sumL g l)), .long (lN (fstE (elg g l (sK g j1) false) g l (sK g j1) (min jx (cntN (elg g l (sK g j1) false) (tot g)))))] h1 Q
                refine exf_go 2 (show wpC (d + 5) true 170 [.long (lN (fstE (elg g l (sK g j1) false) g l (sK g j1) (min jx (cntN (elg g l (sK g j1) false) (tot g))))), .long (lN (sumL g l)), .int (nI jy)] h1 (fun r h' => Go (d + 5) true 142 69 [.ref 10, .int (nI j1), .int (nI jx), .int (nI jy)] [r] h' Q) from ?_)
                have hsp := sumL_pos (l := l) cs.1 (by omega)
                refine c_lowest (u := (fstE (elg g l (sK g j1) false) g l (sK g j1) (min jx (cntN (elg g l (sK g j1) false) (tot g))))) (v := (sumL g l)) (by omega) (by omega) (by omega) ?_
                show Go (d + 5) true 142 69 [.ref 10, .int (nI j1), .int (nI jx), .int (nI jy)] [.long (fPart (fstE (elg g l (sK g j1) false) g l (sK g j1) (min jx (cntN (elg g l (sK g j1) false) (tot g)))) (sumL g l) (nI jy))] h1 Q
                refine exf_go 1 (show Q (.long (fPart (fstE (elg g l (sK g j1) false) g l (sK g j1) (min jx (cntN (elg g l (sK g j1) false) (tot g)))) (sumL g l) (nI jy))) h1 from ?_)
                simp only [fGuarded, e1, ey] at k
                simp only [ex] at k; rw [if_neg (show ¬ cntL g l = 0 from c6), fGrd] at k
                exact k _ g1
              · skip
                have c6 : (cntN (lft g l) (tot g)) = 0 := (nI_eq (a := (cntN (lft g l) (tot g))) (b := 0) (by omega) (by omega)).mp (Classical.not_not.mp c6)
                refine exf_go 2 (show Q (.long (-5)) h from ?_)
                simp only [fGuarded, e1, ey] at k
                simp only [ex] at k; rw [if_pos (show cntL g l = 0 from c6)] at k
                exact k _ Gq.rfl'
            · skip
              have ex : ixN y 10001 = none := ix_gt (n := 10000) (by omega) c5
              refine exf_go 2 (show Q (.long (-3)) h from ?_)
              simp only [fGuarded, e1, ey] at k
              simp only [ex] at k
              exact k _ Gq.rfl'
        · skip
          exact absurd (by decide) c3
      · skip
        show Go (d + 5) true 142 12 [.ref 10, .int (nI j1), .int y, .int z] [.int 0] h Q
        refine exf_go 1 (show (¬ (0 : Int32) = 0 → Go (d + 5) true 142 19 [.ref 10, .int (nI j1), .int y, .int z] [] h Q) ∧ (¬ (¬ (0 : Int32) = 0) → Go (d + 5) true 142 15 [.ref 10, .int (nI j1), .int y, .int z] [] h Q) from ⟨fun c7 => ?_, fun c7 => ?_⟩)
        · skip
          exact absurd c7 (by decide)
        · skip
          refine exf_go 2 (show Q (.long (-2)) h from ?_)
          simp only [fGuarded, *] at k
          exact k _ Gq.rfl'
  · skip
    show Go (d + 5) true 142 5 [.ref 10, .int x, .int y, .int z] [.int 0] h Q
    refine exf_go 1 (show ((0 : Int32) = 0 → Go (d + 5) true 142 15 [.ref 10, .int x, .int y, .int z] [] h Q) ∧ (¬ ((0 : Int32) = 0) → Go (d + 5) true 142 8 [.ref 10, .int x, .int y, .int z] [] h Q) from ⟨fun c8 => ?_, fun c8 => ?_⟩)
    · skip
      refine exf_go 2 (show Q (.long (-2)) h from ?_)
      simp only [fGuarded, *] at k
      exact k _ Gq.rfl'
    · skip
      exact absurd (by decide) c8
