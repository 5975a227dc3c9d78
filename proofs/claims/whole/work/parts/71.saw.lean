/-! When to saw. -/
/-- wrong tries, as a number -/
def lW (l : LkG) : Nat := (lG l).toBitVec.toNat
theorem lW_n (l : LkG) : lG l = nI (lW l) := by
  apply Int32.toBitVec_inj.mp
  show (lG l).toBitVec = BitVec.ofNat 32 ((lG l).toBitVec.toNat)
  rw [BitVec.ofNat_toNat, BitVec.setWidth_eq]
/-- wrong ones are fewer than bar it -/
def BarW (g : ShG) (l : LkG) : Prop := 0 < sBA g → lW l < sBA g ∧ 1 ≤ sBS g
def swC (g : ShG) (l : LkG) : Nat → Nat
  | 0 => lW l
  | k + 1 => (if 0 < sBA g ∧ sBA g ≤ swC g l k then 0 else swC g l k) + 1
def swB (g : ShG) (l : LkG) (k : Nat) : Nat := if 0 < sBA g ∧ sBA g ≤ swC g l k then sBS g else 0
def swR (g : ShG) (l : LkG) (k : Nat) : Nat := if 0 < sBA g ∧ sBA g ≤ swC g l k then 0 else swC g l k
def swA (g : ShG) (l : LkG) : Nat → Nat
  | 0 => lA l
  | k + 1 => ordL g l k
def swX (g : ShG) (l : LkG) : Nat → Nat
  | 0 => 0
  | k + 1 => swX g l k + swB g l k + trn g (swA g l k) (ordL g l k) + sP g
def swW (g : ShG) (l : LkG) (k : Nat) : Nat := wtA g (sH g (ordL g l k))
def swO (g : ShG) (l : LkG) : Nat → Nat
  | 0 => 0
  | k + 1 => swO g l k + swW g l k * swX g l (k + 1)
def swI (g : ShG) (l : LkG) (k : Nat) : Nat := swO g l k + (sumL g l - fstL g l k) * (swX g l k + sSw g)
def swM (g : ShG) (l : LkG) : Nat → Nat × Nat
  | 0 => (0, sumL g l * sSw g)
  | k + 1 => if swI g l (k + 1) < (swM g l k).2 then (k + 1, swI g l (k + 1)) else swM g l k
theorem swC_b {g : ShG} {l : LkG} (hg : ShW g) (hb : BarW g l) (h0 : 0 < sBA g) : ∀ k, swC g l k ≤ 9
  | 0 => by have := (hb h0).1; have := hg.2.2.2.2.2.2.2.2.1; show lW l ≤ 9; omega
  | k + 1 => by
    have := swC_b hg hb h0 k
    have h9 := hg.2.2.2.2.2.2.2.2.1
    rw [swC]
    split
    · omega
    · rename_i q
      have : ¬ sBA g ≤ swC g l k := fun z => q ⟨h0, z⟩
      omega
theorem swB_b {g : ShG} (hg : ShW g) (l : LkG) (k : Nat) : swB g l k ≤ 999 := by
  have := hg.2.2.2.2.2.2.2.2.2.1
  unfold swB
  split <;> omega
theorem swX_b {g : ShG} (hg : ShW g) (l : LkG) : ∀ k, swX g l k ≤ k * 1383
  | 0 => Nat.le_refl _
  | k + 1 => by
    have h1 := swX_b hg l k
    have h2 := swB_b hg l k
    have h3 := trn_b hg (swA g l k) (ordL g l k)
    have h4 := hg.2.2.2.2.2.2.2.1
    rw [swX]
    omega
theorem swO_b {g : ShG} (hg : ShW g) (l : LkG) : ∀ k, k ≤ 200 → swO g l k ≤ k * 27660000000000
  | 0, _ => Nat.le_refl _
  | k + 1, h => by
    have h1 := swO_b hg l k (by omega)
    have h2 := swX_b hg l (k + 1)
    have h3 : swW g l k * swX g l (k + 1) ≤ 100000000 * 276600 := Nat.mul_le_mul (wtA_b hg _) (by omega)
    rw [swO]
    omega
theorem swI_b {g : ShG} (hg : ShW g) (l : LkG) {k : Nat} (h : k ≤ 200) : swI g l k ≤ 1000000000000000000 := by
  have h1 := swO_b hg l k h
  have h2 := swX_b hg l k
  have h4 := hg.2.2.2.2.2.2.2.2.2.2.1
  have h5 : sumL g l ≤ 1000000000000 := sumN_b (lwt_b hg l) _ (tot_b hg).2
  have h3 : (sumL g l - fstL g l k) * (swX g l k + sSw g) ≤ 1000000000000 * 277599 := Nat.mul_le_mul (by omega) (by omega)
  unfold swI
  omega
theorem swM_b {g : ShG} (hg : ShW g) (l : LkG) : ∀ k, k ≤ 200 → (swM g l k).1 ≤ k ∧ (swM g l k).2 ≤ 1000000000000000000
  | 0, _ => ⟨Nat.le_refl _, by
    have h4 := hg.2.2.2.2.2.2.2.2.2.2.1
    have h5 : sumL g l ≤ 1000000000000 := sumN_b (lwt_b hg l) _ (tot_b hg).2
    have h3 : sumL g l * sSw g ≤ 1000000000000 * 999 := Nat.mul_le_mul h5 h4
    show sumL g l * sSw g ≤ _
    omega⟩
  | k + 1, h => by
    have ih := swM_b hg l k (by omega)
    have h2 := swI_b hg l h
    rw [swM]
    split
    · exact ⟨Nat.le_refl _, h2⟩
    · exact ⟨by omega, ih.2⟩
theorem fst_le {g : ShG} {l : LkG} {k : Nat} (h : k ≤ cntN (lft g l) (tot g)) : fstL g l k ≤ sumL g l := by
  have h1 : fstL g l (cntN (lft g l) (tot g)) = sumL g l := ord_sum (ordV_ok (lft g l) (key g (evr g)) (tot g)) (fun n => wtA g (sH g n))
  rw [← h1]
  have hm : ∀ j, fstL g l k ≤ fstL g l (k + j) := fun j => by
    induction j with
    | zero => exact Nat.le_refl _
    | succ j ih => exact Nat.le_trans ih (Nat.le_add_right _ _)
  have := hm (cntN (lft g l) (tot g) - k)
  rwa [show k + (cntN (lft g l) (tot g) - k) = cntN (lft g l) (tot g) from by omega] at this
theorem fst_s (g : ShG) (l : LkG) (k : Nat) : fstL g l (k + 1) = fstL g l k + swW g l k := rfl
def fSaw (g : ShG) (l : LkG) (x : Int32) : Int64 := match ixN x 3 with
  | none => -2
  | some j => if sSw g = 0 ∨ cntL g l = 0 ∨ lO l = 1 then -5 else if j = 0 then lN (swM g l (min (cntL g l) 200)).1 else fPart (swM g l (min (cntL g l) 200)).2 (sumL g l) (nI j - 1)
theorem sm_y {g : ShG} {l : LkG} {k a b : Nat} (hs : (a, b) = swM g l k) (h : swI g l (k + 1) < b) : (k + 1, swI g l (k + 1)) = swM g l (k + 1) := by rw [swM, ← hs, if_pos h]
theorem sm_n {g : ShG} {l : LkG} {k a b : Nat} (hs : (a, b) = swM g l k) (h : ¬ swI g l (k + 1) < b) : (a, b) = swM g l (k + 1) := by rw [swM, ← hs, if_neg h]
theorem sw_r {r s f f2 w : Nat} (h : r = s - f) (h2 : f2 = f + w) : r - w = s - f2 := by omega
theorem c_plan {d : Nat} {h : Hp} {g : ShG} {l : LkG} {j : Nat} {Q : Po} (wf : WF h) (cs : CS 31 g h) (cl : CL 39 g l h) (bw : BarW g l) (hj : j < 3) (hc0 : ¬ cntL g l = 0) (k : ∀ h1, Gq scC h h1 → Q (.long (if j = 0 then lN (swM g l (min (cntL g l) 200)).1 else fPart (swM g l (min (cntL g l) 200)).2 (sumL g l) (nI j - 1))) h1) : wpC (d + 6) true 180 [.ref 10, .int (nI j)] h Q := by
  have hN := tot_b cs.1
  have he := evr_b cs.1
  have h8 := cs.1.2.2.2.1
  have h4 := cs.1.2.2.2.2.2.1
  have hcl0 : ¬ cntN (lft g l) (tot g) = 0 := hc0
  have hb9 := cs.1.2.2.2.2.2.2.2.2.1
  have hs9 := cs.1.2.2.2.2.2.2.2.2.2.1
  have hw9 := cs.1.2.2.2.2.2.2.2.2.2.2.1
  have hp6 := cs.1.2.2.2.2.2.2.2.1
  refine go_in rfl ?_
  refine exf_go 2 (show wpC (d + 5) true 167 [.ref 10] h (fun _ h' => Go (d + 5) true 180 4 [.ref 10, .int (nI j), mk_, mk_, mk_, mk_, mk_, mk_, mk_, mk_, mk_, mk_, mk_, mk_, mk_, mk_, mk_, mk_, mk_, mk_] [] h' Q) from ?_)
  refine c_rankLeft wf cs cl (fun h1 r1 rk1 => ?_)
  have p1 := r1.mono scR_C
  have g1 : Gq scC h h1 := Gq.rfl'.tr p1
  have cs1 := cs_gq cs g1; have cl1 := cl_gq cl g1; have wf1 := g1.2.2.2.1 wf
  have hcc := cntN_le (lft g l) (tot g)
  show Go (d + 5) true 180 4 [.ref 10, .int (nI j), mk_, mk_, mk_, mk_, mk_, mk_, mk_, mk_, mk_, mk_, mk_, mk_, mk_, mk_, mk_, mk_, mk_, mk_] [] h1 Q
  refine exf_go 2 (show wpC (d + 5) true 165 [.ref 10] h1 (fun r h' => Go (d + 5) true 180 8 [.ref 10, .int (nI j), mk_, mk_, mk_, mk_, mk_, mk_, mk_, mk_, mk_, mk_, mk_, mk_, mk_, mk_, mk_, mk_, mk_, mk_] [r] h' Q) from ?_)
  refine c_leftSum cs1 cl1 ?_
  have hsL : sumL g l ≤ 1000000000000 := sumN_b (lwt_b cs.1 l) _ hN.2
  show Go (d + 5) true 180 8 [.ref 10, .int (nI j), mk_, mk_, mk_, mk_, mk_, mk_, mk_, mk_, mk_, mk_, mk_, mk_, mk_, mk_, mk_, mk_, mk_, mk_] [.long (lN (sumL g l))] h1 Q
  refine exf_go 10 (show Go (d + 5) true 180 25 [.ref 10, .int (nI j), .long (lN (sumL g l)), mk_, .long (lN (sumL g l)), mk_, .long 0, mk_, .long 0, mk_, mk_, mk_, mk_, mk_, mk_, mk_, mk_, mk_, mk_, mk_] [.int (rI h1 39 5)] h1 Q from ?_)
  rw [show (rI h1 39 5 : Int32) = nI (lW l) from (cl_G cl1).trans (lW_n l)]
  refine exf_go 4 (show Go (d + 5) true 180 34 [.ref 10, .int (nI j), .long (lN (sumL g l)), mk_, .long (lN (sumL g l)), mk_, .long 0, mk_, .long 0, mk_, .int (nI (lW l)), mk_, mk_, mk_, mk_, mk_, mk_, mk_, mk_, mk_] [.int (rI h1 39 3)] h1 Q from ?_)
  rw [show (rI h1 39 3 : Int32) = nI (lA l) from cl_A cl1]
  refine exf_go 7 (show Go (d + 5) true 180 48 [.ref 10, .int (nI j), .long (lN (sumL g l)), mk_, .long (lN (sumL g l)), mk_, .long 0, mk_, .long 0, mk_, .int (nI (lW l)), .int (nI (lA l)), .int 0, mk_, mk_, mk_, mk_, mk_, mk_, mk_] [.int (rI h1 31 12), .long (lN (sumL g l))] h1 Q from ?_)
  rw [show (rI h1 31 12 : Int32) = nI (sSw g) from cs_Sw cs1]
  refine exf_go 1 (show Go (d + 5) true 180 49 [.ref 10, .int (nI j), .long (lN (sumL g l)), mk_, .long (lN (sumL g l)), mk_, .long 0, mk_, .long 0, mk_, .int (nI (lW l)), .int (nI (lA l)), .int 0, mk_, mk_, mk_, mk_, mk_, mk_, mk_] [.long ((nI (sSw g)).toInt64), .long (lN (sumL g l))] h1 Q from ?_)
  rw [show ((nI (sSw g)).toInt64 : Int64) = lN (sSw g) from nI_l (n := (sSw g)) (by omega)]
  refine exf_go 1 (show Go (d + 5) true 180 50 [.ref 10, .int (nI j), .long (lN (sumL g l)), mk_, .long (lN (sumL g l)), mk_, .long 0, mk_, .long 0, mk_, .int (nI (lW l)), .int (nI (lA l)), .int 0, mk_, mk_, mk_, mk_, mk_, mk_, mk_] [.long ((lN (sumL g l)) * (lN (sSw g)))] h1 Q from ?_)
  rw [show ((lN (sumL g l)) * (lN (sSw g)) : Int64) = lN ((sumL g l) * (sSw g)) from lN_mul (sumL g l) (sSw g)]
  refine exf_go 4 (show Go (d + 5) true 180 59 [.ref 10, .int (nI j), .long (lN (sumL g l)), mk_, .long (lN (sumL g l)), mk_, .long 0, mk_, .long 0, mk_, .int (nI (lW l)), .int (nI (lA l)), .int 0, .long (lN ((sumL g l) * (sSw g))), mk_, mk_, mk_, mk_, mk_, mk_] [.int (rI h1 71 1)] h1 Q from ?_)
  rw [show (rI h1 71 1 : Int32) = nI (cntN (lft g l) (tot g)) from rk1.1]
  refine exf_go 2 (show wpC (d + 5) true 304 [.int (nI (cntN (lft g l) (tot g))), .int 200] h1 (fun r h' => Go (d + 5) true 180 65 [.ref 10, .int (nI j), .long (lN (sumL g l)), mk_, .long (lN (sumL g l)), mk_, .long 0, mk_, .long 0, mk_, .int (nI (lW l)), .int (nI (lA l)), .int 0, .long (lN ((sumL g l) * (sSw g))), mk_, mk_, mk_, mk_, mk_, mk_] [r] h' Q) from ?_)
  refine c_min (a := cntN (lft g l) (tot g)) (b := 200) (by omega) (by omega) ?_
  show Go (d + 5) true 180 65 [.ref 10, .int (nI j), .long (lN (sumL g l)), mk_, .long (lN (sumL g l)), mk_, .long 0, mk_, .long 0, mk_, .int (nI (lW l)), .int (nI (lA l)), .int 0, .long (lN ((sumL g l) * (sSw g))), mk_, mk_, mk_, mk_, mk_, mk_] [.int (nI (min (cntN (lft g l) (tot g)) 200))] h1 Q
  refine exf_go 3 (show Go (d + 5) true 180 70 [.ref 10, .int (nI j), .long (lN (sumL g l)), mk_, .long (lN (sumL g l)), mk_, .long 0, mk_, .long 0, mk_, .int (nI (lW l)), .int (nI (lA l)), .int 0, .long (lN ((sumL g l) * (sSw g))), mk_, .int (nI (min (cntN (lft g l) (tot g)) 200)), .int 0, mk_, mk_, mk_] [] h1 Q from ?_)
  have L70 : ∀ (k70 : Nat) (z17 z18 : Value) (i rr o x c f b m : Nat), (min (cntN (lft g l) (tot g)) 200 - i) < k70 → (i ≤ min (cntN (lft g l) (tot g)) 200) → (rr = sumL g l - fstL g l i) → (o = swO g l i) → (x = swX g l i) → (c = swC g l i) → (f = swA g l i) → ((b, m) = swM g l i) → Go (d + 5) true 180 70 [.ref 10, .int (nI j), .long (lN (sumL g l)), mk_, .long (lN rr), mk_, .long (lN o), mk_, .long (lN x), mk_, .int (nI c), .int (nI f), .int (nI b), .long (lN m), mk_, .int (nI (min (cntN (lft g l) (tot g)) 200)), .int (nI i), z17, z18, mk_] [] h1 Q := by
    intro k70
    induction k70 with
    | zero => intro z17 z18 i rr o x c f b m hk; exact absurd hk (Nat.not_lt_zero _)
    | succ k70 ih70 =>
      intro z17 z18 i rr o x c f b m hk hi hR hO hX hC hA hs
      have hfl : f < tot g := by rw [hA]; cases i with | zero => exact cl.1.1 | succ i => exact (ordE_in (E := lft g l) (g := g) (kn := evr g) (k := i) (by omega)).1
      have hfs : fstL g l (i + 1) ≤ sumL g l ∨ i = min (cntN (lft g l) (tot g)) 200 := by rcases Nat.lt_or_ge i (min (cntN (lft g l) (tot g)) 200) with q | q; exact Or.inl (fst_le (by omega)); exact Or.inr (by omega)
      have hfss := fst_s g l i
      have hBb := swB_b cs.1 l i
      have hXb := swX_b cs.1 l i
      have hOb := swO_b cs.1 l i (by omega)
      have hCb := swC_b cs.1 bw
      have hmb := swM_b cs.1 l i (by omega)
      rw [← hs] at hmb
      have hmb1 : b ≤ i := hmb.1
      have hmb2 : m ≤ 1000000000000000000 := hmb.2
      have hWb : swW g l i ≤ 100000000 := wtA_b cs.1 _
      refine exf_go 3 (show ((nI (min (cntN (lft g l) (tot g)) 200)) ≤ (nI i) → Go (d + 5) true 180 226 [.ref 10, .int (nI j), .long (lN (sumL g l)), mk_, .long (lN rr), mk_, .long (lN o), mk_, .long (lN x), mk_, .int (nI c), .int (nI f), .int (nI b), .long (lN m), mk_, .int (nI (min (cntN (lft g l) (tot g)) 200)), .int (nI i), z17, z18, mk_] [] h1 Q) ∧ (¬ ((nI (min (cntN (lft g l) (tot g)) 200)) ≤ (nI i)) → Go (d + 5) true 180 77 [.ref 10, .int (nI j), .long (lN (sumL g l)), mk_, .long (lN rr), mk_, .long (lN o), mk_, .long (lN x), mk_, .int (nI c), .int (nI f), .int (nI b), .long (lN m), mk_, .int (nI (min (cntN (lft g l) (tot g)) 200)), .int (nI i), z17, z18, mk_] [] h1 Q) from ⟨fun c1 => ?_, fun c1 => ?_⟩)
      · skip
        have c1 : (min (cntN (lft g l) (tot g)) 200) ≤ i := (nI_leI (a := (min (cntN (lft g l) (tot g)) 200)) (b := i) (by omega) (by omega)).mp c1
        refine exf_go 2 (show (¬ (nI j) = 0 → Go (d + 5) true 180 236 [.ref 10, .int (nI j), .long (lN (sumL g l)), mk_, .long (lN rr), mk_, .long (lN o), mk_, .long (lN x), mk_, .int (nI c), .int (nI f), .int (nI b), .long (lN m), mk_, .int (nI (min (cntN (lft g l) (tot g)) 200)), .int (nI i), z17, z18, mk_] [] h1 Q) ∧ (¬ (¬ (nI j) = 0) → Go (d + 5) true 180 230 [.ref 10, .int (nI j), .long (lN (sumL g l)), mk_, .long (lN rr), mk_, .long (lN o), mk_, .long (lN x), mk_, .int (nI c), .int (nI f), .int (nI b), .long (lN m), mk_, .int (nI (min (cntN (lft g l) (tot g)) 200)), .int (nI i), z17, z18, mk_] [] h1 Q) from ⟨fun c2 => ?_, fun c2 => ?_⟩)
        · skip
          have c2 : ¬ j = 0 := fun q => c2 ((nI_eq (a := j) (b := 0) (by omega) (by omega)).mpr q)
          refine exf_go 6 (show wpC (d + 5) true 170 [.long (lN m), .long (lN (sumL g l)), .int ((nI j) - 1)] h1 (fun r h' => Go (d + 5) true 180 245 [.ref 10, .int (nI j), .long (lN (sumL g l)), mk_, .long (lN rr), mk_, .long (lN o), mk_, .long (lN x), mk_, .int (nI c), .int (nI f), .int (nI b), .long (lN m), mk_, .int (nI (min (cntN (lft g l) (tot g)) 200)), .int (nI i), z17, z18, mk_] [r] h' Q) from ?_)
          have hsp := sumL_pos (l := l) cs.1 (by omega)
          refine c_lowest (u := m) (v := (sumL g l)) (by omega) (by omega) (by omega) ?_
          show Go (d + 5) true 180 245 [.ref 10, .int (nI j), .long (lN (sumL g l)), mk_, .long (lN rr), mk_, .long (lN o), mk_, .long (lN x), mk_, .int (nI c), .int (nI f), .int (nI b), .long (lN m), mk_, .int (nI (min (cntN (lft g l) (tot g)) 200)), .int (nI i), z17, z18, mk_] [.long (fPart m (sumL g l) ((nI j) - 1))] h1 Q
          refine exf_go 1 (show Q (.long (fPart m (sumL g l) ((nI j) - 1))) h1 from ?_)
          rw [show i = min (cntN (lft g l) (tot g)) 200 from by omega] at hs
          rw [if_neg (by omega), cntL, ← hs] at k
          exact k _ g1
        · skip
          have c2 : j = 0 := (nI_eq (a := j) (b := 0) (by omega) (by omega)).mp (Classical.not_not.mp c2)
          refine exf_go 2 (show Go (d + 5) true 180 233 [.ref 10, .int (nI j), .long (lN (sumL g l)), mk_, .long (lN rr), mk_, .long (lN o), mk_, .long (lN x), mk_, .int (nI c), .int (nI f), .int (nI b), .long (lN m), mk_, .int (nI (min (cntN (lft g l) (tot g)) 200)), .int (nI i), z17, z18, mk_] [.long ((nI b).toInt64)] h1 Q from ?_)
          rw [show ((nI b).toInt64 : Int64) = lN b from nI_l (n := b) (by omega)]
          refine exf_go 2 (show Q (.long (lN b)) h1 from ?_)
          rw [show i = min (cntN (lft g l) (tot g)) 200 from by omega] at hs
          have e0 : j = 0 := by omega
          rw [if_pos e0, cntL, ← hs] at k
          exact k _ g1
      · skip
        have c1 : ¬ (min (cntN (lft g l) (tot g)) 200) ≤ i := fun q => c1 ((nI_leI (a := (min (cntN (lft g l) (tot g)) 200)) (b := i) (by omega) (by omega)).mpr q)
        refine exf_go 4 (show wpC (d + 5) true 49 [.ref 71, .int (nI i)] h1 (fun r h' => Go (d + 5) true 180 86 [.ref 10, .int (nI j), .long (lN (sumL g l)), mk_, .long (lN rr), mk_, .long (lN o), mk_, .long (lN x), mk_, .int (nI c), .int (nI f), .int (nI b), .long (lN m), mk_, .int (nI (min (cntN (lft g l) (tot g)) 200)), .int (nI i), z17, z18, mk_] [r] h' Q) from ?_)
        refine c_atI cs.1 rk1 (j := i) (by omega) ?_
        have hoi := ordE_in (E := (lft g l)) (g := g) (kn := (evr g)) (k := i) (by omega)
        show Go (d + 5) true 180 86 [.ref 10, .int (nI j), .long (lN (sumL g l)), mk_, .long (lN rr), mk_, .long (lN o), mk_, .long (lN x), mk_, .int (nI c), .int (nI f), .int (nI b), .long (lN m), mk_, .int (nI (min (cntN (lft g l) (tot g)) 200)), .int (nI i), z17, z18, mk_] [.int (nI (ordE (lft g l) g (evr g) i))] h1 Q
        refine exf_go 4 (show Go (d + 5) true 180 95 [.ref 10, .int (nI j), .long (lN (sumL g l)), mk_, .long (lN rr), mk_, .long (lN o), mk_, .long (lN x), mk_, .int (nI c), .int (nI f), .int (nI b), .long (lN m), mk_, .int (nI (min (cntN (lft g l) (tot g)) 200)), .int (nI i), .int (nI (ordE (lft g l) g (evr g) i)), z18, mk_] [.int (rI h1 31 10)] h1 Q from ?_)
        rw [show (rI h1 31 10 : Int32) = nI (sBA g) from cs_BA cs1]
        refine exf_go 1 (show ((nI (sBA g)) ≤ 0 → Go (d + 5) true 180 126 [.ref 10, .int (nI j), .long (lN (sumL g l)), mk_, .long (lN rr), mk_, .long (lN o), mk_, .long (lN x), mk_, .int (nI c), .int (nI f), .int (nI b), .long (lN m), mk_, .int (nI (min (cntN (lft g l) (tot g)) 200)), .int (nI i), .int (nI (ordE (lft g l) g (evr g) i)), z18, mk_] [] h1 Q) ∧ (¬ ((nI (sBA g)) ≤ 0) → Go (d + 5) true 180 98 [.ref 10, .int (nI j), .long (lN (sumL g l)), mk_, .long (lN rr), mk_, .long (lN o), mk_, .long (lN x), mk_, .int (nI c), .int (nI f), .int (nI b), .long (lN m), mk_, .int (nI (min (cntN (lft g l) (tot g)) 200)), .int (nI i), .int (nI (ordE (lft g l) g (evr g) i)), z18, mk_] [] h1 Q) from ⟨fun c3 => ?_, fun c3 => ?_⟩)
        · skip
          have c3 : (sBA g) ≤ 0 := (nI_leI (a := (sBA g)) (b := 0) (by omega) (by omega)).mp c3
          have hB : swB g l i = 0 := by unfold swB; rw [if_neg (fun q => by omega)]
          have hC1 : c + 1 = swC g l (i + 1) := by rw [swC, if_neg (fun q => by omega), hC]
          refine exf_go 6 (show wpC (d + 5) true 83 [.ref 31, .int (nI f), .int (nI (ordE (lft g l) g (evr g) i))] h1 (fun r h' => Go (d + 5) true 180 139 [.ref 10, .int (nI j), .long (lN (sumL g l)), mk_, .long (lN rr), mk_, .long (lN o), mk_, .long (lN x), mk_, .int (nI c), .int (nI f), .int (nI b), .long (lN m), mk_, .int (nI (min (cntN (lft g l) (tot g)) 200)), .int (nI i), .int (nI (ordE (lft g l) g (evr g) i)), z18, mk_] [r, .long (lN x)] h' Q) from ?_)
          refine c_turns cs1 (n := f) (m := (ordE (lft g l) g (evr g) i)) (by omega) (by omega) ?_
          have htr := trn_b cs.1 f (ordE (lft g l) g (evr g) i)
          show Go (d + 5) true 180 139 [.ref 10, .int (nI j), .long (lN (sumL g l)), mk_, .long (lN rr), mk_, .long (lN o), mk_, .long (lN x), mk_, .int (nI c), .int (nI f), .int (nI b), .long (lN m), mk_, .int (nI (min (cntN (lft g l) (tot g)) 200)), .int (nI i), .int (nI (ordE (lft g l) g (evr g) i)), z18, mk_] [.int (nI (trn g f (ordE (lft g l) g (evr g) i))), .long (lN x)] h1 Q
          refine exf_go 3 (show Go (d + 5) true 180 146 [.ref 10, .int (nI j), .long (lN (sumL g l)), mk_, .long (lN rr), mk_, .long (lN o), mk_, .long (lN x), mk_, .int (nI c), .int (nI f), .int (nI b), .long (lN m), mk_, .int (nI (min (cntN (lft g l) (tot g)) 200)), .int (nI i), .int (nI (ordE (lft g l) g (evr g) i)), z18, mk_] [.int (rI h1 31 9), .int (nI (trn g f (ordE (lft g l) g (evr g) i))), .long (lN x)] h1 Q from ?_)
          rw [show (rI h1 31 9 : Int32) = nI (sP g) from cs_P cs1]
          refine exf_go 1 (show Go (d + 5) true 180 147 [.ref 10, .int (nI j), .long (lN (sumL g l)), mk_, .long (lN rr), mk_, .long (lN o), mk_, .long (lN x), mk_, .int (nI c), .int (nI f), .int (nI b), .long (lN m), mk_, .int (nI (min (cntN (lft g l) (tot g)) 200)), .int (nI i), .int (nI (ordE (lft g l) g (evr g) i)), z18, mk_] [.int ((nI (trn g f (ordE (lft g l) g (evr g) i))) + (nI (sP g))), .long (lN x)] h1 Q from ?_)
          rw [show ((nI (trn g f (ordE (lft g l) g (evr g) i))) + (nI (sP g)) : Int32) = nI ((trn g f (ordE (lft g l) g (evr g) i)) + (sP g)) from nI_add (trn g f (ordE (lft g l) g (evr g) i)) (sP g)]
          refine exf_go 1 (show Go (d + 5) true 180 148 [.ref 10, .int (nI j), .long (lN (sumL g l)), mk_, .long (lN rr), mk_, .long (lN o), mk_, .long (lN x), mk_, .int (nI c), .int (nI f), .int (nI b), .long (lN m), mk_, .int (nI (min (cntN (lft g l) (tot g)) 200)), .int (nI i), .int (nI (ordE (lft g l) g (evr g) i)), z18, mk_] [.long ((nI ((trn g f (ordE (lft g l) g (evr g) i)) + (sP g))).toInt64), .long (lN x)] h1 Q from ?_)
          rw [show ((nI ((trn g f (ordE (lft g l) g (evr g) i)) + (sP g))).toInt64 : Int64) = lN ((trn g f (ordE (lft g l) g (evr g) i)) + (sP g)) from nI_l (n := ((trn g f (ordE (lft g l) g (evr g) i)) + (sP g))) (by omega)]
          refine exf_go 1 (show Go (d + 5) true 180 149 [.ref 10, .int (nI j), .long (lN (sumL g l)), mk_, .long (lN rr), mk_, .long (lN o), mk_, .long (lN x), mk_, .int (nI c), .int (nI f), .int (nI b), .long (lN m), mk_, .int (nI (min (cntN (lft g l) (tot g)) 200)), .int (nI i), .int (nI (ordE (lft g l) g (evr g) i)), z18, mk_] [.long ((lN x) + (lN ((trn g f (ordE (lft g l) g (evr g) i)) + (sP g))))] h1 Q from ?_)
          rw [show ((lN x) + (lN ((trn g f (ordE (lft g l) g (evr g) i)) + (sP g))) : Int64) = lN (swX g l (i + 1)) from (lN_add _ _).trans (congrArg lN (by rw [swX, hB, ← hX, ← hA]; show _ = _ + trn g f (ordE (lft g l) g (evr g) i) + sP g; omega))]
          have hX2 : swX g l (i + 1) = swX g l (i + 1) := rfl; have hXb2 := swX_b cs.1 l (i + 1)
          refine exf_go 5 (show wpC (d + 5) true 164 [.ref 10, .int (nI (ordE (lft g l) g (evr g) i))] h1 (fun r h' => Go (d + 5) true 180 159 [.ref 10, .int (nI j), .long (lN (sumL g l)), mk_, .long (lN rr), mk_, .long (lN o), mk_, .long (lN (swX g l (i + 1))), mk_, .int (nI c), .int (nI f), .int (nI b), .long (lN m), mk_, .int (nI (min (cntN (lft g l) (tot g)) 200)), .int (nI i), .int (nI (ordE (lft g l) g (evr g) i)), z18, mk_] [r, .long (lN o)] h' Q) from ?_)
          refine c_leftWeight cs1 cl1 hoi.1 ?_
          have hlw : lwt g l (ordE (lft g l) g (evr g) i) = swW g l i := by rw [lwt, hoi.2]; rfl
          rw [hlw]
          show Go (d + 5) true 180 159 [.ref 10, .int (nI j), .long (lN (sumL g l)), mk_, .long (lN rr), mk_, .long (lN o), mk_, .long (lN (swX g l (i + 1))), mk_, .int (nI c), .int (nI f), .int (nI b), .long (lN m), mk_, .int (nI (min (cntN (lft g l) (tot g)) 200)), .int (nI i), .int (nI (ordE (lft g l) g (evr g) i)), z18, mk_] [.long (lN (swW g l i)), .long (lN o)] h1 Q
          refine exf_go 2 (show Go (d + 5) true 180 162 [.ref 10, .int (nI j), .long (lN (sumL g l)), mk_, .long (lN rr), mk_, .long (lN o), mk_, .long (lN (swX g l (i + 1))), mk_, .int (nI c), .int (nI f), .int (nI b), .long (lN m), mk_, .int (nI (min (cntN (lft g l) (tot g)) 200)), .int (nI i), .int (nI (ordE (lft g l) g (evr g) i)), z18, mk_] [.long ((lN (swW g l i)) * (lN (swX g l (i + 1)))), .long (lN o)] h1 Q from ?_)
          rw [show ((lN (swW g l i)) * (lN (swX g l (i + 1))) : Int64) = lN ((swW g l i) * (swX g l (i + 1))) from lN_mul (swW g l i) (swX g l (i + 1))]
          refine exf_go 1 (show Go (d + 5) true 180 163 [.ref 10, .int (nI j), .long (lN (sumL g l)), mk_, .long (lN rr), mk_, .long (lN o), mk_, .long (lN (swX g l (i + 1))), mk_, .int (nI c), .int (nI f), .int (nI b), .long (lN m), mk_, .int (nI (min (cntN (lft g l) (tot g)) 200)), .int (nI i), .int (nI (ordE (lft g l) g (evr g) i)), z18, mk_] [.long ((lN o) + (lN ((swW g l i) * (swX g l (i + 1)))))] h1 Q from ?_)
          rw [show ((lN o) + (lN ((swW g l i) * (swX g l (i + 1)))) : Int64) = lN (swO g l (i + 1)) from (lN_add _ _).trans (congrArg lN (by rw [hO]; rfl))]
          have hO2 : swO g l (i + 1) = swO g l (i + 1) := rfl; have hOb2 := swO_b cs.1 l (i + 1) (by omega)
          refine exf_go 5 (show wpC (d + 5) true 164 [.ref 10, .int (nI (ordE (lft g l) g (evr g) i))] h1 (fun r h' => Go (d + 5) true 180 173 [.ref 10, .int (nI j), .long (lN (sumL g l)), mk_, .long (lN rr), mk_, .long (lN (swO g l (i + 1))), mk_, .long (lN (swX g l (i + 1))), mk_, .int (nI c), .int (nI f), .int (nI b), .long (lN m), mk_, .int (nI (min (cntN (lft g l) (tot g)) 200)), .int (nI i), .int (nI (ordE (lft g l) g (evr g) i)), z18, mk_] [r, .long (lN rr)] h' Q) from ?_)
          refine c_leftWeight cs1 cl1 hoi.1 ?_
          have hlw : lwt g l (ordE (lft g l) g (evr g) i) = swW g l i := by rw [lwt, hoi.2]; rfl
          rw [hlw]
          show Go (d + 5) true 180 173 [.ref 10, .int (nI j), .long (lN (sumL g l)), mk_, .long (lN rr), mk_, .long (lN (swO g l (i + 1))), mk_, .long (lN (swX g l (i + 1))), mk_, .int (nI c), .int (nI f), .int (nI b), .long (lN m), mk_, .int (nI (min (cntN (lft g l) (tot g)) 200)), .int (nI i), .int (nI (ordE (lft g l) g (evr g) i)), z18, mk_] [.long (lN (swW g l i)), .long (lN rr)] h1 Q
          refine exf_go 1 (show Go (d + 5) true 180 174 [.ref 10, .int (nI j), .long (lN (sumL g l)), mk_, .long (lN rr), mk_, .long (lN (swO g l (i + 1))), mk_, .long (lN (swX g l (i + 1))), mk_, .int (nI c), .int (nI f), .int (nI b), .long (lN m), mk_, .int (nI (min (cntN (lft g l) (tot g)) 200)), .int (nI i), .int (nI (ordE (lft g l) g (evr g) i)), z18, mk_] [.long ((lN rr) - (lN (swW g l i)))] h1 Q from ?_)
          rw [show ((lN rr) - (lN (swW g l i)) : Int64) = lN (sumL g l - fstL g l (i + 1)) from (lN_sub (a := rr) (b := swW g l i) (by omega)).trans (congrArg lN (by omega))]
          have hR2 : sumL g l - fstL g l (i + 1) = sumL g l - fstL g l (i + 1) := rfl
          refine exf_go 7 (show Go (d + 5) true 180 189 [.ref 10, .int (nI j), .long (lN (sumL g l)), mk_, .long (lN (sumL g l - fstL g l (i + 1))), mk_, .long (lN (swO g l (i + 1))), mk_, .long (lN (swX g l (i + 1))), mk_, .int (nI c), .int (nI f), .int (nI b), .long (lN m), mk_, .int (nI (min (cntN (lft g l) (tot g)) 200)), .int (nI i), .int (nI (ordE (lft g l) g (evr g) i)), z18, mk_] [.int (rI h1 31 12), .long (lN (swX g l (i + 1))), .long (lN (sumL g l - fstL g l (i + 1))), .long (lN (swO g l (i + 1)))] h1 Q from ?_)
          rw [show (rI h1 31 12 : Int32) = nI (sSw g) from cs_Sw cs1]
          refine exf_go 1 (show Go (d + 5) true 180 190 [.ref 10, .int (nI j), .long (lN (sumL g l)), mk_, .long (lN (sumL g l - fstL g l (i + 1))), mk_, .long (lN (swO g l (i + 1))), mk_, .long (lN (swX g l (i + 1))), mk_, .int (nI c), .int (nI f), .int (nI b), .long (lN m), mk_, .int (nI (min (cntN (lft g l) (tot g)) 200)), .int (nI i), .int (nI (ordE (lft g l) g (evr g) i)), z18, mk_] [.long ((nI (sSw g)).toInt64), .long (lN (swX g l (i + 1))), .long (lN (sumL g l - fstL g l (i + 1))), .long (lN (swO g l (i + 1)))] h1 Q from ?_)
          rw [show ((nI (sSw g)).toInt64 : Int64) = lN (sSw g) from nI_l (n := (sSw g)) (by omega)]
          refine exf_go 1 (show Go (d + 5) true 180 191 [.ref 10, .int (nI j), .long (lN (sumL g l)), mk_, .long (lN (sumL g l - fstL g l (i + 1))), mk_, .long (lN (swO g l (i + 1))), mk_, .long (lN (swX g l (i + 1))), mk_, .int (nI c), .int (nI f), .int (nI b), .long (lN m), mk_, .int (nI (min (cntN (lft g l) (tot g)) 200)), .int (nI i), .int (nI (ordE (lft g l) g (evr g) i)), z18, mk_] [.long ((lN (swX g l (i + 1))) + (lN (sSw g))), .long (lN (sumL g l - fstL g l (i + 1))), .long (lN (swO g l (i + 1)))] h1 Q from ?_)
          rw [show ((lN (swX g l (i + 1))) + (lN (sSw g)) : Int64) = lN ((swX g l (i + 1)) + (sSw g)) from lN_add (swX g l (i + 1)) (sSw g)]
          refine exf_go 1 (show Go (d + 5) true 180 192 [.ref 10, .int (nI j), .long (lN (sumL g l)), mk_, .long (lN (sumL g l - fstL g l (i + 1))), mk_, .long (lN (swO g l (i + 1))), mk_, .long (lN (swX g l (i + 1))), mk_, .int (nI c), .int (nI f), .int (nI b), .long (lN m), mk_, .int (nI (min (cntN (lft g l) (tot g)) 200)), .int (nI i), .int (nI (ordE (lft g l) g (evr g) i)), z18, mk_] [.long ((lN (sumL g l - fstL g l (i + 1))) * (lN ((swX g l (i + 1)) + (sSw g)))), .long (lN (swO g l (i + 1)))] h1 Q from ?_)
          rw [show ((lN (sumL g l - fstL g l (i + 1))) * (lN ((swX g l (i + 1)) + (sSw g))) : Int64) = lN ((sumL g l - fstL g l (i + 1)) * ((swX g l (i + 1)) + (sSw g))) from lN_mul (sumL g l - fstL g l (i + 1)) ((swX g l (i + 1)) + (sSw g))]
          refine exf_go 1 (show Go (d + 5) true 180 193 [.ref 10, .int (nI j), .long (lN (sumL g l)), mk_, .long (lN (sumL g l - fstL g l (i + 1))), mk_, .long (lN (swO g l (i + 1))), mk_, .long (lN (swX g l (i + 1))), mk_, .int (nI c), .int (nI f), .int (nI b), .long (lN m), mk_, .int (nI (min (cntN (lft g l) (tot g)) 200)), .int (nI i), .int (nI (ordE (lft g l) g (evr g) i)), z18, mk_] [.long ((lN (swO g l (i + 1))) + (lN ((sumL g l - fstL g l (i + 1)) * ((swX g l (i + 1)) + (sSw g)))))] h1 Q from ?_)
          rw [show ((lN (swO g l (i + 1))) + (lN ((sumL g l - fstL g l (i + 1)) * ((swX g l (i + 1)) + (sSw g)))) : Int64) = lN (swI g l (i + 1)) from lN_add _ _]
          have hIb := swI_b cs.1 l (k := i + 1) (by omega)
          refine exf_go 5 (show (0 ≤ (lg_cmp (lN (swI g l (i + 1))) (lN m)) → Go (d + 5) true 180 213 [.ref 10, .int (nI j), .long (lN (sumL g l)), mk_, .long (lN (sumL g l - fstL g l (i + 1))), mk_, .long (lN (swO g l (i + 1))), mk_, .long (lN (swX g l (i + 1))), mk_, .int (nI c), .int (nI f), .int (nI b), .long (lN m), mk_, .int (nI (min (cntN (lft g l) (tot g)) 200)), .int (nI i), .int (nI (ordE (lft g l) g (evr g) i)), .long (lN (swI g l (i + 1))), mk_] [] h1 Q) ∧ (¬ (0 ≤ (lg_cmp (lN (swI g l (i + 1))) (lN m))) → Go (d + 5) true 180 203 [.ref 10, .int (nI j), .long (lN (sumL g l)), mk_, .long (lN (sumL g l - fstL g l (i + 1))), mk_, .long (lN (swO g l (i + 1))), mk_, .long (lN (swX g l (i + 1))), mk_, .int (nI c), .int (nI f), .int (nI b), .long (lN m), mk_, .int (nI (min (cntN (lft g l) (tot g)) 200)), .int (nI i), .int (nI (ordE (lft g l) g (evr g) i)), .long (lN (swI g l (i + 1))), mk_] [] h1 Q) from ⟨fun c4 => ?_, fun c4 => ?_⟩)
          · skip
            have c4 : (lN m) ≤ (lN (swI g l (i + 1))) := (lg_cmp_ge _ _).mp c4
            have c4 : m ≤ (swI g l (i + 1)) := (pk_lLE (a := m) (b := (swI g l (i + 1))) (by omega) (by omega)).mp c4
            refine exf_go 1 (show Go (d + 5) true 180 216 [.ref 10, .int (nI j), .long (lN (sumL g l)), mk_, .long (lN (sumL g l - fstL g l (i + 1))), mk_, .long (lN (swO g l (i + 1))), mk_, .long (lN (swX g l (i + 1))), mk_, .int ((nI c) + 1), .int (nI f), .int (nI b), .long (lN m), mk_, .int (nI (min (cntN (lft g l) (tot g)) 200)), .int (nI i), .int (nI (ordE (lft g l) g (evr g) i)), .long (lN (swI g l (i + 1))), mk_] [] h1 Q from ?_)
            rw [show ((nI c) + 1 : Int32) = nI (swC g l (i + 1)) from (nI_add c 1).trans (congrArg nI hC1)]
            have hC2 : swC g l (i + 1) = swC g l (i + 1) := rfl
            refine exf_go 3 (show Go (d + 5) true 180 223 [.ref 10, .int (nI j), .long (lN (sumL g l)), mk_, .long (lN (sumL g l - fstL g l (i + 1))), mk_, .long (lN (swO g l (i + 1))), mk_, .long (lN (swX g l (i + 1))), mk_, .int (nI (swC g l (i + 1))), .int (nI (ordE (lft g l) g (evr g) i)), .int (nI b), .long (lN m), mk_, .int (nI (min (cntN (lft g l) (tot g)) 200)), .int ((nI i) + 1), .int (nI (ordE (lft g l) g (evr g) i)), .long (lN (swI g l (i + 1))), mk_] [] h1 Q from ?_)
            rw [show ((nI i) + 1 : Int32) = nI (i + 1) from nI_add i 1]
            refine exf_go 1 (show Go (d + 5) true 180 70 [.ref 10, .int (nI j), .long (lN (sumL g l)), mk_, .long (lN (sumL g l - fstL g l (i + 1))), mk_, .long (lN (swO g l (i + 1))), mk_, .long (lN (swX g l (i + 1))), mk_, .int (nI (swC g l (i + 1))), .int (nI (ordE (lft g l) g (evr g) i)), .int (nI b), .long (lN m), mk_, .int (nI (min (cntN (lft g l) (tot g)) 200)), .int (nI (i + 1)), .int (nI (ordE (lft g l) g (evr g) i)), .long (lN (swI g l (i + 1))), mk_] [] h1 Q from ?_)
            exact ih70 (.int (nI (ordE (lft g l) g (evr g) i))) (.long (lN (swI g l (i + 1)))) (i + 1) (sumL g l - fstL g l (i + 1)) (swO g l (i + 1)) (swX g l (i + 1)) (swC g l (i + 1)) (ordE (lft g l) g (evr g) i) b m (by omega) (by omega) hR2 hO2 hX2 hC2 rfl (by first | exact sm_y hs (by omega) | exact sm_n hs (by omega))
          · skip
            have c4 : ¬ ((lN m) ≤ (lN (swI g l (i + 1)))) := fun q => c4 ((lg_cmp_ge _ _).mpr q)
            have c4 : ¬ (m ≤ (swI g l (i + 1))) := fun q => c4 ((pk_lLE (a := m) (b := (swI g l (i + 1))) (by omega) (by omega)).mpr q)
            refine exf_go 5 (show Go (d + 5) true 180 211 [.ref 10, .int (nI j), .long (lN (sumL g l)), mk_, .long (lN (sumL g l - fstL g l (i + 1))), mk_, .long (lN (swO g l (i + 1))), mk_, .long (lN (swX g l (i + 1))), mk_, .int (nI c), .int (nI f), .int (nI b), .long (lN (swI g l (i + 1))), mk_, .int (nI (min (cntN (lft g l) (tot g)) 200)), .int (nI i), .int (nI (ordE (lft g l) g (evr g) i)), .long (lN (swI g l (i + 1))), mk_] [.int ((nI i) + 1)] h1 Q from ?_)
            rw [show ((nI i) + 1 : Int32) = nI (i + 1) from nI_add i 1]
            refine exf_go 2 (show Go (d + 5) true 180 216 [.ref 10, .int (nI j), .long (lN (sumL g l)), mk_, .long (lN (sumL g l - fstL g l (i + 1))), mk_, .long (lN (swO g l (i + 1))), mk_, .long (lN (swX g l (i + 1))), mk_, .int ((nI c) + 1), .int (nI f), .int (nI (i + 1)), .long (lN (swI g l (i + 1))), mk_, .int (nI (min (cntN (lft g l) (tot g)) 200)), .int (nI i), .int (nI (ordE (lft g l) g (evr g) i)), .long (lN (swI g l (i + 1))), mk_] [] h1 Q from ?_)
            rw [show ((nI c) + 1 : Int32) = nI (swC g l (i + 1)) from (nI_add c 1).trans (congrArg nI hC1)]
            have hC2 : swC g l (i + 1) = swC g l (i + 1) := rfl
            refine exf_go 3 (show Go (d + 5) true 180 223 [.ref 10, .int (nI j), .long (lN (sumL g l)), mk_, .long (lN (sumL g l - fstL g l (i + 1))), mk_, .long (lN (swO g l (i + 1))), mk_, .long (lN (swX g l (i + 1))), mk_, .int (nI (swC g l (i + 1))), .int (nI (ordE (lft g l) g (evr g) i)), .int (nI (i + 1)), .long (lN (swI g l (i + 1))), mk_, .int (nI (min (cntN (lft g l) (tot g)) 200)), .int ((nI i) + 1), .int (nI (ordE (lft g l) g (evr g) i)), .long (lN (swI g l (i + 1))), mk_] [] h1 Q from ?_)
            rw [show ((nI i) + 1 : Int32) = nI (i + 1) from nI_add i 1]
            refine exf_go 1 (show Go (d + 5) true 180 70 [.ref 10, .int (nI j), .long (lN (sumL g l)), mk_, .long (lN (sumL g l - fstL g l (i + 1))), mk_, .long (lN (swO g l (i + 1))), mk_, .long (lN (swX g l (i + 1))), mk_, .int (nI (swC g l (i + 1))), .int (nI (ordE (lft g l) g (evr g) i)), .int (nI (i + 1)), .long (lN (swI g l (i + 1))), mk_, .int (nI (min (cntN (lft g l) (tot g)) 200)), .int (nI (i + 1)), .int (nI (ordE (lft g l) g (evr g) i)), .long (lN (swI g l (i + 1))), mk_] [] h1 Q from ?_)
            exact ih70 (.int (nI (ordE (lft g l) g (evr g) i))) (.long (lN (swI g l (i + 1)))) (i + 1) (sumL g l - fstL g l (i + 1)) (swO g l (i + 1)) (swX g l (i + 1)) (swC g l (i + 1)) (ordE (lft g l) g (evr g) i) (i + 1) (swI g l (i + 1)) (by omega) (by omega) hR2 hO2 hX2 hC2 rfl (by first | exact sm_y hs (by omega) | exact sm_n hs (by omega))
        · skip
          have c3 : ¬ (sBA g) ≤ 0 := fun q => c3 ((nI_leI (a := (sBA g)) (b := 0) (by omega) (by omega)).mpr q)
          have hC9 := hCb (by omega) i
          refine exf_go 4 (show Go (d + 5) true 180 107 [.ref 10, .int (nI j), .long (lN (sumL g l)), mk_, .long (lN rr), mk_, .long (lN o), mk_, .long (lN x), mk_, .int (nI c), .int (nI f), .int (nI b), .long (lN m), mk_, .int (nI (min (cntN (lft g l) (tot g)) 200)), .int (nI i), .int (nI (ordE (lft g l) g (evr g) i)), z18, mk_] [.int (rI h1 31 10), .int (nI c)] h1 Q from ?_)
          rw [show (rI h1 31 10 : Int32) = nI (sBA g) from cs_BA cs1]
          refine exf_go 1 (show ((nI c) < (nI (sBA g)) → Go (d + 5) true 180 126 [.ref 10, .int (nI j), .long (lN (sumL g l)), mk_, .long (lN rr), mk_, .long (lN o), mk_, .long (lN x), mk_, .int (nI c), .int (nI f), .int (nI b), .long (lN m), mk_, .int (nI (min (cntN (lft g l) (tot g)) 200)), .int (nI i), .int (nI (ordE (lft g l) g (evr g) i)), z18, mk_] [] h1 Q) ∧ (¬ ((nI c) < (nI (sBA g))) → Go (d + 5) true 180 110 [.ref 10, .int (nI j), .long (lN (sumL g l)), mk_, .long (lN rr), mk_, .long (lN o), mk_, .long (lN x), mk_, .int (nI c), .int (nI f), .int (nI b), .long (lN m), mk_, .int (nI (min (cntN (lft g l) (tot g)) 200)), .int (nI i), .int (nI (ordE (lft g l) g (evr g) i)), z18, mk_] [] h1 Q) from ⟨fun c5 => ?_, fun c5 => ?_⟩)
          · skip
            have c5 : c < (sBA g) := (nI_ltI (a := c) (b := (sBA g)) (by omega) (by omega)).mp c5
            have hB : swB g l i = 0 := by unfold swB; rw [if_neg (fun q => by omega)]
            have hC1 : c + 1 = swC g l (i + 1) := by rw [swC, if_neg (fun q => by omega), hC]
            refine exf_go 6 (show wpC (d + 5) true 83 [.ref 31, .int (nI f), .int (nI (ordE (lft g l) g (evr g) i))] h1 (fun r h' => Go (d + 5) true 180 139 [.ref 10, .int (nI j), .long (lN (sumL g l)), mk_, .long (lN rr), mk_, .long (lN o), mk_, .long (lN x), mk_, .int (nI c), .int (nI f), .int (nI b), .long (lN m), mk_, .int (nI (min (cntN (lft g l) (tot g)) 200)), .int (nI i), .int (nI (ordE (lft g l) g (evr g) i)), z18, mk_] [r, .long (lN x)] h' Q) from ?_)
            refine c_turns cs1 (n := f) (m := (ordE (lft g l) g (evr g) i)) (by omega) (by omega) ?_
            have htr := trn_b cs.1 f (ordE (lft g l) g (evr g) i)
            show Go (d + 5) true 180 139 [.ref 10, .int (nI j), .long (lN (sumL g l)), mk_, .long (lN rr), mk_, .long (lN o), mk_, .long (lN x), mk_, .int (nI c), .int (nI f), .int (nI b), .long (lN m), mk_, .int (nI (min (cntN (lft g l) (tot g)) 200)), .int (nI i), .int (nI (ordE (lft g l) g (evr g) i)), z18, mk_] [.int (nI (trn g f (ordE (lft g l) g (evr g) i))), .long (lN x)] h1 Q
            refine exf_go 3 (show Go (d + 5) true 180 146 [.ref 10, .int (nI j), .long (lN (sumL g l)), mk_, .long (lN rr), mk_, .long (lN o), mk_, .long (lN x), mk_, .int (nI c), .int (nI f), .int (nI b), .long (lN m), mk_, .int (nI (min (cntN (lft g l) (tot g)) 200)), .int (nI i), .int (nI (ordE (lft g l) g (evr g) i)), z18, mk_] [.int (rI h1 31 9), .int (nI (trn g f (ordE (lft g l) g (evr g) i))), .long (lN x)] h1 Q from ?_)
            rw [show (rI h1 31 9 : Int32) = nI (sP g) from cs_P cs1]
            refine exf_go 1 (show Go (d + 5) true 180 147 [.ref 10, .int (nI j), .long (lN (sumL g l)), mk_, .long (lN rr), mk_, .long (lN o), mk_, .long (lN x), mk_, .int (nI c), .int (nI f), .int (nI b), .long (lN m), mk_, .int (nI (min (cntN (lft g l) (tot g)) 200)), .int (nI i), .int (nI (ordE (lft g l) g (evr g) i)), z18, mk_] [.int ((nI (trn g f (ordE (lft g l) g (evr g) i))) + (nI (sP g))), .long (lN x)] h1 Q from ?_)
            rw [show ((nI (trn g f (ordE (lft g l) g (evr g) i))) + (nI (sP g)) : Int32) = nI ((trn g f (ordE (lft g l) g (evr g) i)) + (sP g)) from nI_add (trn g f (ordE (lft g l) g (evr g) i)) (sP g)]
            refine exf_go 1 (show Go (d + 5) true 180 148 [.ref 10, .int (nI j), .long (lN (sumL g l)), mk_, .long (lN rr), mk_, .long (lN o), mk_, .long (lN x), mk_, .int (nI c), .int (nI f), .int (nI b), .long (lN m), mk_, .int (nI (min (cntN (lft g l) (tot g)) 200)), .int (nI i), .int (nI (ordE (lft g l) g (evr g) i)), z18, mk_] [.long ((nI ((trn g f (ordE (lft g l) g (evr g) i)) + (sP g))).toInt64), .long (lN x)] h1 Q from ?_)
            rw [show ((nI ((trn g f (ordE (lft g l) g (evr g) i)) + (sP g))).toInt64 : Int64) = lN ((trn g f (ordE (lft g l) g (evr g) i)) + (sP g)) from nI_l (n := ((trn g f (ordE (lft g l) g (evr g) i)) + (sP g))) (by omega)]
            refine exf_go 1 (show Go (d + 5) true 180 149 [.ref 10, .int (nI j), .long (lN (sumL g l)), mk_, .long (lN rr), mk_, .long (lN o), mk_, .long (lN x), mk_, .int (nI c), .int (nI f), .int (nI b), .long (lN m), mk_, .int (nI (min (cntN (lft g l) (tot g)) 200)), .int (nI i), .int (nI (ordE (lft g l) g (evr g) i)), z18, mk_] [.long ((lN x) + (lN ((trn g f (ordE (lft g l) g (evr g) i)) + (sP g))))] h1 Q from ?_)
            rw [show ((lN x) + (lN ((trn g f (ordE (lft g l) g (evr g) i)) + (sP g))) : Int64) = lN (swX g l (i + 1)) from (lN_add _ _).trans (congrArg lN (by rw [swX, hB, ← hX, ← hA]; show _ = _ + trn g f (ordE (lft g l) g (evr g) i) + sP g; omega))]
            have hX2 : swX g l (i + 1) = swX g l (i + 1) := rfl; have hXb2 := swX_b cs.1 l (i + 1)
            refine exf_go 5 (show wpC (d + 5) true 164 [.ref 10, .int (nI (ordE (lft g l) g (evr g) i))] h1 (fun r h' => Go (d + 5) true 180 159 [.ref 10, .int (nI j), .long (lN (sumL g l)), mk_, .long (lN rr), mk_, .long (lN o), mk_, .long (lN (swX g l (i + 1))), mk_, .int (nI c), .int (nI f), .int (nI b), .long (lN m), mk_, .int (nI (min (cntN (lft g l) (tot g)) 200)), .int (nI i), .int (nI (ordE (lft g l) g (evr g) i)), z18, mk_] [r, .long (lN o)] h' Q) from ?_)
            refine c_leftWeight cs1 cl1 hoi.1 ?_
            have hlw : lwt g l (ordE (lft g l) g (evr g) i) = swW g l i := by rw [lwt, hoi.2]; rfl
            rw [hlw]
            show Go (d + 5) true 180 159 [.ref 10, .int (nI j), .long (lN (sumL g l)), mk_, .long (lN rr), mk_, .long (lN o), mk_, .long (lN (swX g l (i + 1))), mk_, .int (nI c), .int (nI f), .int (nI b), .long (lN m), mk_, .int (nI (min (cntN (lft g l) (tot g)) 200)), .int (nI i), .int (nI (ordE (lft g l) g (evr g) i)), z18, mk_] [.long (lN (swW g l i)), .long (lN o)] h1 Q
            refine exf_go 2 (show Go (d + 5) true 180 162 [.ref 10, .int (nI j), .long (lN (sumL g l)), mk_, .long (lN rr), mk_, .long (lN o), mk_, .long (lN (swX g l (i + 1))), mk_, .int (nI c), .int (nI f), .int (nI b), .long (lN m), mk_, .int (nI (min (cntN (lft g l) (tot g)) 200)), .int (nI i), .int (nI (ordE (lft g l) g (evr g) i)), z18, mk_] [.long ((lN (swW g l i)) * (lN (swX g l (i + 1)))), .long (lN o)] h1 Q from ?_)
            rw [show ((lN (swW g l i)) * (lN (swX g l (i + 1))) : Int64) = lN ((swW g l i) * (swX g l (i + 1))) from lN_mul (swW g l i) (swX g l (i + 1))]
            refine exf_go 1 (show Go (d + 5) true 180 163 [.ref 10, .int (nI j), .long (lN (sumL g l)), mk_, .long (lN rr), mk_, .long (lN o), mk_, .long (lN (swX g l (i + 1))), mk_, .int (nI c), .int (nI f), .int (nI b), .long (lN m), mk_, .int (nI (min (cntN (lft g l) (tot g)) 200)), .int (nI i), .int (nI (ordE (lft g l) g (evr g) i)), z18, mk_] [.long ((lN o) + (lN ((swW g l i) * (swX g l (i + 1)))))] h1 Q from ?_)
            rw [show ((lN o) + (lN ((swW g l i) * (swX g l (i + 1)))) : Int64) = lN (swO g l (i + 1)) from (lN_add _ _).trans (congrArg lN (by rw [hO]; rfl))]
            have hO2 : swO g l (i + 1) = swO g l (i + 1) := rfl; have hOb2 := swO_b cs.1 l (i + 1) (by omega)
            refine exf_go 5 (show wpC (d + 5) true 164 [.ref 10, .int (nI (ordE (lft g l) g (evr g) i))] h1 (fun r h' => Go (d + 5) true 180 173 [.ref 10, .int (nI j), .long (lN (sumL g l)), mk_, .long (lN rr), mk_, .long (lN (swO g l (i + 1))), mk_, .long (lN (swX g l (i + 1))), mk_, .int (nI c), .int (nI f), .int (nI b), .long (lN m), mk_, .int (nI (min (cntN (lft g l) (tot g)) 200)), .int (nI i), .int (nI (ordE (lft g l) g (evr g) i)), z18, mk_] [r, .long (lN rr)] h' Q) from ?_)
            refine c_leftWeight cs1 cl1 hoi.1 ?_
            have hlw : lwt g l (ordE (lft g l) g (evr g) i) = swW g l i := by rw [lwt, hoi.2]; rfl
            rw [hlw]
            show Go (d + 5) true 180 173 [.ref 10, .int (nI j), .long (lN (sumL g l)), mk_, .long (lN rr), mk_, .long (lN (swO g l (i + 1))), mk_, .long (lN (swX g l (i + 1))), mk_, .int (nI c), .int (nI f), .int (nI b), .long (lN m), mk_, .int (nI (min (cntN (lft g l) (tot g)) 200)), .int (nI i), .int (nI (ordE (lft g l) g (evr g) i)), z18, mk_] [.long (lN (swW g l i)), .long (lN rr)] h1 Q
            refine exf_go 1 (show Go (d + 5) true 180 174 [.ref 10, .int (nI j), .long (lN (sumL g l)), mk_, .long (lN rr), mk_, .long (lN (swO g l (i + 1))), mk_, .long (lN (swX g l (i + 1))), mk_, .int (nI c), .int (nI f), .int (nI b), .long (lN m), mk_, .int (nI (min (cntN (lft g l) (tot g)) 200)), .int (nI i), .int (nI (ordE (lft g l) g (evr g) i)), z18, mk_] [.long ((lN rr) - (lN (swW g l i)))] h1 Q from ?_)
            rw [show ((lN rr) - (lN (swW g l i)) : Int64) = lN (sumL g l - fstL g l (i + 1)) from (lN_sub (a := rr) (b := swW g l i) (by omega)).trans (congrArg lN (by omega))]
            have hR2 : sumL g l - fstL g l (i + 1) = sumL g l - fstL g l (i + 1) := rfl
            refine exf_go 7 (show Go (d + 5) true 180 189 [.ref 10, .int (nI j), .long (lN (sumL g l)), mk_, .long (lN (sumL g l - fstL g l (i + 1))), mk_, .long (lN (swO g l (i + 1))), mk_, .long (lN (swX g l (i + 1))), mk_, .int (nI c), .int (nI f), .int (nI b), .long (lN m), mk_, .int (nI (min (cntN (lft g l) (tot g)) 200)), .int (nI i), .int (nI (ordE (lft g l) g (evr g) i)), z18, mk_] [.int (rI h1 31 12), .long (lN (swX g l (i + 1))), .long (lN (sumL g l - fstL g l (i + 1))), .long (lN (swO g l (i + 1)))] h1 Q from ?_)
            rw [show (rI h1 31 12 : Int32) = nI (sSw g) from cs_Sw cs1]
            refine exf_go 1 (show Go (d + 5) true 180 190 [.ref 10, .int (nI j), .long (lN (sumL g l)), mk_, .long (lN (sumL g l - fstL g l (i + 1))), mk_, .long (lN (swO g l (i + 1))), mk_, .long (lN (swX g l (i + 1))), mk_, .int (nI c), .int (nI f), .int (nI b), .long (lN m), mk_, .int (nI (min (cntN (lft g l) (tot g)) 200)), .int (nI i), .int (nI (ordE (lft g l) g (evr g) i)), z18, mk_] [.long ((nI (sSw g)).toInt64), .long (lN (swX g l (i + 1))), .long (lN (sumL g l - fstL g l (i + 1))), .long (lN (swO g l (i + 1)))] h1 Q from ?_)
            rw [show ((nI (sSw g)).toInt64 : Int64) = lN (sSw g) from nI_l (n := (sSw g)) (by omega)]
            refine exf_go 1 (show Go (d + 5) true 180 191 [.ref 10, .int (nI j), .long (lN (sumL g l)), mk_, .long (lN (sumL g l - fstL g l (i + 1))), mk_, .long (lN (swO g l (i + 1))), mk_, .long (lN (swX g l (i + 1))), mk_, .int (nI c), .int (nI f), .int (nI b), .long (lN m), mk_, .int (nI (min (cntN (lft g l) (tot g)) 200)), .int (nI i), .int (nI (ordE (lft g l) g (evr g) i)), z18, mk_] [.long ((lN (swX g l (i + 1))) + (lN (sSw g))), .long (lN (sumL g l - fstL g l (i + 1))), .long (lN (swO g l (i + 1)))] h1 Q from ?_)
            rw [show ((lN (swX g l (i + 1))) + (lN (sSw g)) : Int64) = lN ((swX g l (i + 1)) + (sSw g)) from lN_add (swX g l (i + 1)) (sSw g)]
            refine exf_go 1 (show Go (d + 5) true 180 192 [.ref 10, .int (nI j), .long (lN (sumL g l)), mk_, .long (lN (sumL g l - fstL g l (i + 1))), mk_, .long (lN (swO g l (i + 1))), mk_, .long (lN (swX g l (i + 1))), mk_, .int (nI c), .int (nI f), .int (nI b), .long (lN m), mk_, .int (nI (min (cntN (lft g l) (tot g)) 200)), .int (nI i), .int (nI (ordE (lft g l) g (evr g) i)), z18, mk_] [.long ((lN (sumL g l - fstL g l (i + 1))) * (lN ((swX g l (i + 1)) + (sSw g)))), .long (lN (swO g l (i + 1)))] h1 Q from ?_)
            rw [show ((lN (sumL g l - fstL g l (i + 1))) * (lN ((swX g l (i + 1)) + (sSw g))) : Int64) = lN ((sumL g l - fstL g l (i + 1)) * ((swX g l (i + 1)) + (sSw g))) from lN_mul (sumL g l - fstL g l (i + 1)) ((swX g l (i + 1)) + (sSw g))]
            refine exf_go 1 (show Go (d + 5) true 180 193 [.ref 10, .int (nI j), .long (lN (sumL g l)), mk_, .long (lN (sumL g l - fstL g l (i + 1))), mk_, .long (lN (swO g l (i + 1))), mk_, .long (lN (swX g l (i + 1))), mk_, .int (nI c), .int (nI f), .int (nI b), .long (lN m), mk_, .int (nI (min (cntN (lft g l) (tot g)) 200)), .int (nI i), .int (nI (ordE (lft g l) g (evr g) i)), z18, mk_] [.long ((lN (swO g l (i + 1))) + (lN ((sumL g l - fstL g l (i + 1)) * ((swX g l (i + 1)) + (sSw g)))))] h1 Q from ?_)
            rw [show ((lN (swO g l (i + 1))) + (lN ((sumL g l - fstL g l (i + 1)) * ((swX g l (i + 1)) + (sSw g)))) : Int64) = lN (swI g l (i + 1)) from lN_add _ _]
            have hIb := swI_b cs.1 l (k := i + 1) (by omega)
            refine exf_go 5 (show (0 ≤ (lg_cmp (lN (swI g l (i + 1))) (lN m)) → Go (d + 5) true 180 213 [.ref 10, .int (nI j), .long (lN (sumL g l)), mk_, .long (lN (sumL g l - fstL g l (i + 1))), mk_, .long (lN (swO g l (i + 1))), mk_, .long (lN (swX g l (i + 1))), mk_, .int (nI c), .int (nI f), .int (nI b), .long (lN m), mk_, .int (nI (min (cntN (lft g l) (tot g)) 200)), .int (nI i), .int (nI (ordE (lft g l) g (evr g) i)), .long (lN (swI g l (i + 1))), mk_] [] h1 Q) ∧ (¬ (0 ≤ (lg_cmp (lN (swI g l (i + 1))) (lN m))) → Go (d + 5) true 180 203 [.ref 10, .int (nI j), .long (lN (sumL g l)), mk_, .long (lN (sumL g l - fstL g l (i + 1))), mk_, .long (lN (swO g l (i + 1))), mk_, .long (lN (swX g l (i + 1))), mk_, .int (nI c), .int (nI f), .int (nI b), .long (lN m), mk_, .int (nI (min (cntN (lft g l) (tot g)) 200)), .int (nI i), .int (nI (ordE (lft g l) g (evr g) i)), .long (lN (swI g l (i + 1))), mk_] [] h1 Q) from ⟨fun c6 => ?_, fun c6 => ?_⟩)
            · skip
              have c6 : (lN m) ≤ (lN (swI g l (i + 1))) := (lg_cmp_ge _ _).mp c6
              have c6 : m ≤ (swI g l (i + 1)) := (pk_lLE (a := m) (b := (swI g l (i + 1))) (by omega) (by omega)).mp c6
              refine exf_go 1 (show Go (d + 5) true 180 216 [.ref 10, .int (nI j), .long (lN (sumL g l)), mk_, .long (lN (sumL g l - fstL g l (i + 1))), mk_, .long (lN (swO g l (i + 1))), mk_, .long (lN (swX g l (i + 1))), mk_, .int ((nI c) + 1), .int (nI f), .int (nI b), .long (lN m), mk_, .int (nI (min (cntN (lft g l) (tot g)) 200)), .int (nI i), .int (nI (ordE (lft g l) g (evr g) i)), .long (lN (swI g l (i + 1))), mk_] [] h1 Q from ?_)
              rw [show ((nI c) + 1 : Int32) = nI (swC g l (i + 1)) from (nI_add c 1).trans (congrArg nI hC1)]
              have hC2 : swC g l (i + 1) = swC g l (i + 1) := rfl
              refine exf_go 3 (show Go (d + 5) true 180 223 [.ref 10, .int (nI j), .long (lN (sumL g l)), mk_, .long (lN (sumL g l - fstL g l (i + 1))), mk_, .long (lN (swO g l (i + 1))), mk_, .long (lN (swX g l (i + 1))), mk_, .int (nI (swC g l (i + 1))), .int (nI (ordE (lft g l) g (evr g) i)), .int (nI b), .long (lN m), mk_, .int (nI (min (cntN (lft g l) (tot g)) 200)), .int ((nI i) + 1), .int (nI (ordE (lft g l) g (evr g) i)), .long (lN (swI g l (i + 1))), mk_] [] h1 Q from ?_)
              rw [show ((nI i) + 1 : Int32) = nI (i + 1) from nI_add i 1]
              refine exf_go 1 (show Go (d + 5) true 180 70 [.ref 10, .int (nI j), .long (lN (sumL g l)), mk_, .long (lN (sumL g l - fstL g l (i + 1))), mk_, .long (lN (swO g l (i + 1))), mk_, .long (lN (swX g l (i + 1))), mk_, .int (nI (swC g l (i + 1))), .int (nI (ordE (lft g l) g (evr g) i)), .int (nI b), .long (lN m), mk_, .int (nI (min (cntN (lft g l) (tot g)) 200)), .int (nI (i + 1)), .int (nI (ordE (lft g l) g (evr g) i)), .long (lN (swI g l (i + 1))), mk_] [] h1 Q from ?_)
              exact ih70 (.int (nI (ordE (lft g l) g (evr g) i))) (.long (lN (swI g l (i + 1)))) (i + 1) (sumL g l - fstL g l (i + 1)) (swO g l (i + 1)) (swX g l (i + 1)) (swC g l (i + 1)) (ordE (lft g l) g (evr g) i) b m (by omega) (by omega) hR2 hO2 hX2 hC2 rfl (by first | exact sm_y hs (by omega) | exact sm_n hs (by omega))
            · skip
              have c6 : ¬ ((lN m) ≤ (lN (swI g l (i + 1)))) := fun q => c6 ((lg_cmp_ge _ _).mpr q)
              have c6 : ¬ (m ≤ (swI g l (i + 1))) := fun q => c6 ((pk_lLE (a := m) (b := (swI g l (i + 1))) (by omega) (by omega)).mpr q)
              refine exf_go 5 (show Go (d + 5) true 180 211 [.ref 10, .int (nI j), .long (lN (sumL g l)), mk_, .long (lN (sumL g l - fstL g l (i + 1))), mk_, .long (lN (swO g l (i + 1))), mk_, .long (lN (swX g l (i + 1))), mk_, .int (nI c), .int (nI f), .int (nI b), .long (lN (swI g l (i + 1))), mk_, .int (nI (min (cntN (lft g l) (tot g)) 200)), .int (nI i), .int (nI (ordE (lft g l) g (evr g) i)), .long (lN (swI g l (i + 1))), mk_] [.int ((nI i) + 1)] h1 Q from ?_)
              rw [show ((nI i) + 1 : Int32) = nI (i + 1) from nI_add i 1]
              refine exf_go 2 (show Go (d + 5) true 180 216 [.ref 10, .int (nI j), .long (lN (sumL g l)), mk_, .long (lN (sumL g l - fstL g l (i + 1))), mk_, .long (lN (swO g l (i + 1))), mk_, .long (lN (swX g l (i + 1))), mk_, .int ((nI c) + 1), .int (nI f), .int (nI (i + 1)), .long (lN (swI g l (i + 1))), mk_, .int (nI (min (cntN (lft g l) (tot g)) 200)), .int (nI i), .int (nI (ordE (lft g l) g (evr g) i)), .long (lN (swI g l (i + 1))), mk_] [] h1 Q from ?_)
              rw [show ((nI c) + 1 : Int32) = nI (swC g l (i + 1)) from (nI_add c 1).trans (congrArg nI hC1)]
              have hC2 : swC g l (i + 1) = swC g l (i + 1) := rfl
              refine exf_go 3 (show Go (d + 5) true 180 223 [.ref 10, .int (nI j), .long (lN (sumL g l)), mk_, .long (lN (sumL g l - fstL g l (i + 1))), mk_, .long (lN (swO g l (i + 1))), mk_, .long (lN (swX g l (i + 1))), mk_, .int (nI (swC g l (i + 1))), .int (nI (ordE (lft g l) g (evr g) i)), .int (nI (i + 1)), .long (lN (swI g l (i + 1))), mk_, .int (nI (min (cntN (lft g l) (tot g)) 200)), .int ((nI i) + 1), .int (nI (ordE (lft g l) g (evr g) i)), .long (lN (swI g l (i + 1))), mk_] [] h1 Q from ?_)
              rw [show ((nI i) + 1 : Int32) = nI (i + 1) from nI_add i 1]
              refine exf_go 1 (show Go (d + 5) true 180 70 [.ref 10, .int (nI j), .long (lN (sumL g l)), mk_, .long (lN (sumL g l - fstL g l (i + 1))), mk_, .long (lN (swO g l (i + 1))), mk_, .long (lN (swX g l (i + 1))), mk_, .int (nI (swC g l (i + 1))), .int (nI (ordE (lft g l) g (evr g) i)), .int (nI (i + 1)), .long (lN (swI g l (i + 1))), mk_, .int (nI (min (cntN (lft g l) (tot g)) 200)), .int (nI (i + 1)), .int (nI (ordE (lft g l) g (evr g) i)), .long (lN (swI g l (i + 1))), mk_] [] h1 Q from ?_)
              exact ih70 (.int (nI (ordE (lft g l) g (evr g) i))) (.long (lN (swI g l (i + 1)))) (i + 1) (sumL g l - fstL g l (i + 1)) (swO g l (i + 1)) (swX g l (i + 1)) (swC g l (i + 1)) (ordE (lft g l) g (evr g) i) (i + 1) (swI g l (i + 1)) (by omega) (by omega) hR2 hO2 hX2 hC2 rfl (by first | exact sm_y hs (by omega) | exact sm_n hs (by omega))
          · skip
            have c5 : ¬ c < (sBA g) := fun q => c5 ((nI_ltI (a := c) (b := (sBA g)) (by omega) (by omega)).mpr q)
            have hB : swB g l i = sBS g := by unfold swB; rw [if_pos ⟨by omega, by omega⟩]
            have hC1 : 0 + 1 = swC g l (i + 1) := by rw [swC, if_pos ⟨by omega, by omega⟩]
            refine exf_go 4 (show Go (d + 5) true 180 119 [.ref 10, .int (nI j), .long (lN (sumL g l)), mk_, .long (lN rr), mk_, .long (lN o), mk_, .long (lN x), mk_, .int (nI c), .int (nI f), .int (nI b), .long (lN m), mk_, .int (nI (min (cntN (lft g l) (tot g)) 200)), .int (nI i), .int (nI (ordE (lft g l) g (evr g) i)), z18, mk_] [.int (rI h1 31 11), .long (lN x)] h1 Q from ?_)
            rw [show (rI h1 31 11 : Int32) = nI (sBS g) from cs_BS cs1]
            refine exf_go 1 (show Go (d + 5) true 180 120 [.ref 10, .int (nI j), .long (lN (sumL g l)), mk_, .long (lN rr), mk_, .long (lN o), mk_, .long (lN x), mk_, .int (nI c), .int (nI f), .int (nI b), .long (lN m), mk_, .int (nI (min (cntN (lft g l) (tot g)) 200)), .int (nI i), .int (nI (ordE (lft g l) g (evr g) i)), z18, mk_] [.long ((nI (sBS g)).toInt64), .long (lN x)] h1 Q from ?_)
            rw [show ((nI (sBS g)).toInt64 : Int64) = lN (sBS g) from nI_l (n := (sBS g)) (by omega)]
            refine exf_go 1 (show Go (d + 5) true 180 121 [.ref 10, .int (nI j), .long (lN (sumL g l)), mk_, .long (lN rr), mk_, .long (lN o), mk_, .long (lN x), mk_, .int (nI c), .int (nI f), .int (nI b), .long (lN m), mk_, .int (nI (min (cntN (lft g l) (tot g)) 200)), .int (nI i), .int (nI (ordE (lft g l) g (evr g) i)), z18, mk_] [.long ((lN x) + (lN (sBS g)))] h1 Q from ?_)
            rw [show ((lN x) + (lN (sBS g)) : Int64) = lN (x + (sBS g)) from lN_add x (sBS g)]
            refine exf_go 9 (show wpC (d + 5) true 83 [.ref 31, .int (nI f), .int (nI (ordE (lft g l) g (evr g) i))] h1 (fun r h' => Go (d + 5) true 180 139 [.ref 10, .int (nI j), .long (lN (sumL g l)), mk_, .long (lN rr), mk_, .long (lN o), mk_, .long (lN (x + (sBS g))), mk_, .int 0, .int (nI f), .int (nI b), .long (lN m), mk_, .int (nI (min (cntN (lft g l) (tot g)) 200)), .int (nI i), .int (nI (ordE (lft g l) g (evr g) i)), z18, mk_] [r, .long (lN (x + (sBS g)))] h' Q) from ?_)
            refine c_turns cs1 (n := f) (m := (ordE (lft g l) g (evr g) i)) (by omega) (by omega) ?_
            have htr := trn_b cs.1 f (ordE (lft g l) g (evr g) i)
            show Go (d + 5) true 180 139 [.ref 10, .int (nI j), .long (lN (sumL g l)), mk_, .long (lN rr), mk_, .long (lN o), mk_, .long (lN (x + (sBS g))), mk_, .int 0, .int (nI f), .int (nI b), .long (lN m), mk_, .int (nI (min (cntN (lft g l) (tot g)) 200)), .int (nI i), .int (nI (ordE (lft g l) g (evr g) i)), z18, mk_] [.int (nI (trn g f (ordE (lft g l) g (evr g) i))), .long (lN (x + (sBS g)))] h1 Q
            refine exf_go 3 (show Go (d + 5) true 180 146 [.ref 10, .int (nI j), .long (lN (sumL g l)), mk_, .long (lN rr), mk_, .long (lN o), mk_, .long (lN (x + (sBS g))), mk_, .int 0, .int (nI f), .int (nI b), .long (lN m), mk_, .int (nI (min (cntN (lft g l) (tot g)) 200)), .int (nI i), .int (nI (ordE (lft g l) g (evr g) i)), z18, mk_] [.int (rI h1 31 9), .int (nI (trn g f (ordE (lft g l) g (evr g) i))), .long (lN (x + (sBS g)))] h1 Q from ?_)
            rw [show (rI h1 31 9 : Int32) = nI (sP g) from cs_P cs1]
            refine exf_go 1 (show Go (d + 5) true 180 147 [.ref 10, .int (nI j), .long (lN (sumL g l)), mk_, .long (lN rr), mk_, .long (lN o), mk_, .long (lN (x + (sBS g))), mk_, .int 0, .int (nI f), .int (nI b), .long (lN m), mk_, .int (nI (min (cntN (lft g l) (tot g)) 200)), .int (nI i), .int (nI (ordE (lft g l) g (evr g) i)), z18, mk_] [.int ((nI (trn g f (ordE (lft g l) g (evr g) i))) + (nI (sP g))), .long (lN (x + (sBS g)))] h1 Q from ?_)
            rw [show ((nI (trn g f (ordE (lft g l) g (evr g) i))) + (nI (sP g)) : Int32) = nI ((trn g f (ordE (lft g l) g (evr g) i)) + (sP g)) from nI_add (trn g f (ordE (lft g l) g (evr g) i)) (sP g)]
            refine exf_go 1 (show Go (d + 5) true 180 148 [.ref 10, .int (nI j), .long (lN (sumL g l)), mk_, .long (lN rr), mk_, .long (lN o), mk_, .long (lN (x + (sBS g))), mk_, .int 0, .int (nI f), .int (nI b), .long (lN m), mk_, .int (nI (min (cntN (lft g l) (tot g)) 200)), .int (nI i), .int (nI (ordE (lft g l) g (evr g) i)), z18, mk_] [.long ((nI ((trn g f (ordE (lft g l) g (evr g) i)) + (sP g))).toInt64), .long (lN (x + (sBS g)))] h1 Q from ?_)
            rw [show ((nI ((trn g f (ordE (lft g l) g (evr g) i)) + (sP g))).toInt64 : Int64) = lN ((trn g f (ordE (lft g l) g (evr g) i)) + (sP g)) from nI_l (n := ((trn g f (ordE (lft g l) g (evr g) i)) + (sP g))) (by omega)]
            refine exf_go 1 (show Go (d + 5) true 180 149 [.ref 10, .int (nI j), .long (lN (sumL g l)), mk_, .long (lN rr), mk_, .long (lN o), mk_, .long (lN (x + (sBS g))), mk_, .int 0, .int (nI f), .int (nI b), .long (lN m), mk_, .int (nI (min (cntN (lft g l) (tot g)) 200)), .int (nI i), .int (nI (ordE (lft g l) g (evr g) i)), z18, mk_] [.long ((lN (x + (sBS g))) + (lN ((trn g f (ordE (lft g l) g (evr g) i)) + (sP g))))] h1 Q from ?_)
            rw [show ((lN (x + (sBS g))) + (lN ((trn g f (ordE (lft g l) g (evr g) i)) + (sP g))) : Int64) = lN (swX g l (i + 1)) from (lN_add _ _).trans (congrArg lN (by rw [swX, hB, ← hX, ← hA]; show _ = _ + trn g f (ordE (lft g l) g (evr g) i) + sP g; omega))]
            have hX2 : swX g l (i + 1) = swX g l (i + 1) := rfl; have hXb2 := swX_b cs.1 l (i + 1)
            refine exf_go 5 (show wpC (d + 5) true 164 [.ref 10, .int (nI (ordE (lft g l) g (evr g) i))] h1 (fun r h' => Go (d + 5) true 180 159 [.ref 10, .int (nI j), .long (lN (sumL g l)), mk_, .long (lN rr), mk_, .long (lN o), mk_, .long (lN (swX g l (i + 1))), mk_, .int 0, .int (nI f), .int (nI b), .long (lN m), mk_, .int (nI (min (cntN (lft g l) (tot g)) 200)), .int (nI i), .int (nI (ordE (lft g l) g (evr g) i)), z18, mk_] [r, .long (lN o)] h' Q) from ?_)
            refine c_leftWeight cs1 cl1 hoi.1 ?_
            have hlw : lwt g l (ordE (lft g l) g (evr g) i) = swW g l i := by rw [lwt, hoi.2]; rfl
            rw [hlw]
            show Go (d + 5) true 180 159 [.ref 10, .int (nI j), .long (lN (sumL g l)), mk_, .long (lN rr), mk_, .long (lN o), mk_, .long (lN (swX g l (i + 1))), mk_, .int 0, .int (nI f), .int (nI b), .long (lN m), mk_, .int (nI (min (cntN (lft g l) (tot g)) 200)), .int (nI i), .int (nI (ordE (lft g l) g (evr g) i)), z18, mk_] [.long (lN (swW g l i)), .long (lN o)] h1 Q
            refine exf_go 2 (show Go (d + 5) true 180 162 [.ref 10, .int (nI j), .long (lN (sumL g l)), mk_, .long (lN rr), mk_, .long (lN o), mk_, .long (lN (swX g l (i + 1))), mk_, .int 0, .int (nI f), .int (nI b), .long (lN m), mk_, .int (nI (min (cntN (lft g l) (tot g)) 200)), .int (nI i), .int (nI (ordE (lft g l) g (evr g) i)), z18, mk_] [.long ((lN (swW g l i)) * (lN (swX g l (i + 1)))), .long (lN o)] h1 Q from ?_)
            rw [show ((lN (swW g l i)) * (lN (swX g l (i + 1))) : Int64) = lN ((swW g l i) * (swX g l (i + 1))) from lN_mul (swW g l i) (swX g l (i + 1))]
            refine exf_go 1 (show Go (d + 5) true 180 163 [.ref 10, .int (nI j), .long (lN (sumL g l)), mk_, .long (lN rr), mk_, .long (lN o), mk_, .long (lN (swX g l (i + 1))), mk_, .int 0, .int (nI f), .int (nI b), .long (lN m), mk_, .int (nI (min (cntN (lft g l) (tot g)) 200)), .int (nI i), .int (nI (ordE (lft g l) g (evr g) i)), z18, mk_] [.long ((lN o) + (lN ((swW g l i) * (swX g l (i + 1)))))] h1 Q from ?_)
            rw [show ((lN o) + (lN ((swW g l i) * (swX g l (i + 1)))) : Int64) = lN (swO g l (i + 1)) from (lN_add _ _).trans (congrArg lN (by rw [hO]; rfl))]
            have hO2 : swO g l (i + 1) = swO g l (i + 1) := rfl; have hOb2 := swO_b cs.1 l (i + 1) (by omega)
            refine exf_go 5 (show wpC (d + 5) true 164 [.ref 10, .int (nI (ordE (lft g l) g (evr g) i))] h1 (fun r h' => Go (d + 5) true 180 173 [.ref 10, .int (nI j), .long (lN (sumL g l)), mk_, .long (lN rr), mk_, .long (lN (swO g l (i + 1))), mk_, .long (lN (swX g l (i + 1))), mk_, .int 0, .int (nI f), .int (nI b), .long (lN m), mk_, .int (nI (min (cntN (lft g l) (tot g)) 200)), .int (nI i), .int (nI (ordE (lft g l) g (evr g) i)), z18, mk_] [r, .long (lN rr)] h' Q) from ?_)
            refine c_leftWeight cs1 cl1 hoi.1 ?_
            have hlw : lwt g l (ordE (lft g l) g (evr g) i) = swW g l i := by rw [lwt, hoi.2]; rfl
            rw [hlw]
            show Go (d + 5) true 180 173 [.ref 10, .int (nI j), .long (lN (sumL g l)), mk_, .long (lN rr), mk_, .long (lN (swO g l (i + 1))), mk_, .long (lN (swX g l (i + 1))), mk_, .int 0, .int (nI f), .int (nI b), .long (lN m), mk_, .int (nI (min (cntN (lft g l) (tot g)) 200)), .int (nI i), .int (nI (ordE (lft g l) g (evr g) i)), z18, mk_] [.long (lN (swW g l i)), .long (lN rr)] h1 Q
            refine exf_go 1 (show Go (d + 5) true 180 174 [.ref 10, .int (nI j), .long (lN (sumL g l)), mk_, .long (lN rr), mk_, .long (lN (swO g l (i + 1))), mk_, .long (lN (swX g l (i + 1))), mk_, .int 0, .int (nI f), .int (nI b), .long (lN m), mk_, .int (nI (min (cntN (lft g l) (tot g)) 200)), .int (nI i), .int (nI (ordE (lft g l) g (evr g) i)), z18, mk_] [.long ((lN rr) - (lN (swW g l i)))] h1 Q from ?_)
            rw [show ((lN rr) - (lN (swW g l i)) : Int64) = lN (sumL g l - fstL g l (i + 1)) from (lN_sub (a := rr) (b := swW g l i) (by omega)).trans (congrArg lN (by omega))]
            have hR2 : sumL g l - fstL g l (i + 1) = sumL g l - fstL g l (i + 1) := rfl
            refine exf_go 7 (show Go (d + 5) true 180 189 [.ref 10, .int (nI j), .long (lN (sumL g l)), mk_, .long (lN (sumL g l - fstL g l (i + 1))), mk_, .long (lN (swO g l (i + 1))), mk_, .long (lN (swX g l (i + 1))), mk_, .int 0, .int (nI f), .int (nI b), .long (lN m), mk_, .int (nI (min (cntN (lft g l) (tot g)) 200)), .int (nI i), .int (nI (ordE (lft g l) g (evr g) i)), z18, mk_] [.int (rI h1 31 12), .long (lN (swX g l (i + 1))), .long (lN (sumL g l - fstL g l (i + 1))), .long (lN (swO g l (i + 1)))] h1 Q from ?_)
            rw [show (rI h1 31 12 : Int32) = nI (sSw g) from cs_Sw cs1]
            refine exf_go 1 (show Go (d + 5) true 180 190 [.ref 10, .int (nI j), .long (lN (sumL g l)), mk_, .long (lN (sumL g l - fstL g l (i + 1))), mk_, .long (lN (swO g l (i + 1))), mk_, .long (lN (swX g l (i + 1))), mk_, .int 0, .int (nI f), .int (nI b), .long (lN m), mk_, .int (nI (min (cntN (lft g l) (tot g)) 200)), .int (nI i), .int (nI (ordE (lft g l) g (evr g) i)), z18, mk_] [.long ((nI (sSw g)).toInt64), .long (lN (swX g l (i + 1))), .long (lN (sumL g l - fstL g l (i + 1))), .long (lN (swO g l (i + 1)))] h1 Q from ?_)
            rw [show ((nI (sSw g)).toInt64 : Int64) = lN (sSw g) from nI_l (n := (sSw g)) (by omega)]
            refine exf_go 1 (show Go (d + 5) true 180 191 [.ref 10, .int (nI j), .long (lN (sumL g l)), mk_, .long (lN (sumL g l - fstL g l (i + 1))), mk_, .long (lN (swO g l (i + 1))), mk_, .long (lN (swX g l (i + 1))), mk_, .int 0, .int (nI f), .int (nI b), .long (lN m), mk_, .int (nI (min (cntN (lft g l) (tot g)) 200)), .int (nI i), .int (nI (ordE (lft g l) g (evr g) i)), z18, mk_] [.long ((lN (swX g l (i + 1))) + (lN (sSw g))), .long (lN (sumL g l - fstL g l (i + 1))), .long (lN (swO g l (i + 1)))] h1 Q from ?_)
            rw [show ((lN (swX g l (i + 1))) + (lN (sSw g)) : Int64) = lN ((swX g l (i + 1)) + (sSw g)) from lN_add (swX g l (i + 1)) (sSw g)]
            refine exf_go 1 (show Go (d + 5) true 180 192 [.ref 10, .int (nI j), .long (lN (sumL g l)), mk_, .long (lN (sumL g l - fstL g l (i + 1))), mk_, .long (lN (swO g l (i + 1))), mk_, .long (lN (swX g l (i + 1))), mk_, .int 0, .int (nI f), .int (nI b), .long (lN m), mk_, .int (nI (min (cntN (lft g l) (tot g)) 200)), .int (nI i), .int (nI (ordE (lft g l) g (evr g) i)), z18, mk_] [.long ((lN (sumL g l - fstL g l (i + 1))) * (lN ((swX g l (i + 1)) + (sSw g)))), .long (lN (swO g l (i + 1)))] h1 Q from ?_)
            rw [show ((lN (sumL g l - fstL g l (i + 1))) * (lN ((swX g l (i + 1)) + (sSw g))) : Int64) = lN ((sumL g l - fstL g l (i + 1)) * ((swX g l (i + 1)) + (sSw g))) from lN_mul (sumL g l - fstL g l (i + 1)) ((swX g l (i + 1)) + (sSw g))]
            refine exf_go 1 (show Go (d + 5) true 180 193 [.ref 10, .int (nI j), .long (lN (sumL g l)), mk_, .long (lN (sumL g l - fstL g l (i + 1))), mk_, .long (lN (swO g l (i + 1))), mk_, .long (lN (swX g l (i + 1))), mk_, .int 0, .int (nI f), .int (nI b), .long (lN m), mk_, .int (nI (min (cntN (lft g l) (tot g)) 200)), .int (nI i), .int (nI (ordE (lft g l) g (evr g) i)), z18, mk_] [.long ((lN (swO g l (i + 1))) + (lN ((sumL g l - fstL g l (i + 1)) * ((swX g l (i + 1)) + (sSw g)))))] h1 Q from ?_)
            rw [show ((lN (swO g l (i + 1))) + (lN ((sumL g l - fstL g l (i + 1)) * ((swX g l (i + 1)) + (sSw g)))) : Int64) = lN (swI g l (i + 1)) from lN_add _ _]
            have hIb := swI_b cs.1 l (k := i + 1) (by omega)
            refine exf_go 5 (show (0 ≤ (lg_cmp (lN (swI g l (i + 1))) (lN m)) → Go (d + 5) true 180 213 [.ref 10, .int (nI j), .long (lN (sumL g l)), mk_, .long (lN (sumL g l - fstL g l (i + 1))), mk_, .long (lN (swO g l (i + 1))), mk_, .long (lN (swX g l (i + 1))), mk_, .int 0, .int (nI f), .int (nI b), .long (lN m), mk_, .int (nI (min (cntN (lft g l) (tot g)) 200)), .int (nI i), .int (nI (ordE (lft g l) g (evr g) i)), .long (lN (swI g l (i + 1))), mk_] [] h1 Q) ∧ (¬ (0 ≤ (lg_cmp (lN (swI g l (i + 1))) (lN m))) → Go (d + 5) true 180 203 [.ref 10, .int (nI j), .long (lN (sumL g l)), mk_, .long (lN (sumL g l - fstL g l (i + 1))), mk_, .long (lN (swO g l (i + 1))), mk_, .long (lN (swX g l (i + 1))), mk_, .int 0, .int (nI f), .int (nI b), .long (lN m), mk_, .int (nI (min (cntN (lft g l) (tot g)) 200)), .int (nI i), .int (nI (ordE (lft g l) g (evr g) i)), .long (lN (swI g l (i + 1))), mk_] [] h1 Q) from ⟨fun c7 => ?_, fun c7 => ?_⟩)
            · skip
              have c7 : (lN m) ≤ (lN (swI g l (i + 1))) := (lg_cmp_ge _ _).mp c7
              have c7 : m ≤ (swI g l (i + 1)) := (pk_lLE (a := m) (b := (swI g l (i + 1))) (by omega) (by omega)).mp c7
              refine exf_go 1 (show Go (d + 5) true 180 216 [.ref 10, .int (nI j), .long (lN (sumL g l)), mk_, .long (lN (sumL g l - fstL g l (i + 1))), mk_, .long (lN (swO g l (i + 1))), mk_, .long (lN (swX g l (i + 1))), mk_, .int (0 + 1), .int (nI f), .int (nI b), .long (lN m), mk_, .int (nI (min (cntN (lft g l) (tot g)) 200)), .int (nI i), .int (nI (ordE (lft g l) g (evr g) i)), .long (lN (swI g l (i + 1))), mk_] [] h1 Q from ?_)
              rw [show (0 + 1 : Int32) = nI (swC g l (i + 1)) from (nI_add 0 1).trans (congrArg nI hC1)]
              have hC2 : swC g l (i + 1) = swC g l (i + 1) := rfl
              refine exf_go 3 (show Go (d + 5) true 180 223 [.ref 10, .int (nI j), .long (lN (sumL g l)), mk_, .long (lN (sumL g l - fstL g l (i + 1))), mk_, .long (lN (swO g l (i + 1))), mk_, .long (lN (swX g l (i + 1))), mk_, .int (nI (swC g l (i + 1))), .int (nI (ordE (lft g l) g (evr g) i)), .int (nI b), .long (lN m), mk_, .int (nI (min (cntN (lft g l) (tot g)) 200)), .int ((nI i) + 1), .int (nI (ordE (lft g l) g (evr g) i)), .long (lN (swI g l (i + 1))), mk_] [] h1 Q from ?_)
              rw [show ((nI i) + 1 : Int32) = nI (i + 1) from nI_add i 1]
              refine exf_go 1 (show Go (d + 5) true 180 70 [.ref 10, .int (nI j), .long (lN (sumL g l)), mk_, .long (lN (sumL g l - fstL g l (i + 1))), mk_, .long (lN (swO g l (i + 1))), mk_, .long (lN (swX g l (i + 1))), mk_, .int (nI (swC g l (i + 1))), .int (nI (ordE (lft g l) g (evr g) i)), .int (nI b), .long (lN m), mk_, .int (nI (min (cntN (lft g l) (tot g)) 200)), .int (nI (i + 1)), .int (nI (ordE (lft g l) g (evr g) i)), .long (lN (swI g l (i + 1))), mk_] [] h1 Q from ?_)
              exact ih70 (.int (nI (ordE (lft g l) g (evr g) i))) (.long (lN (swI g l (i + 1)))) (i + 1) (sumL g l - fstL g l (i + 1)) (swO g l (i + 1)) (swX g l (i + 1)) (swC g l (i + 1)) (ordE (lft g l) g (evr g) i) b m (by omega) (by omega) hR2 hO2 hX2 hC2 rfl (by first | exact sm_y hs (by omega) | exact sm_n hs (by omega))
            · skip
              have c7 : ¬ ((lN m) ≤ (lN (swI g l (i + 1)))) := fun q => c7 ((lg_cmp_ge _ _).mpr q)
              have c7 : ¬ (m ≤ (swI g l (i + 1))) := fun q => c7 ((pk_lLE (a := m) (b := (swI g l (i + 1))) (by omega) (by omega)).mpr q)
              refine exf_go 5 (show Go (d + 5) true 180 211 [.ref 10, .int (nI j), .long (lN (sumL g l)), mk_, .long (lN (sumL g l - fstL g l (i + 1))), mk_, .long (lN (swO g l (i + 1))), mk_, .long (lN (swX g l (i + 1))), mk_, .int 0, .int (nI f), .int (nI b), .long (lN (swI g l (i + 1))), mk_, .int (nI (min (cntN (lft g l) (tot g)) 200)), .int (nI i), .int (nI (ordE (lft g l) g (evr g) i)), .long (lN (swI g l (i + 1))), mk_] [.int ((nI i) + 1)] h1 Q from ?_)
              rw [show ((nI i) + 1 : Int32) = nI (i + 1) from nI_add i 1]
              refine exf_go 2 (show Go (d + 5) true 180 216 [.ref 10, .int (nI j), .long (lN (sumL g l)), mk_, .long (lN (sumL g l - fstL g l (i + 1))), mk_, .long (lN (swO g l (i + 1))), mk_, .long (lN (swX g l (i + 1))), mk_, .int (0 + 1), .int (nI f), .int (nI (i + 1)), .long (lN (swI g l (i + 1))), mk_, .int (nI (min (cntN (lft g l) (tot g)) 200)), .int (nI i), .int (nI (ordE (lft g l) g (evr g) i)), .long (lN (swI g l (i + 1))), mk_] [] h1 Q from ?_)
              rw [show (0 + 1 : Int32) = nI (swC g l (i + 1)) from (nI_add 0 1).trans (congrArg nI hC1)]
              have hC2 : swC g l (i + 1) = swC g l (i + 1) := rfl
              refine exf_go 3 (show Go (d + 5) true 180 223 [.ref 10, .int (nI j), .long (lN (sumL g l)), mk_, .long (lN (sumL g l - fstL g l (i + 1))), mk_, .long (lN (swO g l (i + 1))), mk_, .long (lN (swX g l (i + 1))), mk_, .int (nI (swC g l (i + 1))), .int (nI (ordE (lft g l) g (evr g) i)), .int (nI (i + 1)), .long (lN (swI g l (i + 1))), mk_, .int (nI (min (cntN (lft g l) (tot g)) 200)), .int ((nI i) + 1), .int (nI (ordE (lft g l) g (evr g) i)), .long (lN (swI g l (i + 1))), mk_] [] h1 Q from ?_)
              rw [show ((nI i) + 1 : Int32) = nI (i + 1) from nI_add i 1]
              refine exf_go 1 (show Go (d + 5) true 180 70 [.ref 10, .int (nI j), .long (lN (sumL g l)), mk_, .long (lN (sumL g l - fstL g l (i + 1))), mk_, .long (lN (swO g l (i + 1))), mk_, .long (lN (swX g l (i + 1))), mk_, .int (nI (swC g l (i + 1))), .int (nI (ordE (lft g l) g (evr g) i)), .int (nI (i + 1)), .long (lN (swI g l (i + 1))), mk_, .int (nI (min (cntN (lft g l) (tot g)) 200)), .int (nI (i + 1)), .int (nI (ordE (lft g l) g (evr g) i)), .long (lN (swI g l (i + 1))), mk_] [] h1 Q from ?_)
              exact ih70 (.int (nI (ordE (lft g l) g (evr g) i))) (.long (lN (swI g l (i + 1)))) (i + 1) (sumL g l - fstL g l (i + 1)) (swO g l (i + 1)) (swX g l (i + 1)) (swC g l (i + 1)) (ordE (lft g l) g (evr g) i) (i + 1) (swI g l (i + 1)) (by omega) (by omega) hR2 hO2 hX2 hC2 rfl (by first | exact sm_y hs (by omega) | exact sm_n hs (by omega))
  exact L70 (200 + 1) mk_ mk_ 0 (sumL g l) 0 0 (lW l) (lA l) 0 (sumL g l * sSw g) (by omega) (by omega) rfl rfl rfl rfl rfl rfl
