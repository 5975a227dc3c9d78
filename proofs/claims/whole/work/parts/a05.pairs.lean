/-! Rows of two numbers, in the class. -/
theorem wyF_b {g : ShG} (hg : ShW g) (sa x y : Nat) : wyF g sa (upp g) 0 x y ≤ 10000 := by
  have hu := upp_b hg
  have h1 := sumN_le (f := fun a => if t2 g 0 sa a = x then cntN (fun b => decide (t2 g 0 a b = y)) (upp g) else 0) (c := 100) (upp g) (fun k _ => by
    show (if t2 g 0 sa k = x then cntN (fun b => decide (t2 g 0 k b = y)) (upp g) else 0) ≤ 100
    split
    · exact Nat.le_trans (cntN_le _ _) hu.2
    · omega)
  have h2 : upp g * 100 ≤ 100 * 100 := Nat.mul_le_mul_right _ hu.2
  unfold wyF
  split
  · show _ + 0 ≤ _; omega
  · omega
def wQ (g : ShG) (sa s1 s2 a b : Nat) : Nat := wyQ (wyF g (pr2 g sa 0) (upp g) 0) s1 (t2 g 2 (pr2 g sa 2) a) s2 (t2 g 2 a b)
theorem wQ_b {g : ShG} (hg : ShW g) (sa s1 s2 a b : Nat) : wQ g sa s1 s2 a b ≤ 10000 := by
  unfold wQ wyQ
  split
  · exact wyF_b hg _ _ _
  · omega
def fPair (g : ShG) (sa s1 s2 : Nat) : Nat := sumN (fun a => sumN (wQ g sa s1 s2 a) (lwr g)) (lwr g)
theorem c_pairs {d : Nat} {h : Hp} {g : ShG} {sa s1 s2 : Nat} {Q : Po} (wf : WF h) (cs : CS 31 g h) (hsa : sa < tot g) (hs1 : s1 < 1000) (hs2 : s2 < 1000) (k : ∀ h1, Gq scC h h1 → Q (.long (lN (fPair g sa s1 s2))) h1) : wpC (d + 5) true 43 [.ref 85, .ref 31, .int (nI sa), .int (nI s1), .int (nI s2)] h Q := by
  have hN := tot_b cs.1
  have hu0 := upp_b cs.1; have hl0 := lwr_b cs.1
  have hw86 := wf.2.1 86
  refine go_in rfl ?_
  have X20 : ∀ (h1 : Hp), (Gq scC h h1) → (26569 ≤ rL h1 86) → Go (d + 4) true 43 20 [.ref 85, .ref 31, .int (nI sa), .int (nI s1), .int (nI s2), mk_, mk_, mk_, mk_, mk_, mk_, mk_] [] h1 Q := by
    intro h1 g1 hal
    have cs1 := cs_gq cs g1; have wf1 := g1.2.2.2.1 wf; have hl5 := wf1.2.1 86
    refine exf_go 4 (show wpC (d + 4) true 318 [.ref 86, .int 0] h1 (fun _ h' => Go (d + 4) true 43 28 [.ref 85, .ref 31, .int (nI sa), .int (nI s1), .int (nI s2), mk_, mk_, mk_, mk_, mk_, mk_, mk_] [] h' Q) from ?_)
    refine c_fill86 (by show rL h1 86 < _; omega) (fun h2 q2 hz => ?_)
    have cs2 := cs_fq cs1 (q2.mono (sAt_C (fun _ => rfl)))
    show Go (d + 4) true 43 28 [.ref 85, .ref 31, .int (nI sa), .int (nI s1), .int (nI s2), mk_, mk_, mk_, mk_, mk_, mk_, mk_] [] h2 Q
    refine exf_go 4 (show vp_in 0 4 ∧ (Go (d + 4) true 43 34 [.ref 85, .ref 31, .int (nI sa), .int (nI s1), .int (nI s2), mk_, mk_, mk_, mk_, mk_, mk_, mk_] [.int (rI h2 32 0)] h2 Q) from ⟨(vp_in_nI (n := 0) (by decide) (by decide)), ?_⟩)
    rw [show (rI h2 32 0 : Int32) = nI (sF g 0) from cs_sFl cs2 0 (by omega)]
    refine exf_go 4 (show vp_in 1 4 ∧ (Go (d + 4) true 43 40 [.ref 85, .ref 31, .int (nI sa), .int (nI s1), .int (nI s2), mk_, mk_, mk_, mk_, mk_, mk_, mk_] [.int (rI h2 32 1), .int (nI (sF g 0))] h2 Q) from ⟨(vp_in_nI (n := 1) (by decide) (by decide)), ?_⟩)
    rw [show (rI h2 32 1 : Int32) = nI (sF g 1) from cs_sFl cs2 1 (by omega)]
    refine exf_go 1 (show Go (d + 4) true 43 41 [.ref 85, .ref 31, .int (nI sa), .int (nI s1), .int (nI s2), mk_, mk_, mk_, mk_, mk_, mk_, mk_] [.int ((nI (sF g 0)) * (nI (sF g 1)))] h2 Q from ?_)
    rw [show ((nI (sF g 0)) * (nI (sF g 1)) : Int32) = nI (upp g) from pk_mul _ _]
    refine exf_go 3 (show Go (d + 4) true 43 46 [.ref 85, .ref 31, .int (nI sa), .int (nI s1), .int (nI s2), .int (nI (upp g)), .int 0, mk_, mk_, mk_, mk_, mk_] [] h2 Q from ?_)
    have L46 : ∀ (k46 : Nat) (z7 z8 : Value) (a : Nat) (h3 : Hp), (upp g - a) < k46 → (a ≤ upp g) → (Fq (sAt 86) h1 h3) → (∀ x y, x < 163 → y < 163 → rI h3 86 (x * 163 + y) = nI (wyF g (pr2 g sa 0) a 0 x y)) → Go (d + 4) true 43 46 [.ref 85, .ref 31, .int (nI sa), .int (nI s1), .int (nI s2), .int (nI (upp g)), .int (nI a), z7, z8, mk_, mk_, mk_] [] h3 Q := by
      intro k46
      induction k46 with
      | zero => intro z7 z8 a h3 hk; exact absurd hk (Nat.not_lt_zero _)
      | succ k46 ih46 =>
        intro z7 z8 a h3 hk ha q3 hg
        have cs3 := cs_fq cs1 (q3.mono (sAt_C (fun _ => rfl)))
        refine exf_go 3 (show ((nI (upp g)) ≤ (nI a) → Go (d + 4) true 43 115 [.ref 85, .ref 31, .int (nI sa), .int (nI s1), .int (nI s2), .int (nI (upp g)), .int (nI a), z7, z8, mk_, mk_, mk_] [] h3 Q) ∧ (¬ ((nI (upp g)) ≤ (nI a)) → Go (d + 4) true 43 53 [.ref 85, .ref 31, .int (nI sa), .int (nI s1), .int (nI s2), .int (nI (upp g)), .int (nI a), z7, z8, mk_, mk_, mk_] [] h3 Q) from ⟨fun c1 => ?_, fun c1 => ?_⟩)
        · skip
          have c1 : (upp g) ≤ a := (nI_leI (a := (upp g)) (b := a) (by omega) (by omega)).mp c1
          refine exf_go 6 (show vp_in 2 4 ∧ (Go (d + 4) true 43 124 [.ref 85, .ref 31, .int (nI sa), .int (nI s1), .int (nI s2), .int (nI (upp g)), .long 0, mk_, z8, mk_, mk_, mk_] [.int (rI h3 32 2)] h3 Q) from ⟨(vp_in_nI (n := 2) (by decide) (by decide)), ?_⟩)
          rw [show (rI h3 32 2 : Int32) = nI (sF g 2) from cs_sFl cs3 2 (by omega)]
          refine exf_go 4 (show vp_in 3 4 ∧ (Go (d + 4) true 43 130 [.ref 85, .ref 31, .int (nI sa), .int (nI s1), .int (nI s2), .int (nI (upp g)), .long 0, mk_, z8, mk_, mk_, mk_] [.int (rI h3 32 3), .int (nI (sF g 2))] h3 Q) from ⟨(vp_in_nI (n := 3) (by decide) (by decide)), ?_⟩)
          rw [show (rI h3 32 3 : Int32) = nI (sF g 3) from cs_sFl cs3 3 (by omega)]
          refine exf_go 1 (show Go (d + 4) true 43 131 [.ref 85, .ref 31, .int (nI sa), .int (nI s1), .int (nI s2), .int (nI (upp g)), .long 0, mk_, z8, mk_, mk_, mk_] [.int ((nI (sF g 2)) * (nI (sF g 3)))] h3 Q from ?_)
          rw [show ((nI (sF g 2)) * (nI (sF g 3)) : Int32) = nI (lwr g) from pk_mul _ _]
          refine exf_go 3 (show Go (d + 4) true 43 136 [.ref 85, .ref 31, .int (nI sa), .int (nI s1), .int (nI s2), .int (nI (upp g)), .long 0, mk_, .int (nI (lwr g)), .int 0, mk_, mk_] [] h3 Q from ?_)
          have L136 : ∀ (k136 : Nat) (z10 z11 : Value) (a2 f : Nat), (lwr g - a2) < k136 → (a2 ≤ lwr g) → (f = sumN (fun a => sumN (wQ g sa s1 s2 a) (lwr g)) a2) → Go (d + 4) true 43 136 [.ref 85, .ref 31, .int (nI sa), .int (nI s1), .int (nI s2), .int (nI (upp g)), .long (lN f), mk_, .int (nI (lwr g)), .int (nI a2), z10, z11] [] h3 Q := by
            intro k136
            induction k136 with
            | zero => intro z10 z11 a2 f hk; exact absurd hk (Nat.not_lt_zero _)
            | succ k136 ih136 =>
              intro z10 z11 a2 f hk ha2 hf
              refine exf_go 3 (show ((nI (lwr g)) ≤ (nI a2) → Go (d + 4) true 43 206 [.ref 85, .ref 31, .int (nI sa), .int (nI s1), .int (nI s2), .int (nI (upp g)), .long (lN f), mk_, .int (nI (lwr g)), .int (nI a2), z10, z11] [] h3 Q) ∧ (¬ ((nI (lwr g)) ≤ (nI a2)) → Go (d + 4) true 43 143 [.ref 85, .ref 31, .int (nI sa), .int (nI s1), .int (nI s2), .int (nI (upp g)), .long (lN f), mk_, .int (nI (lwr g)), .int (nI a2), z10, z11] [] h3 Q) from ⟨fun c2 => ?_, fun c2 => ?_⟩)
              · skip
                have c2 : (lwr g) ≤ a2 := (nI_leI (a := (lwr g)) (b := a2) (by omega) (by omega)).mp c2
                refine exf_go 2 (show Q (.long (lN f)) h3 from ?_)
                rw [show a2 = lwr g from by omega] at hf; rw [fPair, ← hf] at k; exact k _ (g1.tr ((q3.mono (sAt_C (fun _ => rfl))).gq))
              · skip
                have c2 : ¬ (lwr g) ≤ a2 := fun q => c2 ((nI_leI (a := (lwr g)) (b := a2) (by omega) (by omega)).mpr q)
                refine exf_go 7 (show wpC (d + 4) true 45 [.ref 31, .int 2, .int (nI sa)] h3 (fun r h' => Go (d + 4) true 43 152 [.ref 85, .ref 31, .int (nI sa), .int (nI s1), .int (nI s2), .int (nI (upp g)), .long (lN f), mk_, .int (nI (lwr g)), .int (nI a2), z10, z11] [r, .int 2, .ref 31, .int (nI s1)] h' Q) from ?_)
                refine c_pairOf2 cs3 (n := sa) (by omega) ?_
                show Go (d + 4) true 43 152 [.ref 85, .ref 31, .int (nI sa), .int (nI s1), .int (nI s2), .int (nI (upp g)), .long (lN f), mk_, .int (nI (lwr g)), .int (nI a2), z10, z11] [.int (nI (pr2 g sa 2)), .int 2, .ref 31, .int (nI s1)] h3 Q
                refine exf_go 2 (show wpC (d + 4) true 46 [.ref 31, .int 2, .int (nI (pr2 g sa 2)), .int (nI a2)] h3 (fun r h' => Go (d + 4) true 43 157 [.ref 85, .ref 31, .int (nI sa), .int (nI s1), .int (nI s2), .int (nI (upp g)), .long (lN f), mk_, .int (nI (lwr g)), .int (nI a2), z10, z11] [r, .int (nI s1)] h' Q) from ?_)
                have hx1 : (pr2 g sa 2) < sF g 2 * sF g 3 := by first | exact pr2_lt cs.1 sa 2 | (show _ < lwr g; omega)
                have hx2 : a2 < sF g 2 * sF g 3 := by show _ < lwr g; omega
                refine c_two2 cs3 hx1 hx2 ?_
                have ht3 := t2_b cs.1 hx1 hx2
                show Go (d + 4) true 43 157 [.ref 85, .ref 31, .int (nI sa), .int (nI s1), .int (nI s2), .int (nI (upp g)), .long (lN f), mk_, .int (nI (lwr g)), .int (nI a2), z10, z11] [.int (nI (t2 g 2 (pr2 g sa 2) a2)), .int (nI s1)] h3 Q
                refine exf_go 4 (show Go (d + 4) true 43 163 [.ref 85, .ref 31, .int (nI sa), .int (nI s1), .int (nI s2), .int (nI (upp g)), .long (lN f), mk_, .int (nI (lwr g)), .int (nI a2), .int ((nI s1) - (nI (t2 g 2 (pr2 g sa 2) a2))), .int 0] [] h3 Q from ?_)
                have L163 : ∀ (k163 : Nat) (b2 f2 : Nat), (lwr g - b2) < k163 → (b2 ≤ lwr g) → (f2 = f + sumN (wQ g sa s1 s2 a2) b2) → Go (d + 4) true 43 163 [.ref 85, .ref 31, .int (nI sa), .int (nI s1), .int (nI s2), .int (nI (upp g)), .long (lN f2), mk_, .int (nI (lwr g)), .int (nI a2), .int ((nI s1) - (nI (t2 g 2 (pr2 g sa 2) a2))), .int (nI b2)] [] h3 Q := by
                  intro k163
                  induction k163 with
                  | zero => intro b2 f2 hk; exact absurd hk (Nat.not_lt_zero _)
                  | succ k163 ih163 =>
                    intro b2 f2 hk hb2 hf2
                    refine exf_go 3 (show ((nI (lwr g)) ≤ (nI b2) → Go (d + 4) true 43 200 [.ref 85, .ref 31, .int (nI sa), .int (nI s1), .int (nI s2), .int (nI (upp g)), .long (lN f2), mk_, .int (nI (lwr g)), .int (nI a2), .int ((nI s1) - (nI (t2 g 2 (pr2 g sa 2) a2))), .int (nI b2)] [] h3 Q) ∧ (¬ ((nI (lwr g)) ≤ (nI b2)) → Go (d + 4) true 43 170 [.ref 85, .ref 31, .int (nI sa), .int (nI s1), .int (nI s2), .int (nI (upp g)), .long (lN f2), mk_, .int (nI (lwr g)), .int (nI a2), .int ((nI s1) - (nI (t2 g 2 (pr2 g sa 2) a2))), .int (nI b2)] [] h3 Q) from ⟨fun c3 => ?_, fun c3 => ?_⟩)
                    · skip
                      have c3 : (lwr g) ≤ b2 := (nI_leI (a := (lwr g)) (b := b2) (by omega) (by omega)).mp c3
                      refine exf_go 1 (show Go (d + 4) true 43 203 [.ref 85, .ref 31, .int (nI sa), .int (nI s1), .int (nI s2), .int (nI (upp g)), .long (lN f2), mk_, .int (nI (lwr g)), .int ((nI a2) + 1), .int ((nI s1) - (nI (t2 g 2 (pr2 g sa 2) a2))), .int (nI b2)] [] h3 Q from ?_)
                      rw [show ((nI a2) + 1 : Int32) = nI (a2 + 1) from nI_add a2 1]
                      refine exf_go 1 (show Go (d + 4) true 43 136 [.ref 85, .ref 31, .int (nI sa), .int (nI s1), .int (nI s2), .int (nI (upp g)), .long (lN f2), mk_, .int (nI (lwr g)), .int (nI (a2 + 1)), .int ((nI s1) - (nI (t2 g 2 (pr2 g sa 2) a2))), .int (nI b2)] [] h3 Q from ?_)
                      exact ih136 (.int ((nI s1) - (nI (t2 g 2 (pr2 g sa 2) a2)))) (.int (nI b2)) (a2 + 1) f2 (by omega) (by omega) (by rw [hf2, hf, sumN, show b2 = lwr g from by omega])
                    · skip
                      have c3 : ¬ (lwr g) ≤ b2 := fun q => c3 ((nI_leI (a := (lwr g)) (b := b2) (by omega) (by omega)).mpr q)
                      refine exf_go 9 (show wpC (d + 4) true 46 [.ref 31, .int 2, .int (nI a2), .int (nI b2)] h3 (fun r h' => Go (d + 4) true 43 186 [.ref 85, .ref 31, .int (nI sa), .int (nI s1), .int (nI s2), .int (nI (upp g)), .long (lN f2), mk_, .int (nI (lwr g)), .int (nI a2), .int ((nI s1) - (nI (t2 g 2 (pr2 g sa 2) a2))), .int (nI b2)] [r, .int (nI s2), .int ((nI s1) - (nI (t2 g 2 (pr2 g sa 2) a2))), .ref 85, .long (lN f2)] h' Q) from ?_)
                      have hx4 : a2 < sF g 2 * sF g 3 := by first | exact pr2_lt cs.1 sa 2 | (show _ < lwr g; omega)
                      have hx5 : b2 < sF g 2 * sF g 3 := by show _ < lwr g; omega
                      refine c_two2 cs3 hx4 hx5 ?_
                      have ht6 := t2_b cs.1 hx4 hx5
                      show Go (d + 4) true 43 186 [.ref 85, .ref 31, .int (nI sa), .int (nI s1), .int (nI s2), .int (nI (upp g)), .long (lN f2), mk_, .int (nI (lwr g)), .int (nI a2), .int ((nI s1) - (nI (t2 g 2 (pr2 g sa 2) a2))), .int (nI b2)] [.int (nI (t2 g 2 a2 b2)), .int (nI s2), .int ((nI s1) - (nI (t2 g 2 (pr2 g sa 2) a2))), .ref 85, .long (lN f2)] h3 Q
                      refine exf_go 2 (show wpC (d + 4) true 44 [.ref 85, .int ((nI s1) - (nI (t2 g 2 (pr2 g sa 2) a2))), .int ((nI s2) - (nI (t2 g 2 a2 b2)))] h3 (fun r h' => Go (d + 4) true 43 190 [.ref 85, .ref 31, .int (nI sa), .int (nI s1), .int (nI s2), .int (nI (upp g)), .long (lN f2), mk_, .int (nI (lwr g)), .int (nI a2), .int ((nI s1) - (nI (t2 g 2 (pr2 g sa 2) a2))), .int (nI b2)] [r, .long (lN f2)] h' Q) from ?_)
                      refine c_ways (W := wyF g (pr2 g sa 0) (upp g) 0) (s := s1) (u := t2 g 2 (pr2 g sa 2) a2) (s2 := s2) (u2 := t2 g 2 a2 b2) (by omega) (by omega) (by omega) (by omega) (fun x y u v => by rw [← show a = upp g from by omega]; exact hg x y u v) (by rw [show rL h3 86 = rL h1 86 from q3.L 86]; omega) (by rw [show rL h3 86 = rL h1 86 from q3.L 86]; omega) ?_
                      have hwb := wQ_b cs.1 sa s1 s2 a2 b2
                      show Go (d + 4) true 43 190 [.ref 85, .ref 31, .int (nI sa), .int (nI s1), .int (nI s2), .int (nI (upp g)), .long (lN f2), mk_, .int (nI (lwr g)), .int (nI a2), .int ((nI s1) - (nI (t2 g 2 (pr2 g sa 2) a2))), .int (nI b2)] [.int (nI (wQ g sa s1 s2 a2 b2)), .long (lN f2)] h3 Q
                      refine exf_go 1 (show Go (d + 4) true 43 191 [.ref 85, .ref 31, .int (nI sa), .int (nI s1), .int (nI s2), .int (nI (upp g)), .long (lN f2), mk_, .int (nI (lwr g)), .int (nI a2), .int ((nI s1) - (nI (t2 g 2 (pr2 g sa 2) a2))), .int (nI b2)] [.long ((nI (wQ g sa s1 s2 a2 b2)).toInt64), .long (lN f2)] h3 Q from ?_)
                      rw [show ((nI (wQ g sa s1 s2 a2 b2)).toInt64 : Int64) = lN (wQ g sa s1 s2 a2 b2) from nI_l (n := (wQ g sa s1 s2 a2 b2)) (by omega)]
                      refine exf_go 1 (show Go (d + 4) true 43 192 [.ref 85, .ref 31, .int (nI sa), .int (nI s1), .int (nI s2), .int (nI (upp g)), .long (lN f2), mk_, .int (nI (lwr g)), .int (nI a2), .int ((nI s1) - (nI (t2 g 2 (pr2 g sa 2) a2))), .int (nI b2)] [.long ((lN f2) + (lN (wQ g sa s1 s2 a2 b2)))] h3 Q from ?_)
                      rw [show ((lN f2) + (lN (wQ g sa s1 s2 a2 b2)) : Int64) = lN (f2 + (wQ g sa s1 s2 a2 b2)) from lN_add f2 (wQ g sa s1 s2 a2 b2)]
                      refine exf_go 2 (show Go (d + 4) true 43 197 [.ref 85, .ref 31, .int (nI sa), .int (nI s1), .int (nI s2), .int (nI (upp g)), .long (lN (f2 + (wQ g sa s1 s2 a2 b2))), mk_, .int (nI (lwr g)), .int (nI a2), .int ((nI s1) - (nI (t2 g 2 (pr2 g sa 2) a2))), .int ((nI b2) + 1)] [] h3 Q from ?_)
                      rw [show ((nI b2) + 1 : Int32) = nI (b2 + 1) from nI_add b2 1]
                      refine exf_go 1 (show Go (d + 4) true 43 163 [.ref 85, .ref 31, .int (nI sa), .int (nI s1), .int (nI s2), .int (nI (upp g)), .long (lN (f2 + (wQ g sa s1 s2 a2 b2))), mk_, .int (nI (lwr g)), .int (nI a2), .int ((nI s1) - (nI (t2 g 2 (pr2 g sa 2) a2))), .int (nI (b2 + 1))] [] h3 Q from ?_)
                      exact ih163 (b2 + 1) (f2 + (wQ g sa s1 s2 a2 b2)) (by omega) (by omega) (by rw [hf2, sumN]; omega)
                exact L163 (lwr g + 1) 0 f (by omega) (by omega) rfl
          exact L136 (lwr g + 1) mk_ mk_ 0 0 (by omega) (by omega) rfl
        · skip
          have c1 : ¬ (upp g) ≤ a := fun q => c1 ((nI_leI (a := (upp g)) (b := a) (by omega) (by omega)).mpr q)
          refine exf_go 6 (show wpC (d + 4) true 45 [.ref 31, .int 0, .int (nI sa)] h3 (fun r h' => Go (d + 4) true 43 61 [.ref 85, .ref 31, .int (nI sa), .int (nI s1), .int (nI s2), .int (nI (upp g)), .int (nI a), z7, z8, mk_, mk_, mk_] [r, .int 0, .ref 31] h' Q) from ?_)
          refine c_pairOf0 cs3 (n := sa) (by omega) ?_
          show Go (d + 4) true 43 61 [.ref 85, .ref 31, .int (nI sa), .int (nI s1), .int (nI s2), .int (nI (upp g)), .int (nI a), z7, z8, mk_, mk_, mk_] [.int (nI (pr2 g sa 0)), .int 0, .ref 31] h3 Q
          refine exf_go 2 (show wpC (d + 4) true 46 [.ref 31, .int 0, .int (nI (pr2 g sa 0)), .int (nI a)] h3 (fun r h' => Go (d + 4) true 43 66 [.ref 85, .ref 31, .int (nI sa), .int (nI s1), .int (nI s2), .int (nI (upp g)), .int (nI a), z7, z8, mk_, mk_, mk_] [r] h' Q) from ?_)
          have hx7 : (pr2 g sa 0) < sF g 0 * sF g 1 := by first | exact pr2_lt cs.1 sa 0 | (show _ < upp g; omega)
          have hx8 : a < sF g 0 * sF g 1 := by show _ < upp g; omega
          refine c_two0 cs3 hx7 hx8 ?_
          have ht9 := t2_b cs.1 hx7 hx8
          show Go (d + 4) true 43 66 [.ref 85, .ref 31, .int (nI sa), .int (nI s1), .int (nI s2), .int (nI (upp g)), .int (nI a), z7, z8, mk_, mk_, mk_] [.int (nI (t2 g 0 (pr2 g sa 0) a))] h3 Q
          refine exf_go 3 (show Go (d + 4) true 43 71 [.ref 85, .ref 31, .int (nI sa), .int (nI s1), .int (nI s2), .int (nI (upp g)), .int (nI a), .int (nI (t2 g 0 (pr2 g sa 0) a)), .int 0, mk_, mk_, mk_] [] h3 Q from ?_)
          have L71 : ∀ (k71 : Nat) (b : Nat) (h4 : Hp), (upp g - b) < k71 → (b ≤ upp g) → (Fq (sAt 86) h1 h4) → (∀ x y, x < 163 → y < 163 → rI h4 86 (x * 163 + y) = nI (wyF g (pr2 g sa 0) a b x y)) → Go (d + 4) true 43 71 [.ref 85, .ref 31, .int (nI sa), .int (nI s1), .int (nI s2), .int (nI (upp g)), .int (nI a), .int (nI (t2 g 0 (pr2 g sa 0) a)), .int (nI b), mk_, mk_, mk_] [] h4 Q := by
            intro k71
            induction k71 with
            | zero => intro b h4 hk; exact absurd hk (Nat.not_lt_zero _)
            | succ k71 ih71 =>
              intro b h4 hk hb q4 hg4
              have cs4 := cs_fq cs1 (q4.mono (sAt_C (fun _ => rfl)))
              have hal4 : al h4 86 = rL h1 86 := q4.L 86
              refine exf_go 3 (show ((nI (upp g)) ≤ (nI b) → Go (d + 4) true 43 109 [.ref 85, .ref 31, .int (nI sa), .int (nI s1), .int (nI s2), .int (nI (upp g)), .int (nI a), .int (nI (t2 g 0 (pr2 g sa 0) a)), .int (nI b), mk_, mk_, mk_] [] h4 Q) ∧ (¬ ((nI (upp g)) ≤ (nI b)) → Go (d + 4) true 43 78 [.ref 85, .ref 31, .int (nI sa), .int (nI s1), .int (nI s2), .int (nI (upp g)), .int (nI a), .int (nI (t2 g 0 (pr2 g sa 0) a)), .int (nI b), mk_, mk_, mk_] [] h4 Q) from ⟨fun c4 => ?_, fun c4 => ?_⟩)
              · skip
                have c4 : (upp g) ≤ b := (nI_leI (a := (upp g)) (b := b) (by omega) (by omega)).mp c4
                refine exf_go 1 (show Go (d + 4) true 43 112 [.ref 85, .ref 31, .int (nI sa), .int (nI s1), .int (nI s2), .int (nI (upp g)), .int ((nI a) + 1), .int (nI (t2 g 0 (pr2 g sa 0) a)), .int (nI b), mk_, mk_, mk_] [] h4 Q from ?_)
                rw [show ((nI a) + 1 : Int32) = nI (a + 1) from nI_add a 1]
                refine exf_go 1 (show Go (d + 4) true 43 46 [.ref 85, .ref 31, .int (nI sa), .int (nI s1), .int (nI s2), .int (nI (upp g)), .int (nI (a + 1)), .int (nI (t2 g 0 (pr2 g sa 0) a)), .int (nI b), mk_, mk_, mk_] [] h4 Q from ?_)
                exact ih46 (.int (nI (t2 g 0 (pr2 g sa 0) a))) (.int (nI b)) (a + 1) h4 (by omega) (by omega) q4 (fun x y u v => by rw [hg4 x y u v, show b = upp g from by omega, wy_row])
              · skip
                have c4 : ¬ (upp g) ≤ b := fun q => c4 ((nI_leI (a := (upp g)) (b := b) (by omega) (by omega)).mpr q)
                refine exf_go 5 (show Go (d + 4) true 43 88 [.ref 85, .ref 31, .int (nI sa), .int (nI s1), .int (nI s2), .int (nI (upp g)), .int (nI a), .int (nI (t2 g 0 (pr2 g sa 0) a)), .int (nI b), mk_, mk_, mk_] [.int ((nI (t2 g 0 (pr2 g sa 0) a)) * 163), .ref 86] h4 Q from ?_)
                rw [show ((nI (t2 g 0 (pr2 g sa 0) a)) * 163 : Int32) = nI ((t2 g 0 (pr2 g sa 0) a) * 163) from pk_mul (t2 g 0 (pr2 g sa 0) a) 163]
                refine exf_go 5 (show wpC (d + 4) true 46 [.ref 31, .int 0, .int (nI a), .int (nI b)] h4 (fun r h' => Go (d + 4) true 43 97 [.ref 85, .ref 31, .int (nI sa), .int (nI s1), .int (nI s2), .int (nI (upp g)), .int (nI a), .int (nI (t2 g 0 (pr2 g sa 0) a)), .int (nI b), mk_, mk_, mk_] [r, .int (nI ((t2 g 0 (pr2 g sa 0) a) * 163)), .ref 86] h' Q) from ?_)
                have hx10 : a < sF g 0 * sF g 1 := by first | exact pr2_lt cs.1 sa 0 | (show _ < upp g; omega)
                have hx11 : b < sF g 0 * sF g 1 := by show _ < upp g; omega
                refine c_two0 cs4 hx10 hx11 ?_
                have ht12 := t2_b cs.1 hx10 hx11
                show Go (d + 4) true 43 97 [.ref 85, .ref 31, .int (nI sa), .int (nI s1), .int (nI s2), .int (nI (upp g)), .int (nI a), .int (nI (t2 g 0 (pr2 g sa 0) a)), .int (nI b), mk_, mk_, mk_] [.int (nI (t2 g 0 a b)), .int (nI ((t2 g 0 (pr2 g sa 0) a) * 163)), .ref 86] h4 Q
                refine exf_go 1 (show Go (d + 4) true 43 98 [.ref 85, .ref 31, .int (nI sa), .int (nI s1), .int (nI s2), .int (nI (upp g)), .int (nI a), .int (nI (t2 g 0 (pr2 g sa 0) a)), .int (nI b), mk_, mk_, mk_] [.int ((nI ((t2 g 0 (pr2 g sa 0) a) * 163)) + (nI (t2 g 0 a b))), .ref 86] h4 Q from ?_)
                rw [show ((nI ((t2 g 0 (pr2 g sa 0) a) * 163)) + (nI (t2 g 0 a b)) : Int32) = nI (((t2 g 0 (pr2 g sa 0) a) * 163) + (t2 g 0 a b)) from nI_add ((t2 g 0 (pr2 g sa 0) a) * 163) (t2 g 0 a b)]
                refine exf_go 2 (show vp_in (nI (((t2 g 0 (pr2 g sa 0) a) * 163) + (t2 g 0 a b))) (al h4 86) ∧ (Go (d + 4) true 43 100 [.ref 85, .ref 31, .int (nI sa), .int (nI s1), .int (nI s2), .int (nI (upp g)), .int (nI a), .int (nI (t2 g 0 (pr2 g sa 0) a)), .int (nI b), mk_, mk_, mk_] [.int (rI h4 86 ((nI (((t2 g 0 (pr2 g sa 0) a) * 163) + (t2 g 0 a b))).toNatClampNeg)), .int (nI (((t2 g 0 (pr2 g sa 0) a) * 163) + (t2 g 0 a b))), .ref 86] h4 Q) from ⟨(by rw [hal4]; exact vp_in_nI (by omega) (by omega)), ?_⟩)
                rw [show (rI h4 86 ((nI (((t2 g 0 (pr2 g sa 0) a) * 163) + (t2 g 0 a b))).toNatClampNeg) : Int32) = nI (wyF g (pr2 g sa 0) a b (t2 g 0 (pr2 g sa 0) a) (t2 g 0 a b)) from by rw [nI_clamp (by omega)]; exact hg4 _ _ (by omega) (by omega)]
                refine exf_go 2 (show Go (d + 4) true 43 102 [.ref 85, .ref 31, .int (nI sa), .int (nI s1), .int (nI s2), .int (nI (upp g)), .int (nI a), .int (nI (t2 g 0 (pr2 g sa 0) a)), .int (nI b), mk_, mk_, mk_] [.int ((nI (wyF g (pr2 g sa 0) a b (t2 g 0 (pr2 g sa 0) a) (t2 g 0 a b))) + 1), .int (nI (((t2 g 0 (pr2 g sa 0) a) * 163) + (t2 g 0 a b))), .ref 86] h4 Q from ?_)
                rw [show ((nI (wyF g (pr2 g sa 0) a b (t2 g 0 (pr2 g sa 0) a) (t2 g 0 a b))) + 1 : Int32) = nI ((wyF g (pr2 g sa 0) a b (t2 g 0 (pr2 g sa 0) a) (t2 g 0 a b)) + 1) from nI_add (wyF g (pr2 g sa 0) a b (t2 g 0 (pr2 g sa 0) a) (t2 g 0 a b)) 1]
                refine exf_go 2 (show vp_in (nI (((t2 g 0 (pr2 g sa 0) a) * 163) + (t2 g 0 a b))) (al h4 86) ∧ (Go (d + 4) true 43 106 [.ref 85, .ref 31, .int (nI sa), .int (nI s1), .int (nI s2), .int (nI (upp g)), .int (nI a), .int (nI (t2 g 0 (pr2 g sa 0) a)), .int ((nI b) + 1), mk_, mk_, mk_] [] (uI h4 86 ((nI (((t2 g 0 (pr2 g sa 0) a) * 163) + (t2 g 0 a b))).toNatClampNeg) (nI ((wyF g (pr2 g sa 0) a b (t2 g 0 (pr2 g sa 0) a) (t2 g 0 a b)) + 1))) Q) from ⟨(by rw [hal4]; exact vp_in_nI (by omega) (by omega)), ?_⟩)
                rw [show ((nI b) + 1 : Int32) = nI (b + 1) from nI_add b 1]
                refine exf_go 1 (show Go (d + 4) true 43 71 [.ref 85, .ref 31, .int (nI sa), .int (nI s1), .int (nI s2), .int (nI (upp g)), .int (nI a), .int (nI (t2 g 0 (pr2 g sa 0) a)), .int (nI (b + 1)), mk_, mk_, mk_] [] (uI h4 86 ((nI (((t2 g 0 (pr2 g sa 0) a) * 163) + (t2 g 0 a b))).toNatClampNeg) (nI ((wyF g (pr2 g sa 0) a b (t2 g 0 (pr2 g sa 0) a) (t2 g 0 a b)) + 1))) Q from ?_)
                exact ih71 (b + 1) _ (by omega) (by omega) (q4.uI' _ _ _ rfl) (fun x y u v => by rw [nI_clamp (by omega)]; exact (Decidable.em (x = t2 g 0 (pr2 g sa 0) a ∧ y = t2 g 0 a b)).elim (fun e => by rw [e.1, e.2, rI_uI_eq, wy_hit]) (fun e => by rw [rI_uI_at (by omega), wy_miss e]; exact hg4 x y u v))
          exact L71 (upp g + 1) 0 h3 (by omega) (by omega) q3 hg
    exact L46 (upp g + 1) mk_ mk_ 0 h2 (by omega) (by omega) q2 (fun x y u v => by rw [wy_0]; exact hz _ (by show _ < rL h1 86; omega))
  refine exf_go 3 (show Go (d + 4) true 43 5 [.ref 85, .ref 31, .int (nI sa), .int (nI s1), .int (nI s2), mk_, mk_, mk_, mk_, mk_, mk_, mk_] [.int (nI (al h 86))] h Q from ?_)
  rw [show (nI (al h 86) : Int32) = nI (rL h 86) from rfl]
  refine exf_go 2 (show (26569 ≤ (nI (rL h 86)) → Go (d + 4) true 43 20 [.ref 85, .ref 31, .int (nI sa), .int (nI s1), .int (nI s2), mk_, mk_, mk_, mk_, mk_, mk_, mk_] [] h Q) ∧ (¬ (26569 ≤ (nI (rL h 86))) → Go (d + 4) true 43 11 [.ref 85, .ref 31, .int (nI sa), .int (nI s1), .int (nI s2), mk_, mk_, mk_, mk_, mk_, mk_, mk_] [] h Q) from ⟨fun c5 => ?_, fun c5 => ?_⟩)
  · skip
    have c5 : 26569 ≤ (rL h 86) := (nI_leI (a := 26569) (b := (rL h 86)) (by omega) (by omega)).mp c5
    exact X20 h Gq.rfl' (by omega)
  · skip
    have c5 : ¬ 26569 ≤ (rL h 86) := fun q => c5 ((nI_leI (a := 26569) (b := (rL h 86)) (by omega) (by omega)).mpr q)
    have hgw := grow86 (h := h) (m := 26569) rfl wf (by omega)
    refine exf_go 3 (show ∃ a_, K0 a_ = 20 ∧ rD h a_ = false ∧ ¬ (26569 : Int32) < 0 ∧ (L0 a_ = 0 ∨ L0 a_ = (26569 : Int32).toNatClampNeg) ∧ (26569 : Int32).toNatClampNeg ≤ 1000000 ∧ Go (d + 4) true 43 17 [.ref 85, .ref 31, .int (nI sa), .int (nI s1), .int (nI s2), mk_, mk_, mk_, mk_, mk_, mk_, mk_] [.ref a_, .ref 85] (nwH h a_ 26569) Q from ⟨99, rfl, wf.1, by decide, by decide, by decide, ?_⟩)
    show Go (d + 4) true 43 17 [.ref 85, .ref 31, .int (nI sa), .int (nI s1), .int (nI s2), mk_, mk_, mk_, mk_, mk_, mk_, mk_] [.ref 99, .ref 85] (nwH h 99 26569) Q
    refine exf_go 1 (show rN (nwH h 99 26569) 85 0 = true ∧ (Go (d + 4) true 43 20 [.ref 85, .ref 31, .int (nI sa), .int (nI s1), .int (nI s2), mk_, mk_, mk_, mk_, mk_, mk_, mk_] [] (adp (nwH h 99 26569) 86) Q) from ⟨(wf.2.2 85 0 rfl), ?_⟩)
    exact X20 _ hgw.1 (by rw [hgw.2]; omega)
