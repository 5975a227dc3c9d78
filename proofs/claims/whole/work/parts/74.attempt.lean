/-! The class tries a number. -/
def sLm (i a _x : Nat) : Bool := (Nat.ble 39 a && Nat.ble a 41) || (Nat.ble (44 + 3 * i) a && Nat.ble a (46 + 3 * i))
theorem cs_same {g : ShG} {h h1 : Hp} (cs : CS 31 g h) (e : ∀ a, 31 ≤ a → a ≤ 38 → rI h1 a = rI h a) : CS 31 g h1 := by
  unfold CS at *
  simp only [Nat.reduceAdd] at *
  rw [e 31 (by decide) (by decide), e 32 (by decide) (by decide), e 33 (by decide) (by decide), e 34 (by decide) (by decide), e 35 (by decide) (by decide), e 36 (by decide) (by decide), e 37 (by decide) (by decide), e 38 (by decide) (by decide)]
  exact cs
theorem cs_39 {g : ShG} {h : Hp} (cs : CS 31 g h) (i : Nat) (v : Int32) : CS 31 g (uI h 39 i v) := cs_same cs (fun a _ _ => rI_uI_ne (by omega))
/-- the wheels stand elsewhere, the clock too -/
theorem cl_mv {g : ShG} {l : LkG} {h : Hp} (cl : CL 39 g l h) {n : Nat} (hn : n < tot g) (x : Int32) : CL 39 g (n, x, lG l, lO l, lF l, lT l) (uI (uI h 39 4 x) 39 3 (nI n)) := by
  obtain ⟨c1, c2, c3, c4, c5, c6, c7, c8, c9, c10, c11⟩ := cl
  refine ⟨⟨hn, c1.2⟩, c2, rfl, rfl, c5, c6, c7, c8, c9, fun m hm => ?_, c11⟩
  rw [show cel g (n, x, lG l, lO l, lF l, lT l) m = cel g l m from cel_cg rfl rfl]
  exact c10 m hm
theorem oI_some {o : Option Nat} {n N : Nat} (ho : ∀ m, o = some m → m < N) (hN : N ≤ 10000) (hn : n < N) : nI n = oI o ↔ o = some n := by
  cases o with
  | none => exact ⟨fun q => absurd q (ng_eq (by omega) (by decide)), fun q => by cases q⟩
  | some m =>
    have := ho m rfl
    constructor
    · intro q
      have := (nI_eq (by omega) (by omega)).mp (show nI n = nI m from q)
      rw [this]
    · intro q
      cases q; rfl
theorem c_note0 {d : Nat} {h : Hp} {n c : Nat} {Q : Po} (hc : rI h 44 1 = nI c) (hc4 : c < 40) (k : Q mk_ (uI (uI h 45 (nI c).toNatClampNeg (nI n)) 44 1 (nI (c + 1)))) : wpC (d + 1) true 40 [.ref 44, .int (nI n)] h Q := by
  refine go_in rfl ?_
  refine exf_go 2 (show Go d true 40 4 [.ref 44, .int (nI n)] [.int (rI h 44 1)] h Q from ?_)
  rw [show (rI h 44 1 : Int32) = nI c from hc]
  refine exf_go 2 (show (40 ≤ (nI c) → Go d true 40 29 [.ref 44, .int (nI n)] [] h Q) ∧ (¬ (40 ≤ (nI c)) → Go d true 40 9 [.ref 44, .int (nI n)] [] h Q) from ⟨fun c1 => ?_, fun c1 => ?_⟩)
  · skip
    have c1 : 40 ≤ c := (nI_leI (a := 40) (b := c) (by omega) (by omega)).mp c1
    refine exf_go 1 (show Q (mk_) h from ?_)
    first | (exfalso; omega) | exact k
  · skip
    have c1 : ¬ 40 ≤ c := fun q => c1 ((nI_leI (a := 40) (b := c) (by omega) (by omega)).mpr q)
    refine exf_go 4 (show Go d true 40 17 [.ref 44, .int (nI n)] [.int (rI h 44 1), .ref 45] h Q from ?_)
    rw [show (rI h 44 1 : Int32) = nI c from hc]
    refine exf_go 5 (show vp_in (nI c) 40 ∧ (Go d true 40 24 [.ref 44, .int (nI n)] [.int (rI h 44 1), .ref 44] (uI h 45 ((nI c).toNatClampNeg) (nI n)) Q) from ⟨(vp_in_nI (by omega) (by omega)), ?_⟩)
    rw [show (rI h 44 1 : Int32) = nI c from hc]
    refine exf_go 2 (show Go d true 40 26 [.ref 44, .int (nI n)] [.int ((nI c) + 1), .ref 44] (uI h 45 ((nI c).toNatClampNeg) (nI n)) Q from ?_)
    rw [show ((nI c) + 1 : Int32) = nI (c + 1) from nI_add c 1]
    refine exf_go 2 (show Q (mk_) (uI (uI h 45 ((nI c).toNatClampNeg) (nI n)) 44 1 (nI (c + 1))) from ?_)
    first | (exfalso; omega) | exact k
theorem c_att0 {d : Nat} {h : Hp} {g : ShG} {l l0 : LkG} {n c : Nat} {Q : Po} (cs : CS 31 g h) (cl : CL 39 g l h) (mk : CMK g 0 l0 l c h) (hn : n < tot g) (hc4 : c < 40) (k : ∀ h1 c1, c1 ≤ c + 1 → Fq (sLm 0) h h1 → CL 39 g (tryL g l n) h1 → CMK g 0 l0 (tryL g l n) c1 h1 → Q mk_ h1) : wpC (d + 4) true 34 [.ref 39, .ref 31, .int (nI n), .ref 44] h Q := by
  have hN := tot_b cs.1
  have hA := cl.1.1
  have hf5 := cl_G cl; have hf7 := cl_O cl; have hf6 := cl_T cl; have hfn := cl_Cl cl n hn
  have hcb := cel_b cs.1 cl.1 n
  have hal := cl_al cl
  simp only [Nat.reduceAdd] at hal
  have hob := cs.1.2.2.2.2.2.2.2.2.2.2.2.1
  have hb9 := cs.1.2.2.2.2.2.2.2.2.1
  have hs9 := cs.1.2.2.2.2.2.2.2.2.2.1
  have hcn := cntN_le (fun m => lT l m == 1) (tot g)
  have hp6 := cs.1.2.2.2.2.2.2.2.1
  refine go_in rfl ?_
  refine exf_go 3 (show wpC (d + 3) true 32 [.ref 39, .int (nI n)] h (fun r h' => Go (d + 3) true 34 5 [.ref 39, .ref 31, .int (nI n), .ref 44] [r] h' Q) from ?_)
  refine c_isCell cs cl (by omega) ?_
  show Go (d + 3) true 34 5 [.ref 39, .ref 31, .int (nI n), .ref 44] [.int 1] h Q
  refine exf_go 1 (show (¬ (1 : Int32) = 0 → Go (d + 3) true 34 9 [.ref 39, .ref 31, .int (nI n), .ref 44] [] h Q) ∧ (¬ (¬ (1 : Int32) = 0) → Go (d + 3) true 34 8 [.ref 39, .ref 31, .int (nI n), .ref 44] [] h Q) from ⟨fun c1 => ?_, fun c1 => ?_⟩)
  · skip
    refine exf_go 3 (show Go (d + 3) true 34 14 [.ref 39, .ref 31, .int (nI n), .ref 44] [.int (rI h 39 4), .ref 39] h Q from ?_)
    rw [show (rI h 39 4 : Int32) = lX l from cl_X cl]
    refine exf_go 3 (show Go (d + 3) true 34 19 [.ref 39, .ref 31, .int (nI n), .ref 44] [.int (rI h 39 3), .ref 31, .int (lX l), .ref 39] h Q from ?_)
    rw [show (rI h 39 3 : Int32) = nI (lA l) from cl_A cl]
    refine exf_go 2 (show wpC (d + 3) true 83 [.ref 31, .int (nI (lA l)), .int (nI n)] h (fun r h' => Go (d + 3) true 34 23 [.ref 39, .ref 31, .int (nI n), .ref 44] [r, .int (lX l), .ref 39] h' Q) from ?_)
    refine c_turns cs (n := lA l) (m := n) (by omega) (by omega) ?_
    have htr := trn_b cs.1 (lA l) n
    show Go (d + 3) true 34 23 [.ref 39, .ref 31, .int (nI n), .ref 44] [.int (nI (trn g (lA l) n)), .int (lX l), .ref 39] h Q
    refine exf_go 2 (show Go (d + 3) true 34 27 [.ref 39, .ref 31, .int (nI n), .ref 44] [.int (rI h 31 9), .int (nI (trn g (lA l) n)), .int (lX l), .ref 39] h Q from ?_)
    rw [show (rI h 31 9 : Int32) = nI (sP g) from cs_P cs]
    refine exf_go 1 (show Go (d + 3) true 34 28 [.ref 39, .ref 31, .int (nI n), .ref 44] [.int ((nI (trn g (lA l) n)) + (nI (sP g))), .int (lX l), .ref 39] h Q from ?_)
    rw [show ((nI (trn g (lA l) n)) + (nI (sP g)) : Int32) = nI ((trn g (lA l) n) + (sP g)) from nI_add (trn g (lA l) n) (sP g)]
    refine exf_go 1 (show Go (d + 3) true 34 29 [.ref 39, .ref 31, .int (nI n), .ref 44] [.int ((lX l) + (nI ((trn g (lA l) n) + (sP g)))), .ref 39] h Q from ?_)
    rw [show ((lX l) + (nI ((trn g (lA l) n) + (sP g))) : Int32) = tryX g l n from rfl]
    refine exf_go 8 (show wpC (d + 3) true 30 [.ref 39, .int (nI n), .int 256] (uI (uI h 39 4 (tryX g l n)) 39 3 (nI n)) (fun r h' => Go (d + 3) true 34 45 [.ref 39, .ref 31, .int (nI n), .ref 44] [r] h' Q) from ?_)
    have cl1 := cl_mv cl hn (tryX g l n)
    have cs1 := cs_39 (cs_39 cs 4 (tryX g l n)) 3 (nI n)
    have e1 : cel g (n, tryX g l n, lG l, lO l, lF l, lT l) n = cel g l n := cel_cg rfl rfl
    refine c_hasMark cs1 cl1 hn (fun b2 => ?_) (fun b2 => ?_)
    · skip
      have hT : lT l n = 1 := by have h9 := cl.1.2.2.1 n; have h7 : ¬ lT l n = 0 := fun q => b2 (by rw [e1]; exact (tri_0 cs.1 cl.1).mpr q); omega
      show Go (d + 3) true 34 45 [.ref 39, .ref 31, .int (nI n), .ref 44] [.int 1] (uI (uI h 39 4 (tryX g l n)) 39 3 (nI n)) Q
      refine exf_go 1 (show (¬ (1 : Int32) = 0 → Go (d + 3) true 34 75 [.ref 39, .ref 31, .int (nI n), .ref 44] [] (uI (uI h 39 4 (tryX g l n)) 39 3 (nI n)) Q) ∧ (¬ (¬ (1 : Int32) = 0) → Go (d + 3) true 34 48 [.ref 39, .ref 31, .int (nI n), .ref 44] [] (uI (uI h 39 4 (tryX g l n)) 39 3 (nI n)) Q) from ⟨fun c3 => ?_, fun c3 => ?_⟩)
      · skip
        refine exf_go 3 (show Go (d + 3) true 34 80 [.ref 39, .ref 31, .int (nI n), .ref 44] [.int (rI h 31 15), .int (nI n)] (uI (uI h 39 4 (tryX g l n)) 39 3 (nI n)) Q from ?_)
        rw [show (rI h 31 15 : Int32) = oI (sO g) from cs_O cs]
        refine exf_go 1 (show (¬ (nI n) = (oI (sO g)) → Go (d + 3) true 34 89 [.ref 39, .ref 31, .int (nI n), .ref 44] [] (uI (uI h 39 4 (tryX g l n)) 39 3 (nI n)) Q) ∧ (¬ (¬ (nI n) = (oI (sO g))) → Go (d + 3) true 34 83 [.ref 39, .ref 31, .int (nI n), .ref 44] [] (uI (uI h 39 4 (tryX g l n)) 39 3 (nI n)) Q) from ⟨fun c4 => ?_, fun c4 => ?_⟩)
        · skip
          have hso : ¬ sO g = some n := fun q => c4 ((oI_some hob hN.2 hn).mpr q)
          refine exf_go 3 (show Go (d + 3) true 34 94 [.ref 39, .ref 31, .int (nI n), .ref 44] [.int (rI h 39 5), .ref 39] (uI (uI h 39 4 (tryX g l n)) 39 3 (nI n)) Q from ?_)
          rw [show (rI h 39 5 : Int32) = lG l from cl_G cl]
          refine exf_go 5 (show Go (d + 3) true 34 103 [.ref 39, .ref 31, .int (nI n), .ref 44] [.int (rI h 31 10)] (uI (uI (uI h 39 4 (tryX g l n)) 39 3 (nI n)) 39 5 ((lG l) + 1)) Q from ?_)
          rw [show (rI h 31 10 : Int32) = nI (sBA g) from cs_BA cs]
          refine exf_go 1 (show ((nI (sBA g)) ≤ 0 → Go (d + 3) true 34 135 [.ref 39, .ref 31, .int (nI n), .ref 44] [] (uI (uI (uI h 39 4 (tryX g l n)) 39 3 (nI n)) 39 5 ((lG l) + 1)) Q) ∧ (¬ ((nI (sBA g)) ≤ 0) → Go (d + 3) true 34 106 [.ref 39, .ref 31, .int (nI n), .ref 44] [] (uI (uI (uI h 39 4 (tryX g l n)) 39 3 (nI n)) 39 5 ((lG l) + 1)) Q) from ⟨fun c5 => ?_, fun c5 => ?_⟩)
          · skip
            have c5 : (sBA g) ≤ 0 := (nI_leI (a := (sBA g)) (b := 0) (by omega) (by omega)).mp c5
            have htl : tryL g l n = (n, tryX g l n, lG l + 1, lO l, lF l, va_up (lT l) n 1) := by unfold tryL; rw [if_neg hso, if_neg (fun q => by omega)]
            refine exf_go 1 (show Q (mk_) (uI (uI (uI h 39 4 (tryX g l n)) 39 3 (nI n)) 39 5 ((lG l) + 1)) from ?_)
            refine k _ c (by omega) (Fq.uI' (Fq.uI' (Fq.uI' Fq.rfl' _ _ _ rfl) _ _ _ rfl) _ _ _ rfl) (cl_try cs.1 cl hn (LkW_try cl.1 hn) (tryL_F g l n) (tryL_T g l n) rfl (by rw [htl]; rfl) (by rw [htl]; rfl) (by rw [htl]; first | rfl | exact hf5) (by rw [htl]; first | rfl | exact hf7) (by rw [if_pos hT]; exact hf6) rfl (fun m hm q => rfl) (by rw [if_pos hT]; exact hfn) rfl) (mk_old (mk_fq mk rfl rfl rfl) (tryL_T g l n) hT)
          · skip
            have c5 : ¬ (sBA g) ≤ 0 := fun q => c5 ((nI_leI (a := (sBA g)) (b := 0) (by omega) (by omega)).mpr q)
            refine exf_go 4 (show Go (d + 3) true 34 114 [.ref 39, .ref 31, .int (nI n), .ref 44] [.int (rI h 31 10), .int ((lG l) + 1)] (uI (uI (uI h 39 4 (tryX g l n)) 39 3 (nI n)) 39 5 ((lG l) + 1)) Q from ?_)
            rw [show (rI h 31 10 : Int32) = nI (sBA g) from cs_BA cs]
            refine exf_go 1 (show (((lG l) + 1) < (nI (sBA g)) → Go (d + 3) true 34 135 [.ref 39, .ref 31, .int (nI n), .ref 44] [] (uI (uI (uI h 39 4 (tryX g l n)) 39 3 (nI n)) 39 5 ((lG l) + 1)) Q) ∧ (¬ (((lG l) + 1) < (nI (sBA g))) → Go (d + 3) true 34 117 [.ref 39, .ref 31, .int (nI n), .ref 44] [] (uI (uI (uI h 39 4 (tryX g l n)) 39 3 (nI n)) 39 5 ((lG l) + 1)) Q) from ⟨fun c6 => ?_, fun c6 => ?_⟩)
            · skip
              have htl : tryL g l n = (n, tryX g l n, lG l + 1, lO l, lF l, va_up (lT l) n 1) := by unfold tryL; rw [if_neg hso, if_neg (fun q => Int32.not_le.mpr c6 q.2)]
              refine exf_go 1 (show Q (mk_) (uI (uI (uI h 39 4 (tryX g l n)) 39 3 (nI n)) 39 5 ((lG l) + 1)) from ?_)
              refine k _ c (by omega) (Fq.uI' (Fq.uI' (Fq.uI' Fq.rfl' _ _ _ rfl) _ _ _ rfl) _ _ _ rfl) (cl_try cs.1 cl hn (LkW_try cl.1 hn) (tryL_F g l n) (tryL_T g l n) rfl (by rw [htl]; rfl) (by rw [htl]; rfl) (by rw [htl]; first | rfl | exact hf5) (by rw [htl]; first | rfl | exact hf7) (by rw [if_pos hT]; exact hf6) rfl (fun m hm q => rfl) (by rw [if_pos hT]; exact hfn) rfl) (mk_old (mk_fq mk rfl rfl rfl) (tryL_T g l n) hT)
            · skip
              have htl : tryL g l n = (n, tryX g l n + nI (sBS g), 0, lO l, lF l, va_up (lT l) n 1) := by unfold tryL; rw [if_neg hso, if_pos ⟨by omega, Int32.not_lt.mp c6⟩]
              refine exf_go 8 (show Go (d + 3) true 34 131 [.ref 39, .ref 31, .int (nI n), .ref 44] [.int (rI h 31 11), .int (tryX g l n), .ref 39] (uI (uI (uI (uI h 39 4 (tryX g l n)) 39 3 (nI n)) 39 5 ((lG l) + 1)) 39 5 0) Q from ?_)
              rw [show (rI h 31 11 : Int32) = nI (sBS g) from cs_BS cs]
              refine exf_go 3 (show Q (mk_) (uI (uI (uI (uI (uI h 39 4 (tryX g l n)) 39 3 (nI n)) 39 5 ((lG l) + 1)) 39 5 0) 39 4 ((tryX g l n) + (nI (sBS g)))) from ?_)
              refine k _ c (by omega) (Fq.uI' (Fq.uI' (Fq.uI' (Fq.uI' (Fq.uI' Fq.rfl' _ _ _ rfl) _ _ _ rfl) _ _ _ rfl) _ _ _ rfl) _ _ _ rfl) (cl_try cs.1 cl hn (LkW_try cl.1 hn) (tryL_F g l n) (tryL_T g l n) rfl (by rw [htl]; rfl) (by rw [htl]; rfl) (by rw [htl]; first | rfl | exact hf5) (by rw [htl]; first | rfl | exact hf7) (by rw [if_pos hT]; exact hf6) rfl (fun m hm q => rfl) (by rw [if_pos hT]; exact hfn) rfl) (mk_old (mk_fq mk rfl rfl rfl) (tryL_T g l n) hT)
        · skip
          have hso : sO g = some n := (oI_some hob hN.2 hn).mp (Classical.not_not.mp c4)
          have htl : tryL g l n = (n, tryX g l n, lG l, 1, lF l, va_up (lT l) n 1) := by unfold tryL; rw [if_pos hso]
          refine exf_go 4 (show ((1 : Int32) = 0 ∨ (1 : Int32) = 1) ∧ Q (mk_) (uI (uI (uI h 39 4 (tryX g l n)) 39 3 (nI n)) 39 7 1) from ⟨(by first | exact Or.inl rfl | exact Or.inr rfl | assumption), ?_⟩)
          refine k _ c (by omega) (Fq.uI' (Fq.uI' (Fq.uI' Fq.rfl' _ _ _ rfl) _ _ _ rfl) _ _ _ rfl) (cl_try cs.1 cl hn (LkW_try cl.1 hn) (tryL_F g l n) (tryL_T g l n) rfl (by rw [htl]; rfl) (by rw [htl]; rfl) (by rw [htl]; first | rfl | exact hf5) (by rw [htl]; first | rfl | exact hf7) (by rw [if_pos hT]; exact hf6) rfl (fun m hm q => rfl) (by rw [if_pos hT]; exact hfn) rfl) (mk_old (mk_fq mk rfl rfl rfl) (tryL_T g l n) hT)
      · skip
        exact absurd (by decide) c3
    · skip
      have hT : lT l n = 0 := (tri_0 cs.1 cl.1).mp (e1 ▸ b2)
      show Go (d + 3) true 34 45 [.ref 39, .ref 31, .int (nI n), .ref 44] [.int 0] (uI (uI h 39 4 (tryX g l n)) 39 3 (nI n)) Q
      refine exf_go 1 (show (¬ (0 : Int32) = 0 → Go (d + 3) true 34 75 [.ref 39, .ref 31, .int (nI n), .ref 44] [] (uI (uI h 39 4 (tryX g l n)) 39 3 (nI n)) Q) ∧ (¬ (¬ (0 : Int32) = 0) → Go (d + 3) true 34 48 [.ref 39, .ref 31, .int (nI n), .ref 44] [] (uI (uI h 39 4 (tryX g l n)) 39 3 (nI n)) Q) from ⟨fun c7 => ?_, fun c7 => ?_⟩)
      · skip
        exact absurd c7 (by decide)
      · skip
        refine exf_go 5 (show vp_in (nI n) (al h 40) ∧ (Go (d + 3) true 34 55 [.ref 39, .ref 31, .int (nI n), .ref 44] [.int (rI h 40 ((nI n).toNatClampNeg)), .int (nI n), .ref 40] (uI (uI h 39 4 (tryX g l n)) 39 3 (nI n)) Q) from ⟨(vp_in_nI (by omega) (by omega)), ?_⟩)
        rw [show (rI h 40 ((nI n).toNatClampNeg) : Int32) = nI (cel g l n) from cl_C cs cl (n := n) (by omega)]
        refine exf_go 2 (show Go (d + 3) true 34 59 [.ref 39, .ref 31, .int (nI n), .ref 44] [.int ((nI (cel g l n)) ||| 256), .int (nI n), .ref 40] (uI (uI h 39 4 (tryX g l n)) 39 3 (nI n)) Q from ?_)
        rw [show ((nI (cel g l n)) ||| 256 : Int32) = nI (cel g l n + 256) from by rw [show (256 : Int32) = nI 256 from rfl, nI_or, or_tri _ hcb, if_pos (by rw [cel_tri cs.1 cl.1]; exact hT)]]
        refine exf_go 4 (show vp_in (nI n) (al h 40) ∧ (Go (d + 3) true 34 65 [.ref 39, .ref 31, .int (nI n), .ref 44] [.int (rI h 39 6), .ref 39] (uI (uI (uI h 39 4 (tryX g l n)) 39 3 (nI n)) 40 ((nI n).toNatClampNeg) (nI (cel g l n + 256))) Q) from ⟨(vp_in_nI (by omega) (by omega)), ?_⟩)
        rw [show (rI h 39 6 : Int32) = nI (cntN (fun n => lT l n == 1) (tot g)) from cl_T cl]
        refine exf_go 2 (show Go (d + 3) true 34 67 [.ref 39, .ref 31, .int (nI n), .ref 44] [.int ((nI (cntN (fun n => lT l n == 1) (tot g))) + 1), .ref 39] (uI (uI (uI h 39 4 (tryX g l n)) 39 3 (nI n)) 40 ((nI n).toNatClampNeg) (nI (cel g l n + 256))) Q from ?_)
        rw [show ((nI (cntN (fun n => lT l n == 1) (tot g))) + 1 : Int32) = nI ((cntN (fun n => lT l n == 1) (tot g)) + 1) from nI_add (cntN (fun n => lT l n == 1) (tot g)) 1]
        refine exf_go 4 (show wpC (d + 3) true 40 [.ref 44, .int (nI n)] (uI (uI (uI (uI h 39 4 (tryX g l n)) 39 3 (nI n)) 40 ((nI n).toNatClampNeg) (nI (cel g l n + 256))) 39 6 (nI ((cntN (fun n => lT l n == 1) (tot g)) + 1))) (fun _ h' => Go (d + 3) true 34 75 [.ref 39, .ref 31, .int (nI n), .ref 44] [] h' Q) from ?_)
        refine c_note0 (c := c) mk.2.1.1 hc4 ?_
        show Go (d + 3) true 34 75 [.ref 39, .ref 31, .int (nI n), .ref 44] [] (uI (uI (uI (uI (uI (uI h 39 4 (tryX g l n)) 39 3 (nI n)) 40 ((nI n).toNatClampNeg) (nI (cel g l n + 256))) 39 6 (nI ((cntN (fun n => lT l n == 1) (tot g)) + 1))) 45 ((nI c).toNatClampNeg) (nI n)) 44 1 (nI (c + 1))) Q
        refine exf_go 3 (show Go (d + 3) true 34 80 [.ref 39, .ref 31, .int (nI n), .ref 44] [.int (rI h 31 15), .int (nI n)] (uI (uI (uI (uI (uI (uI h 39 4 (tryX g l n)) 39 3 (nI n)) 40 ((nI n).toNatClampNeg) (nI (cel g l n + 256))) 39 6 (nI ((cntN (fun n => lT l n == 1) (tot g)) + 1))) 45 ((nI c).toNatClampNeg) (nI n)) 44 1 (nI (c + 1))) Q from ?_)
        rw [show (rI h 31 15 : Int32) = oI (sO g) from cs_O cs]
        refine exf_go 1 (show (¬ (nI n) = (oI (sO g)) → Go (d + 3) true 34 89 [.ref 39, .ref 31, .int (nI n), .ref 44] [] (uI (uI (uI (uI (uI (uI h 39 4 (tryX g l n)) 39 3 (nI n)) 40 ((nI n).toNatClampNeg) (nI (cel g l n + 256))) 39 6 (nI ((cntN (fun n => lT l n == 1) (tot g)) + 1))) 45 ((nI c).toNatClampNeg) (nI n)) 44 1 (nI (c + 1))) Q) ∧ (¬ (¬ (nI n) = (oI (sO g))) → Go (d + 3) true 34 83 [.ref 39, .ref 31, .int (nI n), .ref 44] [] (uI (uI (uI (uI (uI (uI h 39 4 (tryX g l n)) 39 3 (nI n)) 40 ((nI n).toNatClampNeg) (nI (cel g l n + 256))) 39 6 (nI ((cntN (fun n => lT l n == 1) (tot g)) + 1))) 45 ((nI c).toNatClampNeg) (nI n)) 44 1 (nI (c + 1))) Q) from ⟨fun c8 => ?_, fun c8 => ?_⟩)
        · skip
          have hso : ¬ sO g = some n := fun q => c8 ((oI_some hob hN.2 hn).mpr q)
          refine exf_go 3 (show Go (d + 3) true 34 94 [.ref 39, .ref 31, .int (nI n), .ref 44] [.int (rI h 39 5), .ref 39] (uI (uI (uI (uI (uI (uI h 39 4 (tryX g l n)) 39 3 (nI n)) 40 ((nI n).toNatClampNeg) (nI (cel g l n + 256))) 39 6 (nI ((cntN (fun n => lT l n == 1) (tot g)) + 1))) 45 ((nI c).toNatClampNeg) (nI n)) 44 1 (nI (c + 1))) Q from ?_)
          rw [show (rI h 39 5 : Int32) = lG l from cl_G cl]
          refine exf_go 5 (show Go (d + 3) true 34 103 [.ref 39, .ref 31, .int (nI n), .ref 44] [.int (rI h 31 10)] (uI (uI (uI (uI (uI (uI (uI h 39 4 (tryX g l n)) 39 3 (nI n)) 40 ((nI n).toNatClampNeg) (nI (cel g l n + 256))) 39 6 (nI ((cntN (fun n => lT l n == 1) (tot g)) + 1))) 45 ((nI c).toNatClampNeg) (nI n)) 44 1 (nI (c + 1))) 39 5 ((lG l) + 1)) Q from ?_)
          rw [show (rI h 31 10 : Int32) = nI (sBA g) from cs_BA cs]
          refine exf_go 1 (show ((nI (sBA g)) ≤ 0 → Go (d + 3) true 34 135 [.ref 39, .ref 31, .int (nI n), .ref 44] [] (uI (uI (uI (uI (uI (uI (uI h 39 4 (tryX g l n)) 39 3 (nI n)) 40 ((nI n).toNatClampNeg) (nI (cel g l n + 256))) 39 6 (nI ((cntN (fun n => lT l n == 1) (tot g)) + 1))) 45 ((nI c).toNatClampNeg) (nI n)) 44 1 (nI (c + 1))) 39 5 ((lG l) + 1)) Q) ∧ (¬ ((nI (sBA g)) ≤ 0) → Go (d + 3) true 34 106 [.ref 39, .ref 31, .int (nI n), .ref 44] [] (uI (uI (uI (uI (uI (uI (uI h 39 4 (tryX g l n)) 39 3 (nI n)) 40 ((nI n).toNatClampNeg) (nI (cel g l n + 256))) 39 6 (nI ((cntN (fun n => lT l n == 1) (tot g)) + 1))) 45 ((nI c).toNatClampNeg) (nI n)) 44 1 (nI (c + 1))) 39 5 ((lG l) + 1)) Q) from ⟨fun c9 => ?_, fun c9 => ?_⟩)
          · skip
            have c9 : (sBA g) ≤ 0 := (nI_leI (a := (sBA g)) (b := 0) (by omega) (by omega)).mp c9
            have htl : tryL g l n = (n, tryX g l n, lG l + 1, lO l, lF l, va_up (lT l) n 1) := by unfold tryL; rw [if_neg hso, if_neg (fun q => by omega)]
            refine exf_go 1 (show Q (mk_) (uI (uI (uI (uI (uI (uI (uI h 39 4 (tryX g l n)) 39 3 (nI n)) 40 ((nI n).toNatClampNeg) (nI (cel g l n + 256))) 39 6 (nI ((cntN (fun n => lT l n == 1) (tot g)) + 1))) 45 ((nI c).toNatClampNeg) (nI n)) 44 1 (nI (c + 1))) 39 5 ((lG l) + 1)) from ?_)
            refine k _ (c + 1) (by omega) (Fq.uI' (Fq.uI' (Fq.uI' (Fq.uI' (Fq.uI' (Fq.uI' (Fq.uI' Fq.rfl' _ _ _ rfl) _ _ _ rfl) _ _ _ rfl) _ _ _ rfl) _ _ _ rfl) _ _ _ rfl) _ _ _ rfl) (cl_try cs.1 cl hn (LkW_try cl.1 hn) (tryL_F g l n) (tryL_T g l n) rfl (by rw [htl]; rfl) (by rw [htl]; rfl) (by rw [htl]; first | rfl | exact hf5) (by rw [htl]; first | rfl | exact hf7) (by rw [if_neg (by omega)]; rfl) rfl (fun m hm q => by show rI (uI h 40 (nI n).toNatClampNeg (nI (cel g l n + 256))) 40 m = rI h 40 m; rw [nI_clamp (by omega), rI_uI_at q]) (by show rI (uI h 40 (nI n).toNatClampNeg (nI (cel g l n + 256))) 40 n = _; rw [nI_clamp (by omega), rI_uI_eq, if_neg (by omega)]) rfl) (mk_new mk hn hc4 (tryL_T g l n) hT (fun j q => by show rI (uI h 44 1 (nI (c + 1))) 44 j = _; exact rI_uI_at q) rfl (fun j q => by show rI (uI h 45 (nI c).toNatClampNeg (nI n)) 45 j = _; rw [nI_clamp (by omega), rI_uI_at q]) (by show rI (uI h 45 (nI c).toNatClampNeg (nI n)) 45 c = _; rw [nI_clamp (by omega), rI_uI_eq]) rfl)
          · skip
            have c9 : ¬ (sBA g) ≤ 0 := fun q => c9 ((nI_leI (a := (sBA g)) (b := 0) (by omega) (by omega)).mpr q)
            refine exf_go 4 (show Go (d + 3) true 34 114 [.ref 39, .ref 31, .int (nI n), .ref 44] [.int (rI h 31 10), .int ((lG l) + 1)] (uI (uI (uI (uI (uI (uI (uI h 39 4 (tryX g l n)) 39 3 (nI n)) 40 ((nI n).toNatClampNeg) (nI (cel g l n + 256))) 39 6 (nI ((cntN (fun n => lT l n == 1) (tot g)) + 1))) 45 ((nI c).toNatClampNeg) (nI n)) 44 1 (nI (c + 1))) 39 5 ((lG l) + 1)) Q from ?_)
            rw [show (rI h 31 10 : Int32) = nI (sBA g) from cs_BA cs]
            refine exf_go 1 (show (((lG l) + 1) < (nI (sBA g)) → Go (d + 3) true 34 135 [.ref 39, .ref 31, .int (nI n), .ref 44] [] (uI (uI (uI (uI (uI (uI (uI h 39 4 (tryX g l n)) 39 3 (nI n)) 40 ((nI n).toNatClampNeg) (nI (cel g l n + 256))) 39 6 (nI ((cntN (fun n => lT l n == 1) (tot g)) + 1))) 45 ((nI c).toNatClampNeg) (nI n)) 44 1 (nI (c + 1))) 39 5 ((lG l) + 1)) Q) ∧ (¬ (((lG l) + 1) < (nI (sBA g))) → Go (d + 3) true 34 117 [.ref 39, .ref 31, .int (nI n), .ref 44] [] (uI (uI (uI (uI (uI (uI (uI h 39 4 (tryX g l n)) 39 3 (nI n)) 40 ((nI n).toNatClampNeg) (nI (cel g l n + 256))) 39 6 (nI ((cntN (fun n => lT l n == 1) (tot g)) + 1))) 45 ((nI c).toNatClampNeg) (nI n)) 44 1 (nI (c + 1))) 39 5 ((lG l) + 1)) Q) from ⟨fun c10 => ?_, fun c10 => ?_⟩)
            · skip
              have htl : tryL g l n = (n, tryX g l n, lG l + 1, lO l, lF l, va_up (lT l) n 1) := by unfold tryL; rw [if_neg hso, if_neg (fun q => Int32.not_le.mpr c10 q.2)]
              refine exf_go 1 (show Q (mk_) (uI (uI (uI (uI (uI (uI (uI h 39 4 (tryX g l n)) 39 3 (nI n)) 40 ((nI n).toNatClampNeg) (nI (cel g l n + 256))) 39 6 (nI ((cntN (fun n => lT l n == 1) (tot g)) + 1))) 45 ((nI c).toNatClampNeg) (nI n)) 44 1 (nI (c + 1))) 39 5 ((lG l) + 1)) from ?_)
              refine k _ (c + 1) (by omega) (Fq.uI' (Fq.uI' (Fq.uI' (Fq.uI' (Fq.uI' (Fq.uI' (Fq.uI' Fq.rfl' _ _ _ rfl) _ _ _ rfl) _ _ _ rfl) _ _ _ rfl) _ _ _ rfl) _ _ _ rfl) _ _ _ rfl) (cl_try cs.1 cl hn (LkW_try cl.1 hn) (tryL_F g l n) (tryL_T g l n) rfl (by rw [htl]; rfl) (by rw [htl]; rfl) (by rw [htl]; first | rfl | exact hf5) (by rw [htl]; first | rfl | exact hf7) (by rw [if_neg (by omega)]; rfl) rfl (fun m hm q => by show rI (uI h 40 (nI n).toNatClampNeg (nI (cel g l n + 256))) 40 m = rI h 40 m; rw [nI_clamp (by omega), rI_uI_at q]) (by show rI (uI h 40 (nI n).toNatClampNeg (nI (cel g l n + 256))) 40 n = _; rw [nI_clamp (by omega), rI_uI_eq, if_neg (by omega)]) rfl) (mk_new mk hn hc4 (tryL_T g l n) hT (fun j q => by show rI (uI h 44 1 (nI (c + 1))) 44 j = _; exact rI_uI_at q) rfl (fun j q => by show rI (uI h 45 (nI c).toNatClampNeg (nI n)) 45 j = _; rw [nI_clamp (by omega), rI_uI_at q]) (by show rI (uI h 45 (nI c).toNatClampNeg (nI n)) 45 c = _; rw [nI_clamp (by omega), rI_uI_eq]) rfl)
            · skip
              have htl : tryL g l n = (n, tryX g l n + nI (sBS g), 0, lO l, lF l, va_up (lT l) n 1) := by unfold tryL; rw [if_neg hso, if_pos ⟨by omega, Int32.not_lt.mp c10⟩]
              refine exf_go 8 (show Go (d + 3) true 34 131 [.ref 39, .ref 31, .int (nI n), .ref 44] [.int (rI h 31 11), .int (tryX g l n), .ref 39] (uI (uI (uI (uI (uI (uI (uI (uI h 39 4 (tryX g l n)) 39 3 (nI n)) 40 ((nI n).toNatClampNeg) (nI (cel g l n + 256))) 39 6 (nI ((cntN (fun n => lT l n == 1) (tot g)) + 1))) 45 ((nI c).toNatClampNeg) (nI n)) 44 1 (nI (c + 1))) 39 5 ((lG l) + 1)) 39 5 0) Q from ?_)
              rw [show (rI h 31 11 : Int32) = nI (sBS g) from cs_BS cs]
              refine exf_go 3 (show Q (mk_) (uI (uI (uI (uI (uI (uI (uI (uI (uI h 39 4 (tryX g l n)) 39 3 (nI n)) 40 ((nI n).toNatClampNeg) (nI (cel g l n + 256))) 39 6 (nI ((cntN (fun n => lT l n == 1) (tot g)) + 1))) 45 ((nI c).toNatClampNeg) (nI n)) 44 1 (nI (c + 1))) 39 5 ((lG l) + 1)) 39 5 0) 39 4 ((tryX g l n) + (nI (sBS g)))) from ?_)
              refine k _ (c + 1) (by omega) (Fq.uI' (Fq.uI' (Fq.uI' (Fq.uI' (Fq.uI' (Fq.uI' (Fq.uI' (Fq.uI' (Fq.uI' Fq.rfl' _ _ _ rfl) _ _ _ rfl) _ _ _ rfl) _ _ _ rfl) _ _ _ rfl) _ _ _ rfl) _ _ _ rfl) _ _ _ rfl) _ _ _ rfl) (cl_try cs.1 cl hn (LkW_try cl.1 hn) (tryL_F g l n) (tryL_T g l n) rfl (by rw [htl]; rfl) (by rw [htl]; rfl) (by rw [htl]; first | rfl | exact hf5) (by rw [htl]; first | rfl | exact hf7) (by rw [if_neg (by omega)]; rfl) rfl (fun m hm q => by show rI (uI h 40 (nI n).toNatClampNeg (nI (cel g l n + 256))) 40 m = rI h 40 m; rw [nI_clamp (by omega), rI_uI_at q]) (by show rI (uI h 40 (nI n).toNatClampNeg (nI (cel g l n + 256))) 40 n = _; rw [nI_clamp (by omega), rI_uI_eq, if_neg (by omega)]) rfl) (mk_new mk hn hc4 (tryL_T g l n) hT (fun j q => by show rI (uI h 44 1 (nI (c + 1))) 44 j = _; exact rI_uI_at q) rfl (fun j q => by show rI (uI h 45 (nI c).toNatClampNeg (nI n)) 45 j = _; rw [nI_clamp (by omega), rI_uI_at q]) (by show rI (uI h 45 (nI c).toNatClampNeg (nI n)) 45 c = _; rw [nI_clamp (by omega), rI_uI_eq]) rfl)
        · skip
          have hso : sO g = some n := (oI_some hob hN.2 hn).mp (Classical.not_not.mp c8)
          have htl : tryL g l n = (n, tryX g l n, lG l, 1, lF l, va_up (lT l) n 1) := by unfold tryL; rw [if_pos hso]
          refine exf_go 4 (show ((1 : Int32) = 0 ∨ (1 : Int32) = 1) ∧ Q (mk_) (uI (uI (uI (uI (uI (uI (uI h 39 4 (tryX g l n)) 39 3 (nI n)) 40 ((nI n).toNatClampNeg) (nI (cel g l n + 256))) 39 6 (nI ((cntN (fun n => lT l n == 1) (tot g)) + 1))) 45 ((nI c).toNatClampNeg) (nI n)) 44 1 (nI (c + 1))) 39 7 1) from ⟨(by first | exact Or.inl rfl | exact Or.inr rfl | assumption), ?_⟩)
          refine k _ (c + 1) (by omega) (Fq.uI' (Fq.uI' (Fq.uI' (Fq.uI' (Fq.uI' (Fq.uI' (Fq.uI' Fq.rfl' _ _ _ rfl) _ _ _ rfl) _ _ _ rfl) _ _ _ rfl) _ _ _ rfl) _ _ _ rfl) _ _ _ rfl) (cl_try cs.1 cl hn (LkW_try cl.1 hn) (tryL_F g l n) (tryL_T g l n) rfl (by rw [htl]; rfl) (by rw [htl]; rfl) (by rw [htl]; first | rfl | exact hf5) (by rw [htl]; first | rfl | exact hf7) (by rw [if_neg (by omega)]; rfl) rfl (fun m hm q => by show rI (uI h 40 (nI n).toNatClampNeg (nI (cel g l n + 256))) 40 m = rI h 40 m; rw [nI_clamp (by omega), rI_uI_at q]) (by show rI (uI h 40 (nI n).toNatClampNeg (nI (cel g l n + 256))) 40 n = _; rw [nI_clamp (by omega), rI_uI_eq, if_neg (by omega)]) rfl) (mk_new mk hn hc4 (tryL_T g l n) hT (fun j q => by show rI (uI h 44 1 (nI (c + 1))) 44 j = _; exact rI_uI_at q) rfl (fun j q => by show rI (uI h 45 (nI c).toNatClampNeg (nI n)) 45 j = _; rw [nI_clamp (by omega), rI_uI_at q]) (by show rI (uI h 45 (nI c).toNatClampNeg (nI n)) 45 c = _; rw [nI_clamp (by omega), rI_uI_eq]) rfl)
  · skip
    exact absurd (by decide) c1
theorem c_note1 {d : Nat} {h : Hp} {n c : Nat} {Q : Po} (hc : rI h 47 1 = nI c) (hc4 : c < 40) (k : Q mk_ (uI (uI h 48 (nI c).toNatClampNeg (nI n)) 47 1 (nI (c + 1)))) : wpC (d + 1) true 40 [.ref 47, .int (nI n)] h Q := by
  refine go_in rfl ?_
  refine exf_go 2 (show Go d true 40 4 [.ref 47, .int (nI n)] [.int (rI h 47 1)] h Q from ?_)
  rw [show (rI h 47 1 : Int32) = nI c from hc]
  refine exf_go 2 (show (40 ≤ (nI c) → Go d true 40 29 [.ref 47, .int (nI n)] [] h Q) ∧ (¬ (40 ≤ (nI c)) → Go d true 40 9 [.ref 47, .int (nI n)] [] h Q) from ⟨fun c1 => ?_, fun c1 => ?_⟩)
  · skip
    have c1 : 40 ≤ c := (nI_leI (a := 40) (b := c) (by omega) (by omega)).mp c1
    refine exf_go 1 (show Q (mk_) h from ?_)
    first | (exfalso; omega) | exact k
  · skip
    have c1 : ¬ 40 ≤ c := fun q => c1 ((nI_leI (a := 40) (b := c) (by omega) (by omega)).mpr q)
    refine exf_go 4 (show Go d true 40 17 [.ref 47, .int (nI n)] [.int (rI h 47 1), .ref 48] h Q from ?_)
    rw [show (rI h 47 1 : Int32) = nI c from hc]
    refine exf_go 5 (show vp_in (nI c) 40 ∧ (Go d true 40 24 [.ref 47, .int (nI n)] [.int (rI h 47 1), .ref 47] (uI h 48 ((nI c).toNatClampNeg) (nI n)) Q) from ⟨(vp_in_nI (by omega) (by omega)), ?_⟩)
    rw [show (rI h 47 1 : Int32) = nI c from hc]
    refine exf_go 2 (show Go d true 40 26 [.ref 47, .int (nI n)] [.int ((nI c) + 1), .ref 47] (uI h 48 ((nI c).toNatClampNeg) (nI n)) Q from ?_)
    rw [show ((nI c) + 1 : Int32) = nI (c + 1) from nI_add c 1]
    refine exf_go 2 (show Q (mk_) (uI (uI h 48 ((nI c).toNatClampNeg) (nI n)) 47 1 (nI (c + 1))) from ?_)
    first | (exfalso; omega) | exact k
theorem c_att1 {d : Nat} {h : Hp} {g : ShG} {l l0 : LkG} {n c : Nat} {Q : Po} (cs : CS 31 g h) (cl : CL 39 g l h) (mk : CMK g 1 l0 l c h) (hn : n < tot g) (hc4 : c < 40) (k : ∀ h1 c1, c1 ≤ c + 1 → Fq (sLm 1) h h1 → CL 39 g (tryL g l n) h1 → CMK g 1 l0 (tryL g l n) c1 h1 → Q mk_ h1) : wpC (d + 4) true 34 [.ref 39, .ref 31, .int (nI n), .ref 47] h Q := by
  have hN := tot_b cs.1
  have hA := cl.1.1
  have hf5 := cl_G cl; have hf7 := cl_O cl; have hf6 := cl_T cl; have hfn := cl_Cl cl n hn
  have hcb := cel_b cs.1 cl.1 n
  have hal := cl_al cl
  simp only [Nat.reduceAdd] at hal
  have hob := cs.1.2.2.2.2.2.2.2.2.2.2.2.1
  have hb9 := cs.1.2.2.2.2.2.2.2.2.1
  have hs9 := cs.1.2.2.2.2.2.2.2.2.2.1
  have hcn := cntN_le (fun m => lT l m == 1) (tot g)
  have hp6 := cs.1.2.2.2.2.2.2.2.1
  refine go_in rfl ?_
  refine exf_go 3 (show wpC (d + 3) true 32 [.ref 39, .int (nI n)] h (fun r h' => Go (d + 3) true 34 5 [.ref 39, .ref 31, .int (nI n), .ref 47] [r] h' Q) from ?_)
  refine c_isCell cs cl (by omega) ?_
  show Go (d + 3) true 34 5 [.ref 39, .ref 31, .int (nI n), .ref 47] [.int 1] h Q
  refine exf_go 1 (show (¬ (1 : Int32) = 0 → Go (d + 3) true 34 9 [.ref 39, .ref 31, .int (nI n), .ref 47] [] h Q) ∧ (¬ (¬ (1 : Int32) = 0) → Go (d + 3) true 34 8 [.ref 39, .ref 31, .int (nI n), .ref 47] [] h Q) from ⟨fun c1 => ?_, fun c1 => ?_⟩)
  · skip
    refine exf_go 3 (show Go (d + 3) true 34 14 [.ref 39, .ref 31, .int (nI n), .ref 47] [.int (rI h 39 4), .ref 39] h Q from ?_)
    rw [show (rI h 39 4 : Int32) = lX l from cl_X cl]
    refine exf_go 3 (show Go (d + 3) true 34 19 [.ref 39, .ref 31, .int (nI n), .ref 47] [.int (rI h 39 3), .ref 31, .int (lX l), .ref 39] h Q from ?_)
    rw [show (rI h 39 3 : Int32) = nI (lA l) from cl_A cl]
    refine exf_go 2 (show wpC (d + 3) true 83 [.ref 31, .int (nI (lA l)), .int (nI n)] h (fun r h' => Go (d + 3) true 34 23 [.ref 39, .ref 31, .int (nI n), .ref 47] [r, .int (lX l), .ref 39] h' Q) from ?_)
    refine c_turns cs (n := lA l) (m := n) (by omega) (by omega) ?_
    have htr := trn_b cs.1 (lA l) n
    show Go (d + 3) true 34 23 [.ref 39, .ref 31, .int (nI n), .ref 47] [.int (nI (trn g (lA l) n)), .int (lX l), .ref 39] h Q
    refine exf_go 2 (show Go (d + 3) true 34 27 [.ref 39, .ref 31, .int (nI n), .ref 47] [.int (rI h 31 9), .int (nI (trn g (lA l) n)), .int (lX l), .ref 39] h Q from ?_)
    rw [show (rI h 31 9 : Int32) = nI (sP g) from cs_P cs]
    refine exf_go 1 (show Go (d + 3) true 34 28 [.ref 39, .ref 31, .int (nI n), .ref 47] [.int ((nI (trn g (lA l) n)) + (nI (sP g))), .int (lX l), .ref 39] h Q from ?_)
    rw [show ((nI (trn g (lA l) n)) + (nI (sP g)) : Int32) = nI ((trn g (lA l) n) + (sP g)) from nI_add (trn g (lA l) n) (sP g)]
    refine exf_go 1 (show Go (d + 3) true 34 29 [.ref 39, .ref 31, .int (nI n), .ref 47] [.int ((lX l) + (nI ((trn g (lA l) n) + (sP g)))), .ref 39] h Q from ?_)
    rw [show ((lX l) + (nI ((trn g (lA l) n) + (sP g))) : Int32) = tryX g l n from rfl]
    refine exf_go 8 (show wpC (d + 3) true 30 [.ref 39, .int (nI n), .int 256] (uI (uI h 39 4 (tryX g l n)) 39 3 (nI n)) (fun r h' => Go (d + 3) true 34 45 [.ref 39, .ref 31, .int (nI n), .ref 47] [r] h' Q) from ?_)
    have cl1 := cl_mv cl hn (tryX g l n)
    have cs1 := cs_39 (cs_39 cs 4 (tryX g l n)) 3 (nI n)
    have e1 : cel g (n, tryX g l n, lG l, lO l, lF l, lT l) n = cel g l n := cel_cg rfl rfl
    refine c_hasMark cs1 cl1 hn (fun b2 => ?_) (fun b2 => ?_)
    · skip
      have hT : lT l n = 1 := by have h9 := cl.1.2.2.1 n; have h7 : ¬ lT l n = 0 := fun q => b2 (by rw [e1]; exact (tri_0 cs.1 cl.1).mpr q); omega
      show Go (d + 3) true 34 45 [.ref 39, .ref 31, .int (nI n), .ref 47] [.int 1] (uI (uI h 39 4 (tryX g l n)) 39 3 (nI n)) Q
      refine exf_go 1 (show (¬ (1 : Int32) = 0 → Go (d + 3) true 34 75 [.ref 39, .ref 31, .int (nI n), .ref 47] [] (uI (uI h 39 4 (tryX g l n)) 39 3 (nI n)) Q) ∧ (¬ (¬ (1 : Int32) = 0) → Go (d + 3) true 34 48 [.ref 39, .ref 31, .int (nI n), .ref 47] [] (uI (uI h 39 4 (tryX g l n)) 39 3 (nI n)) Q) from ⟨fun c3 => ?_, fun c3 => ?_⟩)
      · skip
        refine exf_go 3 (show Go (d + 3) true 34 80 [.ref 39, .ref 31, .int (nI n), .ref 47] [.int (rI h 31 15), .int (nI n)] (uI (uI h 39 4 (tryX g l n)) 39 3 (nI n)) Q from ?_)
        rw [show (rI h 31 15 : Int32) = oI (sO g) from cs_O cs]
        refine exf_go 1 (show (¬ (nI n) = (oI (sO g)) → Go (d + 3) true 34 89 [.ref 39, .ref 31, .int (nI n), .ref 47] [] (uI (uI h 39 4 (tryX g l n)) 39 3 (nI n)) Q) ∧ (¬ (¬ (nI n) = (oI (sO g))) → Go (d + 3) true 34 83 [.ref 39, .ref 31, .int (nI n), .ref 47] [] (uI (uI h 39 4 (tryX g l n)) 39 3 (nI n)) Q) from ⟨fun c4 => ?_, fun c4 => ?_⟩)
        · skip
          have hso : ¬ sO g = some n := fun q => c4 ((oI_some hob hN.2 hn).mpr q)
          refine exf_go 3 (show Go (d + 3) true 34 94 [.ref 39, .ref 31, .int (nI n), .ref 47] [.int (rI h 39 5), .ref 39] (uI (uI h 39 4 (tryX g l n)) 39 3 (nI n)) Q from ?_)
          rw [show (rI h 39 5 : Int32) = lG l from cl_G cl]
          refine exf_go 5 (show Go (d + 3) true 34 103 [.ref 39, .ref 31, .int (nI n), .ref 47] [.int (rI h 31 10)] (uI (uI (uI h 39 4 (tryX g l n)) 39 3 (nI n)) 39 5 ((lG l) + 1)) Q from ?_)
          rw [show (rI h 31 10 : Int32) = nI (sBA g) from cs_BA cs]
          refine exf_go 1 (show ((nI (sBA g)) ≤ 0 → Go (d + 3) true 34 135 [.ref 39, .ref 31, .int (nI n), .ref 47] [] (uI (uI (uI h 39 4 (tryX g l n)) 39 3 (nI n)) 39 5 ((lG l) + 1)) Q) ∧ (¬ ((nI (sBA g)) ≤ 0) → Go (d + 3) true 34 106 [.ref 39, .ref 31, .int (nI n), .ref 47] [] (uI (uI (uI h 39 4 (tryX g l n)) 39 3 (nI n)) 39 5 ((lG l) + 1)) Q) from ⟨fun c5 => ?_, fun c5 => ?_⟩)
          · skip
            have c5 : (sBA g) ≤ 0 := (nI_leI (a := (sBA g)) (b := 0) (by omega) (by omega)).mp c5
            have htl : tryL g l n = (n, tryX g l n, lG l + 1, lO l, lF l, va_up (lT l) n 1) := by unfold tryL; rw [if_neg hso, if_neg (fun q => by omega)]
            refine exf_go 1 (show Q (mk_) (uI (uI (uI h 39 4 (tryX g l n)) 39 3 (nI n)) 39 5 ((lG l) + 1)) from ?_)
            refine k _ c (by omega) (Fq.uI' (Fq.uI' (Fq.uI' Fq.rfl' _ _ _ rfl) _ _ _ rfl) _ _ _ rfl) (cl_try cs.1 cl hn (LkW_try cl.1 hn) (tryL_F g l n) (tryL_T g l n) rfl (by rw [htl]; rfl) (by rw [htl]; rfl) (by rw [htl]; first | rfl | exact hf5) (by rw [htl]; first | rfl | exact hf7) (by rw [if_pos hT]; exact hf6) rfl (fun m hm q => rfl) (by rw [if_pos hT]; exact hfn) rfl) (mk_old (mk_fq mk rfl rfl rfl) (tryL_T g l n) hT)
          · skip
            have c5 : ¬ (sBA g) ≤ 0 := fun q => c5 ((nI_leI (a := (sBA g)) (b := 0) (by omega) (by omega)).mpr q)
            refine exf_go 4 (show Go (d + 3) true 34 114 [.ref 39, .ref 31, .int (nI n), .ref 47] [.int (rI h 31 10), .int ((lG l) + 1)] (uI (uI (uI h 39 4 (tryX g l n)) 39 3 (nI n)) 39 5 ((lG l) + 1)) Q from ?_)
            rw [show (rI h 31 10 : Int32) = nI (sBA g) from cs_BA cs]
            refine exf_go 1 (show (((lG l) + 1) < (nI (sBA g)) → Go (d + 3) true 34 135 [.ref 39, .ref 31, .int (nI n), .ref 47] [] (uI (uI (uI h 39 4 (tryX g l n)) 39 3 (nI n)) 39 5 ((lG l) + 1)) Q) ∧ (¬ (((lG l) + 1) < (nI (sBA g))) → Go (d + 3) true 34 117 [.ref 39, .ref 31, .int (nI n), .ref 47] [] (uI (uI (uI h 39 4 (tryX g l n)) 39 3 (nI n)) 39 5 ((lG l) + 1)) Q) from ⟨fun c6 => ?_, fun c6 => ?_⟩)
            · skip
              have htl : tryL g l n = (n, tryX g l n, lG l + 1, lO l, lF l, va_up (lT l) n 1) := by unfold tryL; rw [if_neg hso, if_neg (fun q => Int32.not_le.mpr c6 q.2)]
              refine exf_go 1 (show Q (mk_) (uI (uI (uI h 39 4 (tryX g l n)) 39 3 (nI n)) 39 5 ((lG l) + 1)) from ?_)
              refine k _ c (by omega) (Fq.uI' (Fq.uI' (Fq.uI' Fq.rfl' _ _ _ rfl) _ _ _ rfl) _ _ _ rfl) (cl_try cs.1 cl hn (LkW_try cl.1 hn) (tryL_F g l n) (tryL_T g l n) rfl (by rw [htl]; rfl) (by rw [htl]; rfl) (by rw [htl]; first | rfl | exact hf5) (by rw [htl]; first | rfl | exact hf7) (by rw [if_pos hT]; exact hf6) rfl (fun m hm q => rfl) (by rw [if_pos hT]; exact hfn) rfl) (mk_old (mk_fq mk rfl rfl rfl) (tryL_T g l n) hT)
            · skip
              have htl : tryL g l n = (n, tryX g l n + nI (sBS g), 0, lO l, lF l, va_up (lT l) n 1) := by unfold tryL; rw [if_neg hso, if_pos ⟨by omega, Int32.not_lt.mp c6⟩]
              refine exf_go 8 (show Go (d + 3) true 34 131 [.ref 39, .ref 31, .int (nI n), .ref 47] [.int (rI h 31 11), .int (tryX g l n), .ref 39] (uI (uI (uI (uI h 39 4 (tryX g l n)) 39 3 (nI n)) 39 5 ((lG l) + 1)) 39 5 0) Q from ?_)
              rw [show (rI h 31 11 : Int32) = nI (sBS g) from cs_BS cs]
              refine exf_go 3 (show Q (mk_) (uI (uI (uI (uI (uI h 39 4 (tryX g l n)) 39 3 (nI n)) 39 5 ((lG l) + 1)) 39 5 0) 39 4 ((tryX g l n) + (nI (sBS g)))) from ?_)
              refine k _ c (by omega) (Fq.uI' (Fq.uI' (Fq.uI' (Fq.uI' (Fq.uI' Fq.rfl' _ _ _ rfl) _ _ _ rfl) _ _ _ rfl) _ _ _ rfl) _ _ _ rfl) (cl_try cs.1 cl hn (LkW_try cl.1 hn) (tryL_F g l n) (tryL_T g l n) rfl (by rw [htl]; rfl) (by rw [htl]; rfl) (by rw [htl]; first | rfl | exact hf5) (by rw [htl]; first | rfl | exact hf7) (by rw [if_pos hT]; exact hf6) rfl (fun m hm q => rfl) (by rw [if_pos hT]; exact hfn) rfl) (mk_old (mk_fq mk rfl rfl rfl) (tryL_T g l n) hT)
        · skip
          have hso : sO g = some n := (oI_some hob hN.2 hn).mp (Classical.not_not.mp c4)
          have htl : tryL g l n = (n, tryX g l n, lG l, 1, lF l, va_up (lT l) n 1) := by unfold tryL; rw [if_pos hso]
          refine exf_go 4 (show ((1 : Int32) = 0 ∨ (1 : Int32) = 1) ∧ Q (mk_) (uI (uI (uI h 39 4 (tryX g l n)) 39 3 (nI n)) 39 7 1) from ⟨(by first | exact Or.inl rfl | exact Or.inr rfl | assumption), ?_⟩)
          refine k _ c (by omega) (Fq.uI' (Fq.uI' (Fq.uI' Fq.rfl' _ _ _ rfl) _ _ _ rfl) _ _ _ rfl) (cl_try cs.1 cl hn (LkW_try cl.1 hn) (tryL_F g l n) (tryL_T g l n) rfl (by rw [htl]; rfl) (by rw [htl]; rfl) (by rw [htl]; first | rfl | exact hf5) (by rw [htl]; first | rfl | exact hf7) (by rw [if_pos hT]; exact hf6) rfl (fun m hm q => rfl) (by rw [if_pos hT]; exact hfn) rfl) (mk_old (mk_fq mk rfl rfl rfl) (tryL_T g l n) hT)
      · skip
        exact absurd (by decide) c3
    · skip
      have hT : lT l n = 0 := (tri_0 cs.1 cl.1).mp (e1 ▸ b2)
      show Go (d + 3) true 34 45 [.ref 39, .ref 31, .int (nI n), .ref 47] [.int 0] (uI (uI h 39 4 (tryX g l n)) 39 3 (nI n)) Q
      refine exf_go 1 (show (¬ (0 : Int32) = 0 → Go (d + 3) true 34 75 [.ref 39, .ref 31, .int (nI n), .ref 47] [] (uI (uI h 39 4 (tryX g l n)) 39 3 (nI n)) Q) ∧ (¬ (¬ (0 : Int32) = 0) → Go (d + 3) true 34 48 [.ref 39, .ref 31, .int (nI n), .ref 47] [] (uI (uI h 39 4 (tryX g l n)) 39 3 (nI n)) Q) from ⟨fun c7 => ?_, fun c7 => ?_⟩)
      · skip
        exact absurd c7 (by decide)
      · skip
        refine exf_go 5 (show vp_in (nI n) (al h 40) ∧ (Go (d + 3) true 34 55 [.ref 39, .ref 31, .int (nI n), .ref 47] [.int (rI h 40 ((nI n).toNatClampNeg)), .int (nI n), .ref 40] (uI (uI h 39 4 (tryX g l n)) 39 3 (nI n)) Q) from ⟨(vp_in_nI (by omega) (by omega)), ?_⟩)
        rw [show (rI h 40 ((nI n).toNatClampNeg) : Int32) = nI (cel g l n) from cl_C cs cl (n := n) (by omega)]
        refine exf_go 2 (show Go (d + 3) true 34 59 [.ref 39, .ref 31, .int (nI n), .ref 47] [.int ((nI (cel g l n)) ||| 256), .int (nI n), .ref 40] (uI (uI h 39 4 (tryX g l n)) 39 3 (nI n)) Q from ?_)
        rw [show ((nI (cel g l n)) ||| 256 : Int32) = nI (cel g l n + 256) from by rw [show (256 : Int32) = nI 256 from rfl, nI_or, or_tri _ hcb, if_pos (by rw [cel_tri cs.1 cl.1]; exact hT)]]
        refine exf_go 4 (show vp_in (nI n) (al h 40) ∧ (Go (d + 3) true 34 65 [.ref 39, .ref 31, .int (nI n), .ref 47] [.int (rI h 39 6), .ref 39] (uI (uI (uI h 39 4 (tryX g l n)) 39 3 (nI n)) 40 ((nI n).toNatClampNeg) (nI (cel g l n + 256))) Q) from ⟨(vp_in_nI (by omega) (by omega)), ?_⟩)
        rw [show (rI h 39 6 : Int32) = nI (cntN (fun n => lT l n == 1) (tot g)) from cl_T cl]
        refine exf_go 2 (show Go (d + 3) true 34 67 [.ref 39, .ref 31, .int (nI n), .ref 47] [.int ((nI (cntN (fun n => lT l n == 1) (tot g))) + 1), .ref 39] (uI (uI (uI h 39 4 (tryX g l n)) 39 3 (nI n)) 40 ((nI n).toNatClampNeg) (nI (cel g l n + 256))) Q from ?_)
        rw [show ((nI (cntN (fun n => lT l n == 1) (tot g))) + 1 : Int32) = nI ((cntN (fun n => lT l n == 1) (tot g)) + 1) from nI_add (cntN (fun n => lT l n == 1) (tot g)) 1]
        refine exf_go 4 (show wpC (d + 3) true 40 [.ref 47, .int (nI n)] (uI (uI (uI (uI h 39 4 (tryX g l n)) 39 3 (nI n)) 40 ((nI n).toNatClampNeg) (nI (cel g l n + 256))) 39 6 (nI ((cntN (fun n => lT l n == 1) (tot g)) + 1))) (fun _ h' => Go (d + 3) true 34 75 [.ref 39, .ref 31, .int (nI n), .ref 47] [] h' Q) from ?_)
        refine c_note1 (c := c) mk.2.1.1 hc4 ?_
        show Go (d + 3) true 34 75 [.ref 39, .ref 31, .int (nI n), .ref 47] [] (uI (uI (uI (uI (uI (uI h 39 4 (tryX g l n)) 39 3 (nI n)) 40 ((nI n).toNatClampNeg) (nI (cel g l n + 256))) 39 6 (nI ((cntN (fun n => lT l n == 1) (tot g)) + 1))) 48 ((nI c).toNatClampNeg) (nI n)) 47 1 (nI (c + 1))) Q
        refine exf_go 3 (show Go (d + 3) true 34 80 [.ref 39, .ref 31, .int (nI n), .ref 47] [.int (rI h 31 15), .int (nI n)] (uI (uI (uI (uI (uI (uI h 39 4 (tryX g l n)) 39 3 (nI n)) 40 ((nI n).toNatClampNeg) (nI (cel g l n + 256))) 39 6 (nI ((cntN (fun n => lT l n == 1) (tot g)) + 1))) 48 ((nI c).toNatClampNeg) (nI n)) 47 1 (nI (c + 1))) Q from ?_)
        rw [show (rI h 31 15 : Int32) = oI (sO g) from cs_O cs]
        refine exf_go 1 (show (¬ (nI n) = (oI (sO g)) → Go (d + 3) true 34 89 [.ref 39, .ref 31, .int (nI n), .ref 47] [] (uI (uI (uI (uI (uI (uI h 39 4 (tryX g l n)) 39 3 (nI n)) 40 ((nI n).toNatClampNeg) (nI (cel g l n + 256))) 39 6 (nI ((cntN (fun n => lT l n == 1) (tot g)) + 1))) 48 ((nI c).toNatClampNeg) (nI n)) 47 1 (nI (c + 1))) Q) ∧ (¬ (¬ (nI n) = (oI (sO g))) → Go (d + 3) true 34 83 [.ref 39, .ref 31, .int (nI n), .ref 47] [] (uI (uI (uI (uI (uI (uI h 39 4 (tryX g l n)) 39 3 (nI n)) 40 ((nI n).toNatClampNeg) (nI (cel g l n + 256))) 39 6 (nI ((cntN (fun n => lT l n == 1) (tot g)) + 1))) 48 ((nI c).toNatClampNeg) (nI n)) 47 1 (nI (c + 1))) Q) from ⟨fun c8 => ?_, fun c8 => ?_⟩)
        · skip
          have hso : ¬ sO g = some n := fun q => c8 ((oI_some hob hN.2 hn).mpr q)
          refine exf_go 3 (show Go (d + 3) true 34 94 [.ref 39, .ref 31, .int (nI n), .ref 47] [.int (rI h 39 5), .ref 39] (uI (uI (uI (uI (uI (uI h 39 4 (tryX g l n)) 39 3 (nI n)) 40 ((nI n).toNatClampNeg) (nI (cel g l n + 256))) 39 6 (nI ((cntN (fun n => lT l n == 1) (tot g)) + 1))) 48 ((nI c).toNatClampNeg) (nI n)) 47 1 (nI (c + 1))) Q from ?_)
          rw [show (rI h 39 5 : Int32) = lG l from cl_G cl]
          refine exf_go 5 (show Go (d + 3) true 34 103 [.ref 39, .ref 31, .int (nI n), .ref 47] [.int (rI h 31 10)] (uI (uI (uI (uI (uI (uI (uI h 39 4 (tryX g l n)) 39 3 (nI n)) 40 ((nI n).toNatClampNeg) (nI (cel g l n + 256))) 39 6 (nI ((cntN (fun n => lT l n == 1) (tot g)) + 1))) 48 ((nI c).toNatClampNeg) (nI n)) 47 1 (nI (c + 1))) 39 5 ((lG l) + 1)) Q from ?_)
          rw [show (rI h 31 10 : Int32) = nI (sBA g) from cs_BA cs]
          refine exf_go 1 (show ((nI (sBA g)) ≤ 0 → Go (d + 3) true 34 135 [.ref 39, .ref 31, .int (nI n), .ref 47] [] (uI (uI (uI (uI (uI (uI (uI h 39 4 (tryX g l n)) 39 3 (nI n)) 40 ((nI n).toNatClampNeg) (nI (cel g l n + 256))) 39 6 (nI ((cntN (fun n => lT l n == 1) (tot g)) + 1))) 48 ((nI c).toNatClampNeg) (nI n)) 47 1 (nI (c + 1))) 39 5 ((lG l) + 1)) Q) ∧ (¬ ((nI (sBA g)) ≤ 0) → Go (d + 3) true 34 106 [.ref 39, .ref 31, .int (nI n), .ref 47] [] (uI (uI (uI (uI (uI (uI (uI h 39 4 (tryX g l n)) 39 3 (nI n)) 40 ((nI n).toNatClampNeg) (nI (cel g l n + 256))) 39 6 (nI ((cntN (fun n => lT l n == 1) (tot g)) + 1))) 48 ((nI c).toNatClampNeg) (nI n)) 47 1 (nI (c + 1))) 39 5 ((lG l) + 1)) Q) from ⟨fun c9 => ?_, fun c9 => ?_⟩)
          · skip
            have c9 : (sBA g) ≤ 0 := (nI_leI (a := (sBA g)) (b := 0) (by omega) (by omega)).mp c9
            have htl : tryL g l n = (n, tryX g l n, lG l + 1, lO l, lF l, va_up (lT l) n 1) := by unfold tryL; rw [if_neg hso, if_neg (fun q => by omega)]
            refine exf_go 1 (show Q (mk_) (uI (uI (uI (uI (uI (uI (uI h 39 4 (tryX g l n)) 39 3 (nI n)) 40 ((nI n).toNatClampNeg) (nI (cel g l n + 256))) 39 6 (nI ((cntN (fun n => lT l n == 1) (tot g)) + 1))) 48 ((nI c).toNatClampNeg) (nI n)) 47 1 (nI (c + 1))) 39 5 ((lG l) + 1)) from ?_)
            refine k _ (c + 1) (by omega) (Fq.uI' (Fq.uI' (Fq.uI' (Fq.uI' (Fq.uI' (Fq.uI' (Fq.uI' Fq.rfl' _ _ _ rfl) _ _ _ rfl) _ _ _ rfl) _ _ _ rfl) _ _ _ rfl) _ _ _ rfl) _ _ _ rfl) (cl_try cs.1 cl hn (LkW_try cl.1 hn) (tryL_F g l n) (tryL_T g l n) rfl (by rw [htl]; rfl) (by rw [htl]; rfl) (by rw [htl]; first | rfl | exact hf5) (by rw [htl]; first | rfl | exact hf7) (by rw [if_neg (by omega)]; rfl) rfl (fun m hm q => by show rI (uI h 40 (nI n).toNatClampNeg (nI (cel g l n + 256))) 40 m = rI h 40 m; rw [nI_clamp (by omega), rI_uI_at q]) (by show rI (uI h 40 (nI n).toNatClampNeg (nI (cel g l n + 256))) 40 n = _; rw [nI_clamp (by omega), rI_uI_eq, if_neg (by omega)]) rfl) (mk_new mk hn hc4 (tryL_T g l n) hT (fun j q => by show rI (uI h 47 1 (nI (c + 1))) 47 j = _; exact rI_uI_at q) rfl (fun j q => by show rI (uI h 48 (nI c).toNatClampNeg (nI n)) 48 j = _; rw [nI_clamp (by omega), rI_uI_at q]) (by show rI (uI h 48 (nI c).toNatClampNeg (nI n)) 48 c = _; rw [nI_clamp (by omega), rI_uI_eq]) rfl)
          · skip
            have c9 : ¬ (sBA g) ≤ 0 := fun q => c9 ((nI_leI (a := (sBA g)) (b := 0) (by omega) (by omega)).mpr q)
            refine exf_go 4 (show Go (d + 3) true 34 114 [.ref 39, .ref 31, .int (nI n), .ref 47] [.int (rI h 31 10), .int ((lG l) + 1)] (uI (uI (uI (uI (uI (uI (uI h 39 4 (tryX g l n)) 39 3 (nI n)) 40 ((nI n).toNatClampNeg) (nI (cel g l n + 256))) 39 6 (nI ((cntN (fun n => lT l n == 1) (tot g)) + 1))) 48 ((nI c).toNatClampNeg) (nI n)) 47 1 (nI (c + 1))) 39 5 ((lG l) + 1)) Q from ?_)
            rw [show (rI h 31 10 : Int32) = nI (sBA g) from cs_BA cs]
            refine exf_go 1 (show (((lG l) + 1) < (nI (sBA g)) → Go (d + 3) true 34 135 [.ref 39, .ref 31, .int (nI n), .ref 47] [] (uI (uI (uI (uI (uI (uI (uI h 39 4 (tryX g l n)) 39 3 (nI n)) 40 ((nI n).toNatClampNeg) (nI (cel g l n + 256))) 39 6 (nI ((cntN (fun n => lT l n == 1) (tot g)) + 1))) 48 ((nI c).toNatClampNeg) (nI n)) 47 1 (nI (c + 1))) 39 5 ((lG l) + 1)) Q) ∧ (¬ (((lG l) + 1) < (nI (sBA g))) → Go (d + 3) true 34 117 [.ref 39, .ref 31, .int (nI n), .ref 47] [] (uI (uI (uI (uI (uI (uI (uI h 39 4 (tryX g l n)) 39 3 (nI n)) 40 ((nI n).toNatClampNeg) (nI (cel g l n + 256))) 39 6 (nI ((cntN (fun n => lT l n == 1) (tot g)) + 1))) 48 ((nI c).toNatClampNeg) (nI n)) 47 1 (nI (c + 1))) 39 5 ((lG l) + 1)) Q) from ⟨fun c10 => ?_, fun c10 => ?_⟩)
            · skip
              have htl : tryL g l n = (n, tryX g l n, lG l + 1, lO l, lF l, va_up (lT l) n 1) := by unfold tryL; rw [if_neg hso, if_neg (fun q => Int32.not_le.mpr c10 q.2)]
              refine exf_go 1 (show Q (mk_) (uI (uI (uI (uI (uI (uI (uI h 39 4 (tryX g l n)) 39 3 (nI n)) 40 ((nI n).toNatClampNeg) (nI (cel g l n + 256))) 39 6 (nI ((cntN (fun n => lT l n == 1) (tot g)) + 1))) 48 ((nI c).toNatClampNeg) (nI n)) 47 1 (nI (c + 1))) 39 5 ((lG l) + 1)) from ?_)
              refine k _ (c + 1) (by omega) (Fq.uI' (Fq.uI' (Fq.uI' (Fq.uI' (Fq.uI' (Fq.uI' (Fq.uI' Fq.rfl' _ _ _ rfl) _ _ _ rfl) _ _ _ rfl) _ _ _ rfl) _ _ _ rfl) _ _ _ rfl) _ _ _ rfl) (cl_try cs.1 cl hn (LkW_try cl.1 hn) (tryL_F g l n) (tryL_T g l n) rfl (by rw [htl]; rfl) (by rw [htl]; rfl) (by rw [htl]; first | rfl | exact hf5) (by rw [htl]; first | rfl | exact hf7) (by rw [if_neg (by omega)]; rfl) rfl (fun m hm q => by show rI (uI h 40 (nI n).toNatClampNeg (nI (cel g l n + 256))) 40 m = rI h 40 m; rw [nI_clamp (by omega), rI_uI_at q]) (by show rI (uI h 40 (nI n).toNatClampNeg (nI (cel g l n + 256))) 40 n = _; rw [nI_clamp (by omega), rI_uI_eq, if_neg (by omega)]) rfl) (mk_new mk hn hc4 (tryL_T g l n) hT (fun j q => by show rI (uI h 47 1 (nI (c + 1))) 47 j = _; exact rI_uI_at q) rfl (fun j q => by show rI (uI h 48 (nI c).toNatClampNeg (nI n)) 48 j = _; rw [nI_clamp (by omega), rI_uI_at q]) (by show rI (uI h 48 (nI c).toNatClampNeg (nI n)) 48 c = _; rw [nI_clamp (by omega), rI_uI_eq]) rfl)
            · skip
              have htl : tryL g l n = (n, tryX g l n + nI (sBS g), 0, lO l, lF l, va_up (lT l) n 1) := by unfold tryL; rw [if_neg hso, if_pos ⟨by omega, Int32.not_lt.mp c10⟩]
              refine exf_go 8 (show Go (d + 3) true 34 131 [.ref 39, .ref 31, .int (nI n), .ref 47] [.int (rI h 31 11), .int (tryX g l n), .ref 39] (uI (uI (uI (uI (uI (uI (uI (uI h 39 4 (tryX g l n)) 39 3 (nI n)) 40 ((nI n).toNatClampNeg) (nI (cel g l n + 256))) 39 6 (nI ((cntN (fun n => lT l n == 1) (tot g)) + 1))) 48 ((nI c).toNatClampNeg) (nI n)) 47 1 (nI (c + 1))) 39 5 ((lG l) + 1)) 39 5 0) Q from ?_)
              rw [show (rI h 31 11 : Int32) = nI (sBS g) from cs_BS cs]
              refine exf_go 3 (show Q (mk_) (uI (uI (uI (uI (uI (uI (uI (uI (uI h 39 4 (tryX g l n)) 39 3 (nI n)) 40 ((nI n).toNatClampNeg) (nI (cel g l n + 256))) 39 6 (nI ((cntN (fun n => lT l n == 1) (tot g)) + 1))) 48 ((nI c).toNatClampNeg) (nI n)) 47 1 (nI (c + 1))) 39 5 ((lG l) + 1)) 39 5 0) 39 4 ((tryX g l n) + (nI (sBS g)))) from ?_)
              refine k _ (c + 1) (by omega) (Fq.uI' (Fq.uI' (Fq.uI' (Fq.uI' (Fq.uI' (Fq.uI' (Fq.uI' (Fq.uI' (Fq.uI' Fq.rfl' _ _ _ rfl) _ _ _ rfl) _ _ _ rfl) _ _ _ rfl) _ _ _ rfl) _ _ _ rfl) _ _ _ rfl) _ _ _ rfl) _ _ _ rfl) (cl_try cs.1 cl hn (LkW_try cl.1 hn) (tryL_F g l n) (tryL_T g l n) rfl (by rw [htl]; rfl) (by rw [htl]; rfl) (by rw [htl]; first | rfl | exact hf5) (by rw [htl]; first | rfl | exact hf7) (by rw [if_neg (by omega)]; rfl) rfl (fun m hm q => by show rI (uI h 40 (nI n).toNatClampNeg (nI (cel g l n + 256))) 40 m = rI h 40 m; rw [nI_clamp (by omega), rI_uI_at q]) (by show rI (uI h 40 (nI n).toNatClampNeg (nI (cel g l n + 256))) 40 n = _; rw [nI_clamp (by omega), rI_uI_eq, if_neg (by omega)]) rfl) (mk_new mk hn hc4 (tryL_T g l n) hT (fun j q => by show rI (uI h 47 1 (nI (c + 1))) 47 j = _; exact rI_uI_at q) rfl (fun j q => by show rI (uI h 48 (nI c).toNatClampNeg (nI n)) 48 j = _; rw [nI_clamp (by omega), rI_uI_at q]) (by show rI (uI h 48 (nI c).toNatClampNeg (nI n)) 48 c = _; rw [nI_clamp (by omega), rI_uI_eq]) rfl)
        · skip
          have hso : sO g = some n := (oI_some hob hN.2 hn).mp (Classical.not_not.mp c8)
          have htl : tryL g l n = (n, tryX g l n, lG l, 1, lF l, va_up (lT l) n 1) := by unfold tryL; rw [if_pos hso]
          refine exf_go 4 (show ((1 : Int32) = 0 ∨ (1 : Int32) = 1) ∧ Q (mk_) (uI (uI (uI (uI (uI (uI (uI h 39 4 (tryX g l n)) 39 3 (nI n)) 40 ((nI n).toNatClampNeg) (nI (cel g l n + 256))) 39 6 (nI ((cntN (fun n => lT l n == 1) (tot g)) + 1))) 48 ((nI c).toNatClampNeg) (nI n)) 47 1 (nI (c + 1))) 39 7 1) from ⟨(by first | exact Or.inl rfl | exact Or.inr rfl | assumption), ?_⟩)
          refine k _ (c + 1) (by omega) (Fq.uI' (Fq.uI' (Fq.uI' (Fq.uI' (Fq.uI' (Fq.uI' (Fq.uI' Fq.rfl' _ _ _ rfl) _ _ _ rfl) _ _ _ rfl) _ _ _ rfl) _ _ _ rfl) _ _ _ rfl) _ _ _ rfl) (cl_try cs.1 cl hn (LkW_try cl.1 hn) (tryL_F g l n) (tryL_T g l n) rfl (by rw [htl]; rfl) (by rw [htl]; rfl) (by rw [htl]; first | rfl | exact hf5) (by rw [htl]; first | rfl | exact hf7) (by rw [if_neg (by omega)]; rfl) rfl (fun m hm q => by show rI (uI h 40 (nI n).toNatClampNeg (nI (cel g l n + 256))) 40 m = rI h 40 m; rw [nI_clamp (by omega), rI_uI_at q]) (by show rI (uI h 40 (nI n).toNatClampNeg (nI (cel g l n + 256))) 40 n = _; rw [nI_clamp (by omega), rI_uI_eq, if_neg (by omega)]) rfl) (mk_new mk hn hc4 (tryL_T g l n) hT (fun j q => by show rI (uI h 47 1 (nI (c + 1))) 47 j = _; exact rI_uI_at q) rfl (fun j q => by show rI (uI h 48 (nI c).toNatClampNeg (nI n)) 48 j = _; rw [nI_clamp (by omega), rI_uI_at q]) (by show rI (uI h 48 (nI c).toNatClampNeg (nI n)) 48 c = _; rw [nI_clamp (by omega), rI_uI_eq]) rfl)
  · skip
    exact absurd (by decide) c1
theorem c_note2 {d : Nat} {h : Hp} {n c : Nat} {Q : Po} (hc : rI h 50 1 = nI c) (hc4 : c < 40) (k : Q mk_ (uI (uI h 51 (nI c).toNatClampNeg (nI n)) 50 1 (nI (c + 1)))) : wpC (d + 1) true 40 [.ref 50, .int (nI n)] h Q := by
  refine go_in rfl ?_
  refine exf_go 2 (show Go d true 40 4 [.ref 50, .int (nI n)] [.int (rI h 50 1)] h Q from ?_)
  rw [show (rI h 50 1 : Int32) = nI c from hc]
  refine exf_go 2 (show (40 ≤ (nI c) → Go d true 40 29 [.ref 50, .int (nI n)] [] h Q) ∧ (¬ (40 ≤ (nI c)) → Go d true 40 9 [.ref 50, .int (nI n)] [] h Q) from ⟨fun c1 => ?_, fun c1 => ?_⟩)
  · skip
    have c1 : 40 ≤ c := (nI_leI (a := 40) (b := c) (by omega) (by omega)).mp c1
    refine exf_go 1 (show Q (mk_) h from ?_)
    first | (exfalso; omega) | exact k
  · skip
    have c1 : ¬ 40 ≤ c := fun q => c1 ((nI_leI (a := 40) (b := c) (by omega) (by omega)).mpr q)
    refine exf_go 4 (show Go d true 40 17 [.ref 50, .int (nI n)] [.int (rI h 50 1), .ref 51] h Q from ?_)
    rw [show (rI h 50 1 : Int32) = nI c from hc]
    refine exf_go 5 (show vp_in (nI c) 40 ∧ (Go d true 40 24 [.ref 50, .int (nI n)] [.int (rI h 50 1), .ref 50] (uI h 51 ((nI c).toNatClampNeg) (nI n)) Q) from ⟨(vp_in_nI (by omega) (by omega)), ?_⟩)
    rw [show (rI h 50 1 : Int32) = nI c from hc]
    refine exf_go 2 (show Go d true 40 26 [.ref 50, .int (nI n)] [.int ((nI c) + 1), .ref 50] (uI h 51 ((nI c).toNatClampNeg) (nI n)) Q from ?_)
    rw [show ((nI c) + 1 : Int32) = nI (c + 1) from nI_add c 1]
    refine exf_go 2 (show Q (mk_) (uI (uI h 51 ((nI c).toNatClampNeg) (nI n)) 50 1 (nI (c + 1))) from ?_)
    first | (exfalso; omega) | exact k
theorem c_att2 {d : Nat} {h : Hp} {g : ShG} {l l0 : LkG} {n c : Nat} {Q : Po} (cs : CS 31 g h) (cl : CL 39 g l h) (mk : CMK g 2 l0 l c h) (hn : n < tot g) (hc4 : c < 40) (k : ∀ h1 c1, c1 ≤ c + 1 → Fq (sLm 2) h h1 → CL 39 g (tryL g l n) h1 → CMK g 2 l0 (tryL g l n) c1 h1 → Q mk_ h1) : wpC (d + 4) true 34 [.ref 39, .ref 31, .int (nI n), .ref 50] h Q := by
  have hN := tot_b cs.1
  have hA := cl.1.1
  have hf5 := cl_G cl; have hf7 := cl_O cl; have hf6 := cl_T cl; have hfn := cl_Cl cl n hn
  have hcb := cel_b cs.1 cl.1 n
  have hal := cl_al cl
  simp only [Nat.reduceAdd] at hal
  have hob := cs.1.2.2.2.2.2.2.2.2.2.2.2.1
  have hb9 := cs.1.2.2.2.2.2.2.2.2.1
  have hs9 := cs.1.2.2.2.2.2.2.2.2.2.1
  have hcn := cntN_le (fun m => lT l m == 1) (tot g)
  have hp6 := cs.1.2.2.2.2.2.2.2.1
  refine go_in rfl ?_
  refine exf_go 3 (show wpC (d + 3) true 32 [.ref 39, .int (nI n)] h (fun r h' => Go (d + 3) true 34 5 [.ref 39, .ref 31, .int (nI n), .ref 50] [r] h' Q) from ?_)
  refine c_isCell cs cl (by omega) ?_
  show Go (d + 3) true 34 5 [.ref 39, .ref 31, .int (nI n), .ref 50] [.int 1] h Q
  refine exf_go 1 (show (¬ (1 : Int32) = 0 → Go (d + 3) true 34 9 [.ref 39, .ref 31, .int (nI n), .ref 50] [] h Q) ∧ (¬ (¬ (1 : Int32) = 0) → Go (d + 3) true 34 8 [.ref 39, .ref 31, .int (nI n), .ref 50] [] h Q) from ⟨fun c1 => ?_, fun c1 => ?_⟩)
  · skip
    refine exf_go 3 (show Go (d + 3) true 34 14 [.ref 39, .ref 31, .int (nI n), .ref 50] [.int (rI h 39 4), .ref 39] h Q from ?_)
    rw [show (rI h 39 4 : Int32) = lX l from cl_X cl]
    refine exf_go 3 (show Go (d + 3) true 34 19 [.ref 39, .ref 31, .int (nI n), .ref 50] [.int (rI h 39 3), .ref 31, .int (lX l), .ref 39] h Q from ?_)
    rw [show (rI h 39 3 : Int32) = nI (lA l) from cl_A cl]
    refine exf_go 2 (show wpC (d + 3) true 83 [.ref 31, .int (nI (lA l)), .int (nI n)] h (fun r h' => Go (d + 3) true 34 23 [.ref 39, .ref 31, .int (nI n), .ref 50] [r, .int (lX l), .ref 39] h' Q) from ?_)
    refine c_turns cs (n := lA l) (m := n) (by omega) (by omega) ?_
    have htr := trn_b cs.1 (lA l) n
    show Go (d + 3) true 34 23 [.ref 39, .ref 31, .int (nI n), .ref 50] [.int (nI (trn g (lA l) n)), .int (lX l), .ref 39] h Q
    refine exf_go 2 (show Go (d + 3) true 34 27 [.ref 39, .ref 31, .int (nI n), .ref 50] [.int (rI h 31 9), .int (nI (trn g (lA l) n)), .int (lX l), .ref 39] h Q from ?_)
    rw [show (rI h 31 9 : Int32) = nI (sP g) from cs_P cs]
    refine exf_go 1 (show Go (d + 3) true 34 28 [.ref 39, .ref 31, .int (nI n), .ref 50] [.int ((nI (trn g (lA l) n)) + (nI (sP g))), .int (lX l), .ref 39] h Q from ?_)
    rw [show ((nI (trn g (lA l) n)) + (nI (sP g)) : Int32) = nI ((trn g (lA l) n) + (sP g)) from nI_add (trn g (lA l) n) (sP g)]
    refine exf_go 1 (show Go (d + 3) true 34 29 [.ref 39, .ref 31, .int (nI n), .ref 50] [.int ((lX l) + (nI ((trn g (lA l) n) + (sP g)))), .ref 39] h Q from ?_)
    rw [show ((lX l) + (nI ((trn g (lA l) n) + (sP g))) : Int32) = tryX g l n from rfl]
    refine exf_go 8 (show wpC (d + 3) true 30 [.ref 39, .int (nI n), .int 256] (uI (uI h 39 4 (tryX g l n)) 39 3 (nI n)) (fun r h' => Go (d + 3) true 34 45 [.ref 39, .ref 31, .int (nI n), .ref 50] [r] h' Q) from ?_)
    have cl1 := cl_mv cl hn (tryX g l n)
    have cs1 := cs_39 (cs_39 cs 4 (tryX g l n)) 3 (nI n)
    have e1 : cel g (n, tryX g l n, lG l, lO l, lF l, lT l) n = cel g l n := cel_cg rfl rfl
    refine c_hasMark cs1 cl1 hn (fun b2 => ?_) (fun b2 => ?_)
    · skip
      have hT : lT l n = 1 := by have h9 := cl.1.2.2.1 n; have h7 : ¬ lT l n = 0 := fun q => b2 (by rw [e1]; exact (tri_0 cs.1 cl.1).mpr q); omega
      show Go (d + 3) true 34 45 [.ref 39, .ref 31, .int (nI n), .ref 50] [.int 1] (uI (uI h 39 4 (tryX g l n)) 39 3 (nI n)) Q
      refine exf_go 1 (show (¬ (1 : Int32) = 0 → Go (d + 3) true 34 75 [.ref 39, .ref 31, .int (nI n), .ref 50] [] (uI (uI h 39 4 (tryX g l n)) 39 3 (nI n)) Q) ∧ (¬ (¬ (1 : Int32) = 0) → Go (d + 3) true 34 48 [.ref 39, .ref 31, .int (nI n), .ref 50] [] (uI (uI h 39 4 (tryX g l n)) 39 3 (nI n)) Q) from ⟨fun c3 => ?_, fun c3 => ?_⟩)
      · skip
        refine exf_go 3 (show Go (d + 3) true 34 80 [.ref 39, .ref 31, .int (nI n), .ref 50] [.int (rI h 31 15), .int (nI n)] (uI (uI h 39 4 (tryX g l n)) 39 3 (nI n)) Q from ?_)
        rw [show (rI h 31 15 : Int32) = oI (sO g) from cs_O cs]
        refine exf_go 1 (show (¬ (nI n) = (oI (sO g)) → Go (d + 3) true 34 89 [.ref 39, .ref 31, .int (nI n), .ref 50] [] (uI (uI h 39 4 (tryX g l n)) 39 3 (nI n)) Q) ∧ (¬ (¬ (nI n) = (oI (sO g))) → Go (d + 3) true 34 83 [.ref 39, .ref 31, .int (nI n), .ref 50] [] (uI (uI h 39 4 (tryX g l n)) 39 3 (nI n)) Q) from ⟨fun c4 => ?_, fun c4 => ?_⟩)
        · skip
          have hso : ¬ sO g = some n := fun q => c4 ((oI_some hob hN.2 hn).mpr q)
          refine exf_go 3 (show Go (d + 3) true 34 94 [.ref 39, .ref 31, .int (nI n), .ref 50] [.int (rI h 39 5), .ref 39] (uI (uI h 39 4 (tryX g l n)) 39 3 (nI n)) Q from ?_)
          rw [show (rI h 39 5 : Int32) = lG l from cl_G cl]
          refine exf_go 5 (show Go (d + 3) true 34 103 [.ref 39, .ref 31, .int (nI n), .ref 50] [.int (rI h 31 10)] (uI (uI (uI h 39 4 (tryX g l n)) 39 3 (nI n)) 39 5 ((lG l) + 1)) Q from ?_)
          rw [show (rI h 31 10 : Int32) = nI (sBA g) from cs_BA cs]
          refine exf_go 1 (show ((nI (sBA g)) ≤ 0 → Go (d + 3) true 34 135 [.ref 39, .ref 31, .int (nI n), .ref 50] [] (uI (uI (uI h 39 4 (tryX g l n)) 39 3 (nI n)) 39 5 ((lG l) + 1)) Q) ∧ (¬ ((nI (sBA g)) ≤ 0) → Go (d + 3) true 34 106 [.ref 39, .ref 31, .int (nI n), .ref 50] [] (uI (uI (uI h 39 4 (tryX g l n)) 39 3 (nI n)) 39 5 ((lG l) + 1)) Q) from ⟨fun c5 => ?_, fun c5 => ?_⟩)
          · skip
            have c5 : (sBA g) ≤ 0 := (nI_leI (a := (sBA g)) (b := 0) (by omega) (by omega)).mp c5
            have htl : tryL g l n = (n, tryX g l n, lG l + 1, lO l, lF l, va_up (lT l) n 1) := by unfold tryL; rw [if_neg hso, if_neg (fun q => by omega)]
            refine exf_go 1 (show Q (mk_) (uI (uI (uI h 39 4 (tryX g l n)) 39 3 (nI n)) 39 5 ((lG l) + 1)) from ?_)
            refine k _ c (by omega) (Fq.uI' (Fq.uI' (Fq.uI' Fq.rfl' _ _ _ rfl) _ _ _ rfl) _ _ _ rfl) (cl_try cs.1 cl hn (LkW_try cl.1 hn) (tryL_F g l n) (tryL_T g l n) rfl (by rw [htl]; rfl) (by rw [htl]; rfl) (by rw [htl]; first | rfl | exact hf5) (by rw [htl]; first | rfl | exact hf7) (by rw [if_pos hT]; exact hf6) rfl (fun m hm q => rfl) (by rw [if_pos hT]; exact hfn) rfl) (mk_old (mk_fq mk rfl rfl rfl) (tryL_T g l n) hT)
          · skip
            have c5 : ¬ (sBA g) ≤ 0 := fun q => c5 ((nI_leI (a := (sBA g)) (b := 0) (by omega) (by omega)).mpr q)
            refine exf_go 4 (show Go (d + 3) true 34 114 [.ref 39, .ref 31, .int (nI n), .ref 50] [.int (rI h 31 10), .int ((lG l) + 1)] (uI (uI (uI h 39 4 (tryX g l n)) 39 3 (nI n)) 39 5 ((lG l) + 1)) Q from ?_)
            rw [show (rI h 31 10 : Int32) = nI (sBA g) from cs_BA cs]
            refine exf_go 1 (show (((lG l) + 1) < (nI (sBA g)) → Go (d + 3) true 34 135 [.ref 39, .ref 31, .int (nI n), .ref 50] [] (uI (uI (uI h 39 4 (tryX g l n)) 39 3 (nI n)) 39 5 ((lG l) + 1)) Q) ∧ (¬ (((lG l) + 1) < (nI (sBA g))) → Go (d + 3) true 34 117 [.ref 39, .ref 31, .int (nI n), .ref 50] [] (uI (uI (uI h 39 4 (tryX g l n)) 39 3 (nI n)) 39 5 ((lG l) + 1)) Q) from ⟨fun c6 => ?_, fun c6 => ?_⟩)
            · skip
              have htl : tryL g l n = (n, tryX g l n, lG l + 1, lO l, lF l, va_up (lT l) n 1) := by unfold tryL; rw [if_neg hso, if_neg (fun q => Int32.not_le.mpr c6 q.2)]
              refine exf_go 1 (show Q (mk_) (uI (uI (uI h 39 4 (tryX g l n)) 39 3 (nI n)) 39 5 ((lG l) + 1)) from ?_)
              refine k _ c (by omega) (Fq.uI' (Fq.uI' (Fq.uI' Fq.rfl' _ _ _ rfl) _ _ _ rfl) _ _ _ rfl) (cl_try cs.1 cl hn (LkW_try cl.1 hn) (tryL_F g l n) (tryL_T g l n) rfl (by rw [htl]; rfl) (by rw [htl]; rfl) (by rw [htl]; first | rfl | exact hf5) (by rw [htl]; first | rfl | exact hf7) (by rw [if_pos hT]; exact hf6) rfl (fun m hm q => rfl) (by rw [if_pos hT]; exact hfn) rfl) (mk_old (mk_fq mk rfl rfl rfl) (tryL_T g l n) hT)
            · skip
              have htl : tryL g l n = (n, tryX g l n + nI (sBS g), 0, lO l, lF l, va_up (lT l) n 1) := by unfold tryL; rw [if_neg hso, if_pos ⟨by omega, Int32.not_lt.mp c6⟩]
              refine exf_go 8 (show Go (d + 3) true 34 131 [.ref 39, .ref 31, .int (nI n), .ref 50] [.int (rI h 31 11), .int (tryX g l n), .ref 39] (uI (uI (uI (uI h 39 4 (tryX g l n)) 39 3 (nI n)) 39 5 ((lG l) + 1)) 39 5 0) Q from ?_)
              rw [show (rI h 31 11 : Int32) = nI (sBS g) from cs_BS cs]
              refine exf_go 3 (show Q (mk_) (uI (uI (uI (uI (uI h 39 4 (tryX g l n)) 39 3 (nI n)) 39 5 ((lG l) + 1)) 39 5 0) 39 4 ((tryX g l n) + (nI (sBS g)))) from ?_)
              refine k _ c (by omega) (Fq.uI' (Fq.uI' (Fq.uI' (Fq.uI' (Fq.uI' Fq.rfl' _ _ _ rfl) _ _ _ rfl) _ _ _ rfl) _ _ _ rfl) _ _ _ rfl) (cl_try cs.1 cl hn (LkW_try cl.1 hn) (tryL_F g l n) (tryL_T g l n) rfl (by rw [htl]; rfl) (by rw [htl]; rfl) (by rw [htl]; first | rfl | exact hf5) (by rw [htl]; first | rfl | exact hf7) (by rw [if_pos hT]; exact hf6) rfl (fun m hm q => rfl) (by rw [if_pos hT]; exact hfn) rfl) (mk_old (mk_fq mk rfl rfl rfl) (tryL_T g l n) hT)
        · skip
          have hso : sO g = some n := (oI_some hob hN.2 hn).mp (Classical.not_not.mp c4)
          have htl : tryL g l n = (n, tryX g l n, lG l, 1, lF l, va_up (lT l) n 1) := by unfold tryL; rw [if_pos hso]
          refine exf_go 4 (show ((1 : Int32) = 0 ∨ (1 : Int32) = 1) ∧ Q (mk_) (uI (uI (uI h 39 4 (tryX g l n)) 39 3 (nI n)) 39 7 1) from ⟨(by first | exact Or.inl rfl | exact Or.inr rfl | assumption), ?_⟩)
          refine k _ c (by omega) (Fq.uI' (Fq.uI' (Fq.uI' Fq.rfl' _ _ _ rfl) _ _ _ rfl) _ _ _ rfl) (cl_try cs.1 cl hn (LkW_try cl.1 hn) (tryL_F g l n) (tryL_T g l n) rfl (by rw [htl]; rfl) (by rw [htl]; rfl) (by rw [htl]; first | rfl | exact hf5) (by rw [htl]; first | rfl | exact hf7) (by rw [if_pos hT]; exact hf6) rfl (fun m hm q => rfl) (by rw [if_pos hT]; exact hfn) rfl) (mk_old (mk_fq mk rfl rfl rfl) (tryL_T g l n) hT)
      · skip
        exact absurd (by decide) c3
    · skip
      have hT : lT l n = 0 := (tri_0 cs.1 cl.1).mp (e1 ▸ b2)
      show Go (d + 3) true 34 45 [.ref 39, .ref 31, .int (nI n), .ref 50] [.int 0] (uI (uI h 39 4 (tryX g l n)) 39 3 (nI n)) Q
      refine exf_go 1 (show (¬ (0 : Int32) = 0 → Go (d + 3) true 34 75 [.ref 39, .ref 31, .int (nI n), .ref 50] [] (uI (uI h 39 4 (tryX g l n)) 39 3 (nI n)) Q) ∧ (¬ (¬ (0 : Int32) = 0) → Go (d + 3) true 34 48 [.ref 39, .ref 31, .int (nI n), .ref 50] [] (uI (uI h 39 4 (tryX g l n)) 39 3 (nI n)) Q) from ⟨fun c7 => ?_, fun c7 => ?_⟩)
      · skip
        exact absurd c7 (by decide)
      · skip
        refine exf_go 5 (show vp_in (nI n) (al h 40) ∧ (Go (d + 3) true 34 55 [.ref 39, .ref 31, .int (nI n), .ref 50] [.int (rI h 40 ((nI n).toNatClampNeg)), .int (nI n), .ref 40] (uI (uI h 39 4 (tryX g l n)) 39 3 (nI n)) Q) from ⟨(vp_in_nI (by omega) (by omega)), ?_⟩)
        rw [show (rI h 40 ((nI n).toNatClampNeg) : Int32) = nI (cel g l n) from cl_C cs cl (n := n) (by omega)]
        refine exf_go 2 (show Go (d + 3) true 34 59 [.ref 39, .ref 31, .int (nI n), .ref 50] [.int ((nI (cel g l n)) ||| 256), .int (nI n), .ref 40] (uI (uI h 39 4 (tryX g l n)) 39 3 (nI n)) Q from ?_)
        rw [show ((nI (cel g l n)) ||| 256 : Int32) = nI (cel g l n + 256) from by rw [show (256 : Int32) = nI 256 from rfl, nI_or, or_tri _ hcb, if_pos (by rw [cel_tri cs.1 cl.1]; exact hT)]]
        refine exf_go 4 (show vp_in (nI n) (al h 40) ∧ (Go (d + 3) true 34 65 [.ref 39, .ref 31, .int (nI n), .ref 50] [.int (rI h 39 6), .ref 39] (uI (uI (uI h 39 4 (tryX g l n)) 39 3 (nI n)) 40 ((nI n).toNatClampNeg) (nI (cel g l n + 256))) Q) from ⟨(vp_in_nI (by omega) (by omega)), ?_⟩)
        rw [show (rI h 39 6 : Int32) = nI (cntN (fun n => lT l n == 1) (tot g)) from cl_T cl]
        refine exf_go 2 (show Go (d + 3) true 34 67 [.ref 39, .ref 31, .int (nI n), .ref 50] [.int ((nI (cntN (fun n => lT l n == 1) (tot g))) + 1), .ref 39] (uI (uI (uI h 39 4 (tryX g l n)) 39 3 (nI n)) 40 ((nI n).toNatClampNeg) (nI (cel g l n + 256))) Q from ?_)
        rw [show ((nI (cntN (fun n => lT l n == 1) (tot g))) + 1 : Int32) = nI ((cntN (fun n => lT l n == 1) (tot g)) + 1) from nI_add (cntN (fun n => lT l n == 1) (tot g)) 1]
        refine exf_go 4 (show wpC (d + 3) true 40 [.ref 50, .int (nI n)] (uI (uI (uI (uI h 39 4 (tryX g l n)) 39 3 (nI n)) 40 ((nI n).toNatClampNeg) (nI (cel g l n + 256))) 39 6 (nI ((cntN (fun n => lT l n == 1) (tot g)) + 1))) (fun _ h' => Go (d + 3) true 34 75 [.ref 39, .ref 31, .int (nI n), .ref 50] [] h' Q) from ?_)
        refine c_note2 (c := c) mk.2.1.1 hc4 ?_
        show Go (d + 3) true 34 75 [.ref 39, .ref 31, .int (nI n), .ref 50] [] (uI (uI (uI (uI (uI (uI h 39 4 (tryX g l n)) 39 3 (nI n)) 40 ((nI n).toNatClampNeg) (nI (cel g l n + 256))) 39 6 (nI ((cntN (fun n => lT l n == 1) (tot g)) + 1))) 51 ((nI c).toNatClampNeg) (nI n)) 50 1 (nI (c + 1))) Q
        refine exf_go 3 (show Go (d + 3) true 34 80 [.ref 39, .ref 31, .int (nI n), .ref 50] [.int (rI h 31 15), .int (nI n)] (uI (uI (uI (uI (uI (uI h 39 4 (tryX g l n)) 39 3 (nI n)) 40 ((nI n).toNatClampNeg) (nI (cel g l n + 256))) 39 6 (nI ((cntN (fun n => lT l n == 1) (tot g)) + 1))) 51 ((nI c).toNatClampNeg) (nI n)) 50 1 (nI (c + 1))) Q from ?_)
        rw [show (rI h 31 15 : Int32) = oI (sO g) from cs_O cs]
        refine exf_go 1 (show (¬ (nI n) = (oI (sO g)) → Go (d + 3) true 34 89 [.ref 39, .ref 31, .int (nI n), .ref 50] [] (uI (uI (uI (uI (uI (uI h 39 4 (tryX g l n)) 39 3 (nI n)) 40 ((nI n).toNatClampNeg) (nI (cel g l n + 256))) 39 6 (nI ((cntN (fun n => lT l n == 1) (tot g)) + 1))) 51 ((nI c).toNatClampNeg) (nI n)) 50 1 (nI (c + 1))) Q) ∧ (¬ (¬ (nI n) = (oI (sO g))) → Go (d + 3) true 34 83 [.ref 39, .ref 31, .int (nI n), .ref 50] [] (uI (uI (uI (uI (uI (uI h 39 4 (tryX g l n)) 39 3 (nI n)) 40 ((nI n).toNatClampNeg) (nI (cel g l n + 256))) 39 6 (nI ((cntN (fun n => lT l n == 1) (tot g)) + 1))) 51 ((nI c).toNatClampNeg) (nI n)) 50 1 (nI (c + 1))) Q) from ⟨fun c8 => ?_, fun c8 => ?_⟩)
        · skip
          have hso : ¬ sO g = some n := fun q => c8 ((oI_some hob hN.2 hn).mpr q)
          refine exf_go 3 (show Go (d + 3) true 34 94 [.ref 39, .ref 31, .int (nI n), .ref 50] [.int (rI h 39 5), .ref 39] (uI (uI (uI (uI (uI (uI h 39 4 (tryX g l n)) 39 3 (nI n)) 40 ((nI n).toNatClampNeg) (nI (cel g l n + 256))) 39 6 (nI ((cntN (fun n => lT l n == 1) (tot g)) + 1))) 51 ((nI c).toNatClampNeg) (nI n)) 50 1 (nI (c + 1))) Q from ?_)
          rw [show (rI h 39 5 : Int32) = lG l from cl_G cl]
          refine exf_go 5 (show Go (d + 3) true 34 103 [.ref 39, .ref 31, .int (nI n), .ref 50] [.int (rI h 31 10)] (uI (uI (uI (uI (uI (uI (uI h 39 4 (tryX g l n)) 39 3 (nI n)) 40 ((nI n).toNatClampNeg) (nI (cel g l n + 256))) 39 6 (nI ((cntN (fun n => lT l n == 1) (tot g)) + 1))) 51 ((nI c).toNatClampNeg) (nI n)) 50 1 (nI (c + 1))) 39 5 ((lG l) + 1)) Q from ?_)
          rw [show (rI h 31 10 : Int32) = nI (sBA g) from cs_BA cs]
          refine exf_go 1 (show ((nI (sBA g)) ≤ 0 → Go (d + 3) true 34 135 [.ref 39, .ref 31, .int (nI n), .ref 50] [] (uI (uI (uI (uI (uI (uI (uI h 39 4 (tryX g l n)) 39 3 (nI n)) 40 ((nI n).toNatClampNeg) (nI (cel g l n + 256))) 39 6 (nI ((cntN (fun n => lT l n == 1) (tot g)) + 1))) 51 ((nI c).toNatClampNeg) (nI n)) 50 1 (nI (c + 1))) 39 5 ((lG l) + 1)) Q) ∧ (¬ ((nI (sBA g)) ≤ 0) → Go (d + 3) true 34 106 [.ref 39, .ref 31, .int (nI n), .ref 50] [] (uI (uI (uI (uI (uI (uI (uI h 39 4 (tryX g l n)) 39 3 (nI n)) 40 ((nI n).toNatClampNeg) (nI (cel g l n + 256))) 39 6 (nI ((cntN (fun n => lT l n == 1) (tot g)) + 1))) 51 ((nI c).toNatClampNeg) (nI n)) 50 1 (nI (c + 1))) 39 5 ((lG l) + 1)) Q) from ⟨fun c9 => ?_, fun c9 => ?_⟩)
          · skip
            have c9 : (sBA g) ≤ 0 := (nI_leI (a := (sBA g)) (b := 0) (by omega) (by omega)).mp c9
            have htl : tryL g l n = (n, tryX g l n, lG l + 1, lO l, lF l, va_up (lT l) n 1) := by unfold tryL; rw [if_neg hso, if_neg (fun q => by omega)]
            refine exf_go 1 (show Q (mk_) (uI (uI (uI (uI (uI (uI (uI h 39 4 (tryX g l n)) 39 3 (nI n)) 40 ((nI n).toNatClampNeg) (nI (cel g l n + 256))) 39 6 (nI ((cntN (fun n => lT l n == 1) (tot g)) + 1))) 51 ((nI c).toNatClampNeg) (nI n)) 50 1 (nI (c + 1))) 39 5 ((lG l) + 1)) from ?_)
            refine k _ (c + 1) (by omega) (Fq.uI' (Fq.uI' (Fq.uI' (Fq.uI' (Fq.uI' (Fq.uI' (Fq.uI' Fq.rfl' _ _ _ rfl) _ _ _ rfl) _ _ _ rfl) _ _ _ rfl) _ _ _ rfl) _ _ _ rfl) _ _ _ rfl) (cl_try cs.1 cl hn (LkW_try cl.1 hn) (tryL_F g l n) (tryL_T g l n) rfl (by rw [htl]; rfl) (by rw [htl]; rfl) (by rw [htl]; first | rfl | exact hf5) (by rw [htl]; first | rfl | exact hf7) (by rw [if_neg (by omega)]; rfl) rfl (fun m hm q => by show rI (uI h 40 (nI n).toNatClampNeg (nI (cel g l n + 256))) 40 m = rI h 40 m; rw [nI_clamp (by omega), rI_uI_at q]) (by show rI (uI h 40 (nI n).toNatClampNeg (nI (cel g l n + 256))) 40 n = _; rw [nI_clamp (by omega), rI_uI_eq, if_neg (by omega)]) rfl) (mk_new mk hn hc4 (tryL_T g l n) hT (fun j q => by show rI (uI h 50 1 (nI (c + 1))) 50 j = _; exact rI_uI_at q) rfl (fun j q => by show rI (uI h 51 (nI c).toNatClampNeg (nI n)) 51 j = _; rw [nI_clamp (by omega), rI_uI_at q]) (by show rI (uI h 51 (nI c).toNatClampNeg (nI n)) 51 c = _; rw [nI_clamp (by omega), rI_uI_eq]) rfl)
          · skip
            have c9 : ¬ (sBA g) ≤ 0 := fun q => c9 ((nI_leI (a := (sBA g)) (b := 0) (by omega) (by omega)).mpr q)
            refine exf_go 4 (show Go (d + 3) true 34 114 [.ref 39, .ref 31, .int (nI n), .ref 50] [.int (rI h 31 10), .int ((lG l) + 1)] (uI (uI (uI (uI (uI (uI (uI h 39 4 (tryX g l n)) 39 3 (nI n)) 40 ((nI n).toNatClampNeg) (nI (cel g l n + 256))) 39 6 (nI ((cntN (fun n => lT l n == 1) (tot g)) + 1))) 51 ((nI c).toNatClampNeg) (nI n)) 50 1 (nI (c + 1))) 39 5 ((lG l) + 1)) Q from ?_)
            rw [show (rI h 31 10 : Int32) = nI (sBA g) from cs_BA cs]
            refine exf_go 1 (show (((lG l) + 1) < (nI (sBA g)) → Go (d + 3) true 34 135 [.ref 39, .ref 31, .int (nI n), .ref 50] [] (uI (uI (uI (uI (uI (uI (uI h 39 4 (tryX g l n)) 39 3 (nI n)) 40 ((nI n).toNatClampNeg) (nI (cel g l n + 256))) 39 6 (nI ((cntN (fun n => lT l n == 1) (tot g)) + 1))) 51 ((nI c).toNatClampNeg) (nI n)) 50 1 (nI (c + 1))) 39 5 ((lG l) + 1)) Q) ∧ (¬ (((lG l) + 1) < (nI (sBA g))) → Go (d + 3) true 34 117 [.ref 39, .ref 31, .int (nI n), .ref 50] [] (uI (uI (uI (uI (uI (uI (uI h 39 4 (tryX g l n)) 39 3 (nI n)) 40 ((nI n).toNatClampNeg) (nI (cel g l n + 256))) 39 6 (nI ((cntN (fun n => lT l n == 1) (tot g)) + 1))) 51 ((nI c).toNatClampNeg) (nI n)) 50 1 (nI (c + 1))) 39 5 ((lG l) + 1)) Q) from ⟨fun c10 => ?_, fun c10 => ?_⟩)
            · skip
              have htl : tryL g l n = (n, tryX g l n, lG l + 1, lO l, lF l, va_up (lT l) n 1) := by unfold tryL; rw [if_neg hso, if_neg (fun q => Int32.not_le.mpr c10 q.2)]
              refine exf_go 1 (show Q (mk_) (uI (uI (uI (uI (uI (uI (uI h 39 4 (tryX g l n)) 39 3 (nI n)) 40 ((nI n).toNatClampNeg) (nI (cel g l n + 256))) 39 6 (nI ((cntN (fun n => lT l n == 1) (tot g)) + 1))) 51 ((nI c).toNatClampNeg) (nI n)) 50 1 (nI (c + 1))) 39 5 ((lG l) + 1)) from ?_)
              refine k _ (c + 1) (by omega) (Fq.uI' (Fq.uI' (Fq.uI' (Fq.uI' (Fq.uI' (Fq.uI' (Fq.uI' Fq.rfl' _ _ _ rfl) _ _ _ rfl) _ _ _ rfl) _ _ _ rfl) _ _ _ rfl) _ _ _ rfl) _ _ _ rfl) (cl_try cs.1 cl hn (LkW_try cl.1 hn) (tryL_F g l n) (tryL_T g l n) rfl (by rw [htl]; rfl) (by rw [htl]; rfl) (by rw [htl]; first | rfl | exact hf5) (by rw [htl]; first | rfl | exact hf7) (by rw [if_neg (by omega)]; rfl) rfl (fun m hm q => by show rI (uI h 40 (nI n).toNatClampNeg (nI (cel g l n + 256))) 40 m = rI h 40 m; rw [nI_clamp (by omega), rI_uI_at q]) (by show rI (uI h 40 (nI n).toNatClampNeg (nI (cel g l n + 256))) 40 n = _; rw [nI_clamp (by omega), rI_uI_eq, if_neg (by omega)]) rfl) (mk_new mk hn hc4 (tryL_T g l n) hT (fun j q => by show rI (uI h 50 1 (nI (c + 1))) 50 j = _; exact rI_uI_at q) rfl (fun j q => by show rI (uI h 51 (nI c).toNatClampNeg (nI n)) 51 j = _; rw [nI_clamp (by omega), rI_uI_at q]) (by show rI (uI h 51 (nI c).toNatClampNeg (nI n)) 51 c = _; rw [nI_clamp (by omega), rI_uI_eq]) rfl)
            · skip
              have htl : tryL g l n = (n, tryX g l n + nI (sBS g), 0, lO l, lF l, va_up (lT l) n 1) := by unfold tryL; rw [if_neg hso, if_pos ⟨by omega, Int32.not_lt.mp c10⟩]
              refine exf_go 8 (show Go (d + 3) true 34 131 [.ref 39, .ref 31, .int (nI n), .ref 50] [.int (rI h 31 11), .int (tryX g l n), .ref 39] (uI (uI (uI (uI (uI (uI (uI (uI h 39 4 (tryX g l n)) 39 3 (nI n)) 40 ((nI n).toNatClampNeg) (nI (cel g l n + 256))) 39 6 (nI ((cntN (fun n => lT l n == 1) (tot g)) + 1))) 51 ((nI c).toNatClampNeg) (nI n)) 50 1 (nI (c + 1))) 39 5 ((lG l) + 1)) 39 5 0) Q from ?_)
              rw [show (rI h 31 11 : Int32) = nI (sBS g) from cs_BS cs]
              refine exf_go 3 (show Q (mk_) (uI (uI (uI (uI (uI (uI (uI (uI (uI h 39 4 (tryX g l n)) 39 3 (nI n)) 40 ((nI n).toNatClampNeg) (nI (cel g l n + 256))) 39 6 (nI ((cntN (fun n => lT l n == 1) (tot g)) + 1))) 51 ((nI c).toNatClampNeg) (nI n)) 50 1 (nI (c + 1))) 39 5 ((lG l) + 1)) 39 5 0) 39 4 ((tryX g l n) + (nI (sBS g)))) from ?_)
              refine k _ (c + 1) (by omega) (Fq.uI' (Fq.uI' (Fq.uI' (Fq.uI' (Fq.uI' (Fq.uI' (Fq.uI' (Fq.uI' (Fq.uI' Fq.rfl' _ _ _ rfl) _ _ _ rfl) _ _ _ rfl) _ _ _ rfl) _ _ _ rfl) _ _ _ rfl) _ _ _ rfl) _ _ _ rfl) _ _ _ rfl) (cl_try cs.1 cl hn (LkW_try cl.1 hn) (tryL_F g l n) (tryL_T g l n) rfl (by rw [htl]; rfl) (by rw [htl]; rfl) (by rw [htl]; first | rfl | exact hf5) (by rw [htl]; first | rfl | exact hf7) (by rw [if_neg (by omega)]; rfl) rfl (fun m hm q => by show rI (uI h 40 (nI n).toNatClampNeg (nI (cel g l n + 256))) 40 m = rI h 40 m; rw [nI_clamp (by omega), rI_uI_at q]) (by show rI (uI h 40 (nI n).toNatClampNeg (nI (cel g l n + 256))) 40 n = _; rw [nI_clamp (by omega), rI_uI_eq, if_neg (by omega)]) rfl) (mk_new mk hn hc4 (tryL_T g l n) hT (fun j q => by show rI (uI h 50 1 (nI (c + 1))) 50 j = _; exact rI_uI_at q) rfl (fun j q => by show rI (uI h 51 (nI c).toNatClampNeg (nI n)) 51 j = _; rw [nI_clamp (by omega), rI_uI_at q]) (by show rI (uI h 51 (nI c).toNatClampNeg (nI n)) 51 c = _; rw [nI_clamp (by omega), rI_uI_eq]) rfl)
        · skip
          have hso : sO g = some n := (oI_some hob hN.2 hn).mp (Classical.not_not.mp c8)
          have htl : tryL g l n = (n, tryX g l n, lG l, 1, lF l, va_up (lT l) n 1) := by unfold tryL; rw [if_pos hso]
          refine exf_go 4 (show ((1 : Int32) = 0 ∨ (1 : Int32) = 1) ∧ Q (mk_) (uI (uI (uI (uI (uI (uI (uI h 39 4 (tryX g l n)) 39 3 (nI n)) 40 ((nI n).toNatClampNeg) (nI (cel g l n + 256))) 39 6 (nI ((cntN (fun n => lT l n == 1) (tot g)) + 1))) 51 ((nI c).toNatClampNeg) (nI n)) 50 1 (nI (c + 1))) 39 7 1) from ⟨(by first | exact Or.inl rfl | exact Or.inr rfl | assumption), ?_⟩)
          refine k _ (c + 1) (by omega) (Fq.uI' (Fq.uI' (Fq.uI' (Fq.uI' (Fq.uI' (Fq.uI' (Fq.uI' Fq.rfl' _ _ _ rfl) _ _ _ rfl) _ _ _ rfl) _ _ _ rfl) _ _ _ rfl) _ _ _ rfl) _ _ _ rfl) (cl_try cs.1 cl hn (LkW_try cl.1 hn) (tryL_F g l n) (tryL_T g l n) rfl (by rw [htl]; rfl) (by rw [htl]; rfl) (by rw [htl]; first | rfl | exact hf5) (by rw [htl]; first | rfl | exact hf7) (by rw [if_neg (by omega)]; rfl) rfl (fun m hm q => by show rI (uI h 40 (nI n).toNatClampNeg (nI (cel g l n + 256))) 40 m = rI h 40 m; rw [nI_clamp (by omega), rI_uI_at q]) (by show rI (uI h 40 (nI n).toNatClampNeg (nI (cel g l n + 256))) 40 n = _; rw [nI_clamp (by omega), rI_uI_eq, if_neg (by omega)]) rfl) (mk_new mk hn hc4 (tryL_T g l n) hT (fun j q => by show rI (uI h 50 1 (nI (c + 1))) 50 j = _; exact rI_uI_at q) rfl (fun j q => by show rI (uI h 51 (nI c).toNatClampNeg (nI n)) 51 j = _; rw [nI_clamp (by omega), rI_uI_at q]) (by show rI (uI h 51 (nI c).toNatClampNeg (nI n)) 51 c = _; rw [nI_clamp (by omega), rI_uI_eq]) rfl)
  · skip
    exact absurd (by decide) c1
theorem c_note3 {d : Nat} {h : Hp} {n c : Nat} {Q : Po} (hc : rI h 53 1 = nI c) (hc4 : c < 40) (k : Q mk_ (uI (uI h 54 (nI c).toNatClampNeg (nI n)) 53 1 (nI (c + 1)))) : wpC (d + 1) true 40 [.ref 53, .int (nI n)] h Q := by
  refine go_in rfl ?_
  refine exf_go 2 (show Go d true 40 4 [.ref 53, .int (nI n)] [.int (rI h 53 1)] h Q from ?_)
  rw [show (rI h 53 1 : Int32) = nI c from hc]
  refine exf_go 2 (show (40 ≤ (nI c) → Go d true 40 29 [.ref 53, .int (nI n)] [] h Q) ∧ (¬ (40 ≤ (nI c)) → Go d true 40 9 [.ref 53, .int (nI n)] [] h Q) from ⟨fun c1 => ?_, fun c1 => ?_⟩)
  · skip
    have c1 : 40 ≤ c := (nI_leI (a := 40) (b := c) (by omega) (by omega)).mp c1
    refine exf_go 1 (show Q (mk_) h from ?_)
    first | (exfalso; omega) | exact k
  · skip
    have c1 : ¬ 40 ≤ c := fun q => c1 ((nI_leI (a := 40) (b := c) (by omega) (by omega)).mpr q)
    refine exf_go 4 (show Go d true 40 17 [.ref 53, .int (nI n)] [.int (rI h 53 1), .ref 54] h Q from ?_)
    rw [show (rI h 53 1 : Int32) = nI c from hc]
    refine exf_go 5 (show vp_in (nI c) 40 ∧ (Go d true 40 24 [.ref 53, .int (nI n)] [.int (rI h 53 1), .ref 53] (uI h 54 ((nI c).toNatClampNeg) (nI n)) Q) from ⟨(vp_in_nI (by omega) (by omega)), ?_⟩)
    rw [show (rI h 53 1 : Int32) = nI c from hc]
    refine exf_go 2 (show Go d true 40 26 [.ref 53, .int (nI n)] [.int ((nI c) + 1), .ref 53] (uI h 54 ((nI c).toNatClampNeg) (nI n)) Q from ?_)
    rw [show ((nI c) + 1 : Int32) = nI (c + 1) from nI_add c 1]
    refine exf_go 2 (show Q (mk_) (uI (uI h 54 ((nI c).toNatClampNeg) (nI n)) 53 1 (nI (c + 1))) from ?_)
    first | (exfalso; omega) | exact k
theorem c_att3 {d : Nat} {h : Hp} {g : ShG} {l l0 : LkG} {n c : Nat} {Q : Po} (cs : CS 31 g h) (cl : CL 39 g l h) (mk : CMK g 3 l0 l c h) (hn : n < tot g) (hc4 : c < 40) (k : ∀ h1 c1, c1 ≤ c + 1 → Fq (sLm 3) h h1 → CL 39 g (tryL g l n) h1 → CMK g 3 l0 (tryL g l n) c1 h1 → Q mk_ h1) : wpC (d + 4) true 34 [.ref 39, .ref 31, .int (nI n), .ref 53] h Q := by
  have hN := tot_b cs.1
  have hA := cl.1.1
  have hf5 := cl_G cl; have hf7 := cl_O cl; have hf6 := cl_T cl; have hfn := cl_Cl cl n hn
  have hcb := cel_b cs.1 cl.1 n
  have hal := cl_al cl
  simp only [Nat.reduceAdd] at hal
  have hob := cs.1.2.2.2.2.2.2.2.2.2.2.2.1
  have hb9 := cs.1.2.2.2.2.2.2.2.2.1
  have hs9 := cs.1.2.2.2.2.2.2.2.2.2.1
  have hcn := cntN_le (fun m => lT l m == 1) (tot g)
  have hp6 := cs.1.2.2.2.2.2.2.2.1
  refine go_in rfl ?_
  refine exf_go 3 (show wpC (d + 3) true 32 [.ref 39, .int (nI n)] h (fun r h' => Go (d + 3) true 34 5 [.ref 39, .ref 31, .int (nI n), .ref 53] [r] h' Q) from ?_)
  refine c_isCell cs cl (by omega) ?_
  show Go (d + 3) true 34 5 [.ref 39, .ref 31, .int (nI n), .ref 53] [.int 1] h Q
  refine exf_go 1 (show (¬ (1 : Int32) = 0 → Go (d + 3) true 34 9 [.ref 39, .ref 31, .int (nI n), .ref 53] [] h Q) ∧ (¬ (¬ (1 : Int32) = 0) → Go (d + 3) true 34 8 [.ref 39, .ref 31, .int (nI n), .ref 53] [] h Q) from ⟨fun c1 => ?_, fun c1 => ?_⟩)
  · skip
    refine exf_go 3 (show Go (d + 3) true 34 14 [.ref 39, .ref 31, .int (nI n), .ref 53] [.int (rI h 39 4), .ref 39] h Q from ?_)
    rw [show (rI h 39 4 : Int32) = lX l from cl_X cl]
    refine exf_go 3 (show Go (d + 3) true 34 19 [.ref 39, .ref 31, .int (nI n), .ref 53] [.int (rI h 39 3), .ref 31, .int (lX l), .ref 39] h Q from ?_)
    rw [show (rI h 39 3 : Int32) = nI (lA l) from cl_A cl]
    refine exf_go 2 (show wpC (d + 3) true 83 [.ref 31, .int (nI (lA l)), .int (nI n)] h (fun r h' => Go (d + 3) true 34 23 [.ref 39, .ref 31, .int (nI n), .ref 53] [r, .int (lX l), .ref 39] h' Q) from ?_)
    refine c_turns cs (n := lA l) (m := n) (by omega) (by omega) ?_
    have htr := trn_b cs.1 (lA l) n
    show Go (d + 3) true 34 23 [.ref 39, .ref 31, .int (nI n), .ref 53] [.int (nI (trn g (lA l) n)), .int (lX l), .ref 39] h Q
    refine exf_go 2 (show Go (d + 3) true 34 27 [.ref 39, .ref 31, .int (nI n), .ref 53] [.int (rI h 31 9), .int (nI (trn g (lA l) n)), .int (lX l), .ref 39] h Q from ?_)
    rw [show (rI h 31 9 : Int32) = nI (sP g) from cs_P cs]
    refine exf_go 1 (show Go (d + 3) true 34 28 [.ref 39, .ref 31, .int (nI n), .ref 53] [.int ((nI (trn g (lA l) n)) + (nI (sP g))), .int (lX l), .ref 39] h Q from ?_)
    rw [show ((nI (trn g (lA l) n)) + (nI (sP g)) : Int32) = nI ((trn g (lA l) n) + (sP g)) from nI_add (trn g (lA l) n) (sP g)]
    refine exf_go 1 (show Go (d + 3) true 34 29 [.ref 39, .ref 31, .int (nI n), .ref 53] [.int ((lX l) + (nI ((trn g (lA l) n) + (sP g)))), .ref 39] h Q from ?_)
    rw [show ((lX l) + (nI ((trn g (lA l) n) + (sP g))) : Int32) = tryX g l n from rfl]
    refine exf_go 8 (show wpC (d + 3) true 30 [.ref 39, .int (nI n), .int 256] (uI (uI h 39 4 (tryX g l n)) 39 3 (nI n)) (fun r h' => Go (d + 3) true 34 45 [.ref 39, .ref 31, .int (nI n), .ref 53] [r] h' Q) from ?_)
    have cl1 := cl_mv cl hn (tryX g l n)
    have cs1 := cs_39 (cs_39 cs 4 (tryX g l n)) 3 (nI n)
    have e1 : cel g (n, tryX g l n, lG l, lO l, lF l, lT l) n = cel g l n := cel_cg rfl rfl
    refine c_hasMark cs1 cl1 hn (fun b2 => ?_) (fun b2 => ?_)
    · skip
      have hT : lT l n = 1 := by have h9 := cl.1.2.2.1 n; have h7 : ¬ lT l n = 0 := fun q => b2 (by rw [e1]; exact (tri_0 cs.1 cl.1).mpr q); omega
      show Go (d + 3) true 34 45 [.ref 39, .ref 31, .int (nI n), .ref 53] [.int 1] (uI (uI h 39 4 (tryX g l n)) 39 3 (nI n)) Q
      refine exf_go 1 (show (¬ (1 : Int32) = 0 → Go (d + 3) true 34 75 [.ref 39, .ref 31, .int (nI n), .ref 53] [] (uI (uI h 39 4 (tryX g l n)) 39 3 (nI n)) Q) ∧ (¬ (¬ (1 : Int32) = 0) → Go (d + 3) true 34 48 [.ref 39, .ref 31, .int (nI n), .ref 53] [] (uI (uI h 39 4 (tryX g l n)) 39 3 (nI n)) Q) from ⟨fun c3 => ?_, fun c3 => ?_⟩)
      · skip
        refine exf_go 3 (show Go (d + 3) true 34 80 [.ref 39, .ref 31, .int (nI n), .ref 53] [.int (rI h 31 15), .int (nI n)] (uI (uI h 39 4 (tryX g l n)) 39 3 (nI n)) Q from ?_)
        rw [show (rI h 31 15 : Int32) = oI (sO g) from cs_O cs]
        refine exf_go 1 (show (¬ (nI n) = (oI (sO g)) → Go (d + 3) true 34 89 [.ref 39, .ref 31, .int (nI n), .ref 53] [] (uI (uI h 39 4 (tryX g l n)) 39 3 (nI n)) Q) ∧ (¬ (¬ (nI n) = (oI (sO g))) → Go (d + 3) true 34 83 [.ref 39, .ref 31, .int (nI n), .ref 53] [] (uI (uI h 39 4 (tryX g l n)) 39 3 (nI n)) Q) from ⟨fun c4 => ?_, fun c4 => ?_⟩)
        · skip
          have hso : ¬ sO g = some n := fun q => c4 ((oI_some hob hN.2 hn).mpr q)
          refine exf_go 3 (show Go (d + 3) true 34 94 [.ref 39, .ref 31, .int (nI n), .ref 53] [.int (rI h 39 5), .ref 39] (uI (uI h 39 4 (tryX g l n)) 39 3 (nI n)) Q from ?_)
          rw [show (rI h 39 5 : Int32) = lG l from cl_G cl]
          refine exf_go 5 (show Go (d + 3) true 34 103 [.ref 39, .ref 31, .int (nI n), .ref 53] [.int (rI h 31 10)] (uI (uI (uI h 39 4 (tryX g l n)) 39 3 (nI n)) 39 5 ((lG l) + 1)) Q from ?_)
          rw [show (rI h 31 10 : Int32) = nI (sBA g) from cs_BA cs]
          refine exf_go 1 (show ((nI (sBA g)) ≤ 0 → Go (d + 3) true 34 135 [.ref 39, .ref 31, .int (nI n), .ref 53] [] (uI (uI (uI h 39 4 (tryX g l n)) 39 3 (nI n)) 39 5 ((lG l) + 1)) Q) ∧ (¬ ((nI (sBA g)) ≤ 0) → Go (d + 3) true 34 106 [.ref 39, .ref 31, .int (nI n), .ref 53] [] (uI (uI (uI h 39 4 (tryX g l n)) 39 3 (nI n)) 39 5 ((lG l) + 1)) Q) from ⟨fun c5 => ?_, fun c5 => ?_⟩)
          · skip
            have c5 : (sBA g) ≤ 0 := (nI_leI (a := (sBA g)) (b := 0) (by omega) (by omega)).mp c5
            have htl : tryL g l n = (n, tryX g l n, lG l + 1, lO l, lF l, va_up (lT l) n 1) := by unfold tryL; rw [if_neg hso, if_neg (fun q => by omega)]
            refine exf_go 1 (show Q (mk_) (uI (uI (uI h 39 4 (tryX g l n)) 39 3 (nI n)) 39 5 ((lG l) + 1)) from ?_)
            refine k _ c (by omega) (Fq.uI' (Fq.uI' (Fq.uI' Fq.rfl' _ _ _ rfl) _ _ _ rfl) _ _ _ rfl) (cl_try cs.1 cl hn (LkW_try cl.1 hn) (tryL_F g l n) (tryL_T g l n) rfl (by rw [htl]; rfl) (by rw [htl]; rfl) (by rw [htl]; first | rfl | exact hf5) (by rw [htl]; first | rfl | exact hf7) (by rw [if_pos hT]; exact hf6) rfl (fun m hm q => rfl) (by rw [if_pos hT]; exact hfn) rfl) (mk_old (mk_fq mk rfl rfl rfl) (tryL_T g l n) hT)
          · skip
            have c5 : ¬ (sBA g) ≤ 0 := fun q => c5 ((nI_leI (a := (sBA g)) (b := 0) (by omega) (by omega)).mpr q)
            refine exf_go 4 (show Go (d + 3) true 34 114 [.ref 39, .ref 31, .int (nI n), .ref 53] [.int (rI h 31 10), .int ((lG l) + 1)] (uI (uI (uI h 39 4 (tryX g l n)) 39 3 (nI n)) 39 5 ((lG l) + 1)) Q from ?_)
            rw [show (rI h 31 10 : Int32) = nI (sBA g) from cs_BA cs]
            refine exf_go 1 (show (((lG l) + 1) < (nI (sBA g)) → Go (d + 3) true 34 135 [.ref 39, .ref 31, .int (nI n), .ref 53] [] (uI (uI (uI h 39 4 (tryX g l n)) 39 3 (nI n)) 39 5 ((lG l) + 1)) Q) ∧ (¬ (((lG l) + 1) < (nI (sBA g))) → Go (d + 3) true 34 117 [.ref 39, .ref 31, .int (nI n), .ref 53] [] (uI (uI (uI h 39 4 (tryX g l n)) 39 3 (nI n)) 39 5 ((lG l) + 1)) Q) from ⟨fun c6 => ?_, fun c6 => ?_⟩)
            · skip
              have htl : tryL g l n = (n, tryX g l n, lG l + 1, lO l, lF l, va_up (lT l) n 1) := by unfold tryL; rw [if_neg hso, if_neg (fun q => Int32.not_le.mpr c6 q.2)]
              refine exf_go 1 (show Q (mk_) (uI (uI (uI h 39 4 (tryX g l n)) 39 3 (nI n)) 39 5 ((lG l) + 1)) from ?_)
              refine k _ c (by omega) (Fq.uI' (Fq.uI' (Fq.uI' Fq.rfl' _ _ _ rfl) _ _ _ rfl) _ _ _ rfl) (cl_try cs.1 cl hn (LkW_try cl.1 hn) (tryL_F g l n) (tryL_T g l n) rfl (by rw [htl]; rfl) (by rw [htl]; rfl) (by rw [htl]; first | rfl | exact hf5) (by rw [htl]; first | rfl | exact hf7) (by rw [if_pos hT]; exact hf6) rfl (fun m hm q => rfl) (by rw [if_pos hT]; exact hfn) rfl) (mk_old (mk_fq mk rfl rfl rfl) (tryL_T g l n) hT)
            · skip
              have htl : tryL g l n = (n, tryX g l n + nI (sBS g), 0, lO l, lF l, va_up (lT l) n 1) := by unfold tryL; rw [if_neg hso, if_pos ⟨by omega, Int32.not_lt.mp c6⟩]
              refine exf_go 8 (show Go (d + 3) true 34 131 [.ref 39, .ref 31, .int (nI n), .ref 53] [.int (rI h 31 11), .int (tryX g l n), .ref 39] (uI (uI (uI (uI h 39 4 (tryX g l n)) 39 3 (nI n)) 39 5 ((lG l) + 1)) 39 5 0) Q from ?_)
              rw [show (rI h 31 11 : Int32) = nI (sBS g) from cs_BS cs]
              refine exf_go 3 (show Q (mk_) (uI (uI (uI (uI (uI h 39 4 (tryX g l n)) 39 3 (nI n)) 39 5 ((lG l) + 1)) 39 5 0) 39 4 ((tryX g l n) + (nI (sBS g)))) from ?_)
              refine k _ c (by omega) (Fq.uI' (Fq.uI' (Fq.uI' (Fq.uI' (Fq.uI' Fq.rfl' _ _ _ rfl) _ _ _ rfl) _ _ _ rfl) _ _ _ rfl) _ _ _ rfl) (cl_try cs.1 cl hn (LkW_try cl.1 hn) (tryL_F g l n) (tryL_T g l n) rfl (by rw [htl]; rfl) (by rw [htl]; rfl) (by rw [htl]; first | rfl | exact hf5) (by rw [htl]; first | rfl | exact hf7) (by rw [if_pos hT]; exact hf6) rfl (fun m hm q => rfl) (by rw [if_pos hT]; exact hfn) rfl) (mk_old (mk_fq mk rfl rfl rfl) (tryL_T g l n) hT)
        · skip
          have hso : sO g = some n := (oI_some hob hN.2 hn).mp (Classical.not_not.mp c4)
          have htl : tryL g l n = (n, tryX g l n, lG l, 1, lF l, va_up (lT l) n 1) := by unfold tryL; rw [if_pos hso]
          refine exf_go 4 (show ((1 : Int32) = 0 ∨ (1 : Int32) = 1) ∧ Q (mk_) (uI (uI (uI h 39 4 (tryX g l n)) 39 3 (nI n)) 39 7 1) from ⟨(by first | exact Or.inl rfl | exact Or.inr rfl | assumption), ?_⟩)
          refine k _ c (by omega) (Fq.uI' (Fq.uI' (Fq.uI' Fq.rfl' _ _ _ rfl) _ _ _ rfl) _ _ _ rfl) (cl_try cs.1 cl hn (LkW_try cl.1 hn) (tryL_F g l n) (tryL_T g l n) rfl (by rw [htl]; rfl) (by rw [htl]; rfl) (by rw [htl]; first | rfl | exact hf5) (by rw [htl]; first | rfl | exact hf7) (by rw [if_pos hT]; exact hf6) rfl (fun m hm q => rfl) (by rw [if_pos hT]; exact hfn) rfl) (mk_old (mk_fq mk rfl rfl rfl) (tryL_T g l n) hT)
      · skip
        exact absurd (by decide) c3
    · skip
      have hT : lT l n = 0 := (tri_0 cs.1 cl.1).mp (e1 ▸ b2)
      show Go (d + 3) true 34 45 [.ref 39, .ref 31, .int (nI n), .ref 53] [.int 0] (uI (uI h 39 4 (tryX g l n)) 39 3 (nI n)) Q
      refine exf_go 1 (show (¬ (0 : Int32) = 0 → Go (d + 3) true 34 75 [.ref 39, .ref 31, .int (nI n), .ref 53] [] (uI (uI h 39 4 (tryX g l n)) 39 3 (nI n)) Q) ∧ (¬ (¬ (0 : Int32) = 0) → Go (d + 3) true 34 48 [.ref 39, .ref 31, .int (nI n), .ref 53] [] (uI (uI h 39 4 (tryX g l n)) 39 3 (nI n)) Q) from ⟨fun c7 => ?_, fun c7 => ?_⟩)
      · skip
        exact absurd c7 (by decide)
      · skip
        refine exf_go 5 (show vp_in (nI n) (al h 40) ∧ (Go (d + 3) true 34 55 [.ref 39, .ref 31, .int (nI n), .ref 53] [.int (rI h 40 ((nI n).toNatClampNeg)), .int (nI n), .ref 40] (uI (uI h 39 4 (tryX g l n)) 39 3 (nI n)) Q) from ⟨(vp_in_nI (by omega) (by omega)), ?_⟩)
        rw [show (rI h 40 ((nI n).toNatClampNeg) : Int32) = nI (cel g l n) from cl_C cs cl (n := n) (by omega)]
        refine exf_go 2 (show Go (d + 3) true 34 59 [.ref 39, .ref 31, .int (nI n), .ref 53] [.int ((nI (cel g l n)) ||| 256), .int (nI n), .ref 40] (uI (uI h 39 4 (tryX g l n)) 39 3 (nI n)) Q from ?_)
        rw [show ((nI (cel g l n)) ||| 256 : Int32) = nI (cel g l n + 256) from by rw [show (256 : Int32) = nI 256 from rfl, nI_or, or_tri _ hcb, if_pos (by rw [cel_tri cs.1 cl.1]; exact hT)]]
        refine exf_go 4 (show vp_in (nI n) (al h 40) ∧ (Go (d + 3) true 34 65 [.ref 39, .ref 31, .int (nI n), .ref 53] [.int (rI h 39 6), .ref 39] (uI (uI (uI h 39 4 (tryX g l n)) 39 3 (nI n)) 40 ((nI n).toNatClampNeg) (nI (cel g l n + 256))) Q) from ⟨(vp_in_nI (by omega) (by omega)), ?_⟩)
        rw [show (rI h 39 6 : Int32) = nI (cntN (fun n => lT l n == 1) (tot g)) from cl_T cl]
        refine exf_go 2 (show Go (d + 3) true 34 67 [.ref 39, .ref 31, .int (nI n), .ref 53] [.int ((nI (cntN (fun n => lT l n == 1) (tot g))) + 1), .ref 39] (uI (uI (uI h 39 4 (tryX g l n)) 39 3 (nI n)) 40 ((nI n).toNatClampNeg) (nI (cel g l n + 256))) Q from ?_)
        rw [show ((nI (cntN (fun n => lT l n == 1) (tot g))) + 1 : Int32) = nI ((cntN (fun n => lT l n == 1) (tot g)) + 1) from nI_add (cntN (fun n => lT l n == 1) (tot g)) 1]
        refine exf_go 4 (show wpC (d + 3) true 40 [.ref 53, .int (nI n)] (uI (uI (uI (uI h 39 4 (tryX g l n)) 39 3 (nI n)) 40 ((nI n).toNatClampNeg) (nI (cel g l n + 256))) 39 6 (nI ((cntN (fun n => lT l n == 1) (tot g)) + 1))) (fun _ h' => Go (d + 3) true 34 75 [.ref 39, .ref 31, .int (nI n), .ref 53] [] h' Q) from ?_)
        refine c_note3 (c := c) mk.2.1.1 hc4 ?_
        show Go (d + 3) true 34 75 [.ref 39, .ref 31, .int (nI n), .ref 53] [] (uI (uI (uI (uI (uI (uI h 39 4 (tryX g l n)) 39 3 (nI n)) 40 ((nI n).toNatClampNeg) (nI (cel g l n + 256))) 39 6 (nI ((cntN (fun n => lT l n == 1) (tot g)) + 1))) 54 ((nI c).toNatClampNeg) (nI n)) 53 1 (nI (c + 1))) Q
        refine exf_go 3 (show Go (d + 3) true 34 80 [.ref 39, .ref 31, .int (nI n), .ref 53] [.int (rI h 31 15), .int (nI n)] (uI (uI (uI (uI (uI (uI h 39 4 (tryX g l n)) 39 3 (nI n)) 40 ((nI n).toNatClampNeg) (nI (cel g l n + 256))) 39 6 (nI ((cntN (fun n => lT l n == 1) (tot g)) + 1))) 54 ((nI c).toNatClampNeg) (nI n)) 53 1 (nI (c + 1))) Q from ?_)
        rw [show (rI h 31 15 : Int32) = oI (sO g) from cs_O cs]
        refine exf_go 1 (show (¬ (nI n) = (oI (sO g)) → Go (d + 3) true 34 89 [.ref 39, .ref 31, .int (nI n), .ref 53] [] (uI (uI (uI (uI (uI (uI h 39 4 (tryX g l n)) 39 3 (nI n)) 40 ((nI n).toNatClampNeg) (nI (cel g l n + 256))) 39 6 (nI ((cntN (fun n => lT l n == 1) (tot g)) + 1))) 54 ((nI c).toNatClampNeg) (nI n)) 53 1 (nI (c + 1))) Q) ∧ (¬ (¬ (nI n) = (oI (sO g))) → Go (d + 3) true 34 83 [.ref 39, .ref 31, .int (nI n), .ref 53] [] (uI (uI (uI (uI (uI (uI h 39 4 (tryX g l n)) 39 3 (nI n)) 40 ((nI n).toNatClampNeg) (nI (cel g l n + 256))) 39 6 (nI ((cntN (fun n => lT l n == 1) (tot g)) + 1))) 54 ((nI c).toNatClampNeg) (nI n)) 53 1 (nI (c + 1))) Q) from ⟨fun c8 => ?_, fun c8 => ?_⟩)
        · skip
          have hso : ¬ sO g = some n := fun q => c8 ((oI_some hob hN.2 hn).mpr q)
          refine exf_go 3 (show Go (d + 3) true 34 94 [.ref 39, .ref 31, .int (nI n), .ref 53] [.int (rI h 39 5), .ref 39] (uI (uI (uI (uI (uI (uI h 39 4 (tryX g l n)) 39 3 (nI n)) 40 ((nI n).toNatClampNeg) (nI (cel g l n + 256))) 39 6 (nI ((cntN (fun n => lT l n == 1) (tot g)) + 1))) 54 ((nI c).toNatClampNeg) (nI n)) 53 1 (nI (c + 1))) Q from ?_)
          rw [show (rI h 39 5 : Int32) = lG l from cl_G cl]
          refine exf_go 5 (show Go (d + 3) true 34 103 [.ref 39, .ref 31, .int (nI n), .ref 53] [.int (rI h 31 10)] (uI (uI (uI (uI (uI (uI (uI h 39 4 (tryX g l n)) 39 3 (nI n)) 40 ((nI n).toNatClampNeg) (nI (cel g l n + 256))) 39 6 (nI ((cntN (fun n => lT l n == 1) (tot g)) + 1))) 54 ((nI c).toNatClampNeg) (nI n)) 53 1 (nI (c + 1))) 39 5 ((lG l) + 1)) Q from ?_)
          rw [show (rI h 31 10 : Int32) = nI (sBA g) from cs_BA cs]
          refine exf_go 1 (show ((nI (sBA g)) ≤ 0 → Go (d + 3) true 34 135 [.ref 39, .ref 31, .int (nI n), .ref 53] [] (uI (uI (uI (uI (uI (uI (uI h 39 4 (tryX g l n)) 39 3 (nI n)) 40 ((nI n).toNatClampNeg) (nI (cel g l n + 256))) 39 6 (nI ((cntN (fun n => lT l n == 1) (tot g)) + 1))) 54 ((nI c).toNatClampNeg) (nI n)) 53 1 (nI (c + 1))) 39 5 ((lG l) + 1)) Q) ∧ (¬ ((nI (sBA g)) ≤ 0) → Go (d + 3) true 34 106 [.ref 39, .ref 31, .int (nI n), .ref 53] [] (uI (uI (uI (uI (uI (uI (uI h 39 4 (tryX g l n)) 39 3 (nI n)) 40 ((nI n).toNatClampNeg) (nI (cel g l n + 256))) 39 6 (nI ((cntN (fun n => lT l n == 1) (tot g)) + 1))) 54 ((nI c).toNatClampNeg) (nI n)) 53 1 (nI (c + 1))) 39 5 ((lG l) + 1)) Q) from ⟨fun c9 => ?_, fun c9 => ?_⟩)
          · skip
            have c9 : (sBA g) ≤ 0 := (nI_leI (a := (sBA g)) (b := 0) (by omega) (by omega)).mp c9
            have htl : tryL g l n = (n, tryX g l n, lG l + 1, lO l, lF l, va_up (lT l) n 1) := by unfold tryL; rw [if_neg hso, if_neg (fun q => by omega)]
            refine exf_go 1 (show Q (mk_) (uI (uI (uI (uI (uI (uI (uI h 39 4 (tryX g l n)) 39 3 (nI n)) 40 ((nI n).toNatClampNeg) (nI (cel g l n + 256))) 39 6 (nI ((cntN (fun n => lT l n == 1) (tot g)) + 1))) 54 ((nI c).toNatClampNeg) (nI n)) 53 1 (nI (c + 1))) 39 5 ((lG l) + 1)) from ?_)
            refine k _ (c + 1) (by omega) (Fq.uI' (Fq.uI' (Fq.uI' (Fq.uI' (Fq.uI' (Fq.uI' (Fq.uI' Fq.rfl' _ _ _ rfl) _ _ _ rfl) _ _ _ rfl) _ _ _ rfl) _ _ _ rfl) _ _ _ rfl) _ _ _ rfl) (cl_try cs.1 cl hn (LkW_try cl.1 hn) (tryL_F g l n) (tryL_T g l n) rfl (by rw [htl]; rfl) (by rw [htl]; rfl) (by rw [htl]; first | rfl | exact hf5) (by rw [htl]; first | rfl | exact hf7) (by rw [if_neg (by omega)]; rfl) rfl (fun m hm q => by show rI (uI h 40 (nI n).toNatClampNeg (nI (cel g l n + 256))) 40 m = rI h 40 m; rw [nI_clamp (by omega), rI_uI_at q]) (by show rI (uI h 40 (nI n).toNatClampNeg (nI (cel g l n + 256))) 40 n = _; rw [nI_clamp (by omega), rI_uI_eq, if_neg (by omega)]) rfl) (mk_new mk hn hc4 (tryL_T g l n) hT (fun j q => by show rI (uI h 53 1 (nI (c + 1))) 53 j = _; exact rI_uI_at q) rfl (fun j q => by show rI (uI h 54 (nI c).toNatClampNeg (nI n)) 54 j = _; rw [nI_clamp (by omega), rI_uI_at q]) (by show rI (uI h 54 (nI c).toNatClampNeg (nI n)) 54 c = _; rw [nI_clamp (by omega), rI_uI_eq]) rfl)
          · skip
            have c9 : ¬ (sBA g) ≤ 0 := fun q => c9 ((nI_leI (a := (sBA g)) (b := 0) (by omega) (by omega)).mpr q)
            refine exf_go 4 (show Go (d + 3) true 34 114 [.ref 39, .ref 31, .int (nI n), .ref 53] [.int (rI h 31 10), .int ((lG l) + 1)] (uI (uI (uI (uI (uI (uI (uI h 39 4 (tryX g l n)) 39 3 (nI n)) 40 ((nI n).toNatClampNeg) (nI (cel g l n + 256))) 39 6 (nI ((cntN (fun n => lT l n == 1) (tot g)) + 1))) 54 ((nI c).toNatClampNeg) (nI n)) 53 1 (nI (c + 1))) 39 5 ((lG l) + 1)) Q from ?_)
            rw [show (rI h 31 10 : Int32) = nI (sBA g) from cs_BA cs]
            refine exf_go 1 (show (((lG l) + 1) < (nI (sBA g)) → Go (d + 3) true 34 135 [.ref 39, .ref 31, .int (nI n), .ref 53] [] (uI (uI (uI (uI (uI (uI (uI h 39 4 (tryX g l n)) 39 3 (nI n)) 40 ((nI n).toNatClampNeg) (nI (cel g l n + 256))) 39 6 (nI ((cntN (fun n => lT l n == 1) (tot g)) + 1))) 54 ((nI c).toNatClampNeg) (nI n)) 53 1 (nI (c + 1))) 39 5 ((lG l) + 1)) Q) ∧ (¬ (((lG l) + 1) < (nI (sBA g))) → Go (d + 3) true 34 117 [.ref 39, .ref 31, .int (nI n), .ref 53] [] (uI (uI (uI (uI (uI (uI (uI h 39 4 (tryX g l n)) 39 3 (nI n)) 40 ((nI n).toNatClampNeg) (nI (cel g l n + 256))) 39 6 (nI ((cntN (fun n => lT l n == 1) (tot g)) + 1))) 54 ((nI c).toNatClampNeg) (nI n)) 53 1 (nI (c + 1))) 39 5 ((lG l) + 1)) Q) from ⟨fun c10 => ?_, fun c10 => ?_⟩)
            · skip
              have htl : tryL g l n = (n, tryX g l n, lG l + 1, lO l, lF l, va_up (lT l) n 1) := by unfold tryL; rw [if_neg hso, if_neg (fun q => Int32.not_le.mpr c10 q.2)]
              refine exf_go 1 (show Q (mk_) (uI (uI (uI (uI (uI (uI (uI h 39 4 (tryX g l n)) 39 3 (nI n)) 40 ((nI n).toNatClampNeg) (nI (cel g l n + 256))) 39 6 (nI ((cntN (fun n => lT l n == 1) (tot g)) + 1))) 54 ((nI c).toNatClampNeg) (nI n)) 53 1 (nI (c + 1))) 39 5 ((lG l) + 1)) from ?_)
              refine k _ (c + 1) (by omega) (Fq.uI' (Fq.uI' (Fq.uI' (Fq.uI' (Fq.uI' (Fq.uI' (Fq.uI' Fq.rfl' _ _ _ rfl) _ _ _ rfl) _ _ _ rfl) _ _ _ rfl) _ _ _ rfl) _ _ _ rfl) _ _ _ rfl) (cl_try cs.1 cl hn (LkW_try cl.1 hn) (tryL_F g l n) (tryL_T g l n) rfl (by rw [htl]; rfl) (by rw [htl]; rfl) (by rw [htl]; first | rfl | exact hf5) (by rw [htl]; first | rfl | exact hf7) (by rw [if_neg (by omega)]; rfl) rfl (fun m hm q => by show rI (uI h 40 (nI n).toNatClampNeg (nI (cel g l n + 256))) 40 m = rI h 40 m; rw [nI_clamp (by omega), rI_uI_at q]) (by show rI (uI h 40 (nI n).toNatClampNeg (nI (cel g l n + 256))) 40 n = _; rw [nI_clamp (by omega), rI_uI_eq, if_neg (by omega)]) rfl) (mk_new mk hn hc4 (tryL_T g l n) hT (fun j q => by show rI (uI h 53 1 (nI (c + 1))) 53 j = _; exact rI_uI_at q) rfl (fun j q => by show rI (uI h 54 (nI c).toNatClampNeg (nI n)) 54 j = _; rw [nI_clamp (by omega), rI_uI_at q]) (by show rI (uI h 54 (nI c).toNatClampNeg (nI n)) 54 c = _; rw [nI_clamp (by omega), rI_uI_eq]) rfl)
            · skip
              have htl : tryL g l n = (n, tryX g l n + nI (sBS g), 0, lO l, lF l, va_up (lT l) n 1) := by unfold tryL; rw [if_neg hso, if_pos ⟨by omega, Int32.not_lt.mp c10⟩]
              refine exf_go 8 (show Go (d + 3) true 34 131 [.ref 39, .ref 31, .int (nI n), .ref 53] [.int (rI h 31 11), .int (tryX g l n), .ref 39] (uI (uI (uI (uI (uI (uI (uI (uI h 39 4 (tryX g l n)) 39 3 (nI n)) 40 ((nI n).toNatClampNeg) (nI (cel g l n + 256))) 39 6 (nI ((cntN (fun n => lT l n == 1) (tot g)) + 1))) 54 ((nI c).toNatClampNeg) (nI n)) 53 1 (nI (c + 1))) 39 5 ((lG l) + 1)) 39 5 0) Q from ?_)
              rw [show (rI h 31 11 : Int32) = nI (sBS g) from cs_BS cs]
              refine exf_go 3 (show Q (mk_) (uI (uI (uI (uI (uI (uI (uI (uI (uI h 39 4 (tryX g l n)) 39 3 (nI n)) 40 ((nI n).toNatClampNeg) (nI (cel g l n + 256))) 39 6 (nI ((cntN (fun n => lT l n == 1) (tot g)) + 1))) 54 ((nI c).toNatClampNeg) (nI n)) 53 1 (nI (c + 1))) 39 5 ((lG l) + 1)) 39 5 0) 39 4 ((tryX g l n) + (nI (sBS g)))) from ?_)
              refine k _ (c + 1) (by omega) (Fq.uI' (Fq.uI' (Fq.uI' (Fq.uI' (Fq.uI' (Fq.uI' (Fq.uI' (Fq.uI' (Fq.uI' Fq.rfl' _ _ _ rfl) _ _ _ rfl) _ _ _ rfl) _ _ _ rfl) _ _ _ rfl) _ _ _ rfl) _ _ _ rfl) _ _ _ rfl) _ _ _ rfl) (cl_try cs.1 cl hn (LkW_try cl.1 hn) (tryL_F g l n) (tryL_T g l n) rfl (by rw [htl]; rfl) (by rw [htl]; rfl) (by rw [htl]; first | rfl | exact hf5) (by rw [htl]; first | rfl | exact hf7) (by rw [if_neg (by omega)]; rfl) rfl (fun m hm q => by show rI (uI h 40 (nI n).toNatClampNeg (nI (cel g l n + 256))) 40 m = rI h 40 m; rw [nI_clamp (by omega), rI_uI_at q]) (by show rI (uI h 40 (nI n).toNatClampNeg (nI (cel g l n + 256))) 40 n = _; rw [nI_clamp (by omega), rI_uI_eq, if_neg (by omega)]) rfl) (mk_new mk hn hc4 (tryL_T g l n) hT (fun j q => by show rI (uI h 53 1 (nI (c + 1))) 53 j = _; exact rI_uI_at q) rfl (fun j q => by show rI (uI h 54 (nI c).toNatClampNeg (nI n)) 54 j = _; rw [nI_clamp (by omega), rI_uI_at q]) (by show rI (uI h 54 (nI c).toNatClampNeg (nI n)) 54 c = _; rw [nI_clamp (by omega), rI_uI_eq]) rfl)
        · skip
          have hso : sO g = some n := (oI_some hob hN.2 hn).mp (Classical.not_not.mp c8)
          have htl : tryL g l n = (n, tryX g l n, lG l, 1, lF l, va_up (lT l) n 1) := by unfold tryL; rw [if_pos hso]
          refine exf_go 4 (show ((1 : Int32) = 0 ∨ (1 : Int32) = 1) ∧ Q (mk_) (uI (uI (uI (uI (uI (uI (uI h 39 4 (tryX g l n)) 39 3 (nI n)) 40 ((nI n).toNatClampNeg) (nI (cel g l n + 256))) 39 6 (nI ((cntN (fun n => lT l n == 1) (tot g)) + 1))) 54 ((nI c).toNatClampNeg) (nI n)) 53 1 (nI (c + 1))) 39 7 1) from ⟨(by first | exact Or.inl rfl | exact Or.inr rfl | assumption), ?_⟩)
          refine k _ (c + 1) (by omega) (Fq.uI' (Fq.uI' (Fq.uI' (Fq.uI' (Fq.uI' (Fq.uI' (Fq.uI' Fq.rfl' _ _ _ rfl) _ _ _ rfl) _ _ _ rfl) _ _ _ rfl) _ _ _ rfl) _ _ _ rfl) _ _ _ rfl) (cl_try cs.1 cl hn (LkW_try cl.1 hn) (tryL_F g l n) (tryL_T g l n) rfl (by rw [htl]; rfl) (by rw [htl]; rfl) (by rw [htl]; first | rfl | exact hf5) (by rw [htl]; first | rfl | exact hf7) (by rw [if_neg (by omega)]; rfl) rfl (fun m hm q => by show rI (uI h 40 (nI n).toNatClampNeg (nI (cel g l n + 256))) 40 m = rI h 40 m; rw [nI_clamp (by omega), rI_uI_at q]) (by show rI (uI h 40 (nI n).toNatClampNeg (nI (cel g l n + 256))) 40 n = _; rw [nI_clamp (by omega), rI_uI_eq, if_neg (by omega)]) rfl) (mk_new mk hn hc4 (tryL_T g l n) hT (fun j q => by show rI (uI h 53 1 (nI (c + 1))) 53 j = _; exact rI_uI_at q) rfl (fun j q => by show rI (uI h 54 (nI c).toNatClampNeg (nI n)) 54 j = _; rw [nI_clamp (by omega), rI_uI_at q]) (by show rI (uI h 54 (nI c).toNatClampNeg (nI n)) 54 c = _; rw [nI_clamp (by omega), rI_uI_eq]) rfl)
  · skip
    exact absurd (by decide) c1
theorem c_note4 {d : Nat} {h : Hp} {n c : Nat} {Q : Po} (hc : rI h 56 1 = nI c) (hc4 : c < 40) (k : Q mk_ (uI (uI h 57 (nI c).toNatClampNeg (nI n)) 56 1 (nI (c + 1)))) : wpC (d + 1) true 40 [.ref 56, .int (nI n)] h Q := by
  refine go_in rfl ?_
  refine exf_go 2 (show Go d true 40 4 [.ref 56, .int (nI n)] [.int (rI h 56 1)] h Q from ?_)
  rw [show (rI h 56 1 : Int32) = nI c from hc]
  refine exf_go 2 (show (40 ≤ (nI c) → Go d true 40 29 [.ref 56, .int (nI n)] [] h Q) ∧ (¬ (40 ≤ (nI c)) → Go d true 40 9 [.ref 56, .int (nI n)] [] h Q) from ⟨fun c1 => ?_, fun c1 => ?_⟩)
  · skip
    have c1 : 40 ≤ c := (nI_leI (a := 40) (b := c) (by omega) (by omega)).mp c1
    refine exf_go 1 (show Q (mk_) h from ?_)
    first | (exfalso; omega) | exact k
  · skip
    have c1 : ¬ 40 ≤ c := fun q => c1 ((nI_leI (a := 40) (b := c) (by omega) (by omega)).mpr q)
    refine exf_go 4 (show Go d true 40 17 [.ref 56, .int (nI n)] [.int (rI h 56 1), .ref 57] h Q from ?_)
    rw [show (rI h 56 1 : Int32) = nI c from hc]
    refine exf_go 5 (show vp_in (nI c) 40 ∧ (Go d true 40 24 [.ref 56, .int (nI n)] [.int (rI h 56 1), .ref 56] (uI h 57 ((nI c).toNatClampNeg) (nI n)) Q) from ⟨(vp_in_nI (by omega) (by omega)), ?_⟩)
    rw [show (rI h 56 1 : Int32) = nI c from hc]
    refine exf_go 2 (show Go d true 40 26 [.ref 56, .int (nI n)] [.int ((nI c) + 1), .ref 56] (uI h 57 ((nI c).toNatClampNeg) (nI n)) Q from ?_)
    rw [show ((nI c) + 1 : Int32) = nI (c + 1) from nI_add c 1]
    refine exf_go 2 (show Q (mk_) (uI (uI h 57 ((nI c).toNatClampNeg) (nI n)) 56 1 (nI (c + 1))) from ?_)
    first | (exfalso; omega) | exact k
theorem c_att4 {d : Nat} {h : Hp} {g : ShG} {l l0 : LkG} {n c : Nat} {Q : Po} (cs : CS 31 g h) (cl : CL 39 g l h) (mk : CMK g 4 l0 l c h) (hn : n < tot g) (hc4 : c < 40) (k : ∀ h1 c1, c1 ≤ c + 1 → Fq (sLm 4) h h1 → CL 39 g (tryL g l n) h1 → CMK g 4 l0 (tryL g l n) c1 h1 → Q mk_ h1) : wpC (d + 4) true 34 [.ref 39, .ref 31, .int (nI n), .ref 56] h Q := by
  have hN := tot_b cs.1
  have hA := cl.1.1
  have hf5 := cl_G cl; have hf7 := cl_O cl; have hf6 := cl_T cl; have hfn := cl_Cl cl n hn
  have hcb := cel_b cs.1 cl.1 n
  have hal := cl_al cl
  simp only [Nat.reduceAdd] at hal
  have hob := cs.1.2.2.2.2.2.2.2.2.2.2.2.1
  have hb9 := cs.1.2.2.2.2.2.2.2.2.1
  have hs9 := cs.1.2.2.2.2.2.2.2.2.2.1
  have hcn := cntN_le (fun m => lT l m == 1) (tot g)
  have hp6 := cs.1.2.2.2.2.2.2.2.1
  refine go_in rfl ?_
  refine exf_go 3 (show wpC (d + 3) true 32 [.ref 39, .int (nI n)] h (fun r h' => Go (d + 3) true 34 5 [.ref 39, .ref 31, .int (nI n), .ref 56] [r] h' Q) from ?_)
  refine c_isCell cs cl (by omega) ?_
  show Go (d + 3) true 34 5 [.ref 39, .ref 31, .int (nI n), .ref 56] [.int 1] h Q
  refine exf_go 1 (show (¬ (1 : Int32) = 0 → Go (d + 3) true 34 9 [.ref 39, .ref 31, .int (nI n), .ref 56] [] h Q) ∧ (¬ (¬ (1 : Int32) = 0) → Go (d + 3) true 34 8 [.ref 39, .ref 31, .int (nI n), .ref 56] [] h Q) from ⟨fun c1 => ?_, fun c1 => ?_⟩)
  · skip
    refine exf_go 3 (show Go (d + 3) true 34 14 [.ref 39, .ref 31, .int (nI n), .ref 56] [.int (rI h 39 4), .ref 39] h Q from ?_)
    rw [show (rI h 39 4 : Int32) = lX l from cl_X cl]
    refine exf_go 3 (show Go (d + 3) true 34 19 [.ref 39, .ref 31, .int (nI n), .ref 56] [.int (rI h 39 3), .ref 31, .int (lX l), .ref 39] h Q from ?_)
    rw [show (rI h 39 3 : Int32) = nI (lA l) from cl_A cl]
    refine exf_go 2 (show wpC (d + 3) true 83 [.ref 31, .int (nI (lA l)), .int (nI n)] h (fun r h' => Go (d + 3) true 34 23 [.ref 39, .ref 31, .int (nI n), .ref 56] [r, .int (lX l), .ref 39] h' Q) from ?_)
    refine c_turns cs (n := lA l) (m := n) (by omega) (by omega) ?_
    have htr := trn_b cs.1 (lA l) n
    show Go (d + 3) true 34 23 [.ref 39, .ref 31, .int (nI n), .ref 56] [.int (nI (trn g (lA l) n)), .int (lX l), .ref 39] h Q
    refine exf_go 2 (show Go (d + 3) true 34 27 [.ref 39, .ref 31, .int (nI n), .ref 56] [.int (rI h 31 9), .int (nI (trn g (lA l) n)), .int (lX l), .ref 39] h Q from ?_)
    rw [show (rI h 31 9 : Int32) = nI (sP g) from cs_P cs]
    refine exf_go 1 (show Go (d + 3) true 34 28 [.ref 39, .ref 31, .int (nI n), .ref 56] [.int ((nI (trn g (lA l) n)) + (nI (sP g))), .int (lX l), .ref 39] h Q from ?_)
    rw [show ((nI (trn g (lA l) n)) + (nI (sP g)) : Int32) = nI ((trn g (lA l) n) + (sP g)) from nI_add (trn g (lA l) n) (sP g)]
    refine exf_go 1 (show Go (d + 3) true 34 29 [.ref 39, .ref 31, .int (nI n), .ref 56] [.int ((lX l) + (nI ((trn g (lA l) n) + (sP g)))), .ref 39] h Q from ?_)
    rw [show ((lX l) + (nI ((trn g (lA l) n) + (sP g))) : Int32) = tryX g l n from rfl]
    refine exf_go 8 (show wpC (d + 3) true 30 [.ref 39, .int (nI n), .int 256] (uI (uI h 39 4 (tryX g l n)) 39 3 (nI n)) (fun r h' => Go (d + 3) true 34 45 [.ref 39, .ref 31, .int (nI n), .ref 56] [r] h' Q) from ?_)
    have cl1 := cl_mv cl hn (tryX g l n)
    have cs1 := cs_39 (cs_39 cs 4 (tryX g l n)) 3 (nI n)
    have e1 : cel g (n, tryX g l n, lG l, lO l, lF l, lT l) n = cel g l n := cel_cg rfl rfl
    refine c_hasMark cs1 cl1 hn (fun b2 => ?_) (fun b2 => ?_)
    · skip
      have hT : lT l n = 1 := by have h9 := cl.1.2.2.1 n; have h7 : ¬ lT l n = 0 := fun q => b2 (by rw [e1]; exact (tri_0 cs.1 cl.1).mpr q); omega
      show Go (d + 3) true 34 45 [.ref 39, .ref 31, .int (nI n), .ref 56] [.int 1] (uI (uI h 39 4 (tryX g l n)) 39 3 (nI n)) Q
      refine exf_go 1 (show (¬ (1 : Int32) = 0 → Go (d + 3) true 34 75 [.ref 39, .ref 31, .int (nI n), .ref 56] [] (uI (uI h 39 4 (tryX g l n)) 39 3 (nI n)) Q) ∧ (¬ (¬ (1 : Int32) = 0) → Go (d + 3) true 34 48 [.ref 39, .ref 31, .int (nI n), .ref 56] [] (uI (uI h 39 4 (tryX g l n)) 39 3 (nI n)) Q) from ⟨fun c3 => ?_, fun c3 => ?_⟩)
      · skip
        refine exf_go 3 (show Go (d + 3) true 34 80 [.ref 39, .ref 31, .int (nI n), .ref 56] [.int (rI h 31 15), .int (nI n)] (uI (uI h 39 4 (tryX g l n)) 39 3 (nI n)) Q from ?_)
        rw [show (rI h 31 15 : Int32) = oI (sO g) from cs_O cs]
        refine exf_go 1 (show (¬ (nI n) = (oI (sO g)) → Go (d + 3) true 34 89 [.ref 39, .ref 31, .int (nI n), .ref 56] [] (uI (uI h 39 4 (tryX g l n)) 39 3 (nI n)) Q) ∧ (¬ (¬ (nI n) = (oI (sO g))) → Go (d + 3) true 34 83 [.ref 39, .ref 31, .int (nI n), .ref 56] [] (uI (uI h 39 4 (tryX g l n)) 39 3 (nI n)) Q) from ⟨fun c4 => ?_, fun c4 => ?_⟩)
        · skip
          have hso : ¬ sO g = some n := fun q => c4 ((oI_some hob hN.2 hn).mpr q)
          refine exf_go 3 (show Go (d + 3) true 34 94 [.ref 39, .ref 31, .int (nI n), .ref 56] [.int (rI h 39 5), .ref 39] (uI (uI h 39 4 (tryX g l n)) 39 3 (nI n)) Q from ?_)
          rw [show (rI h 39 5 : Int32) = lG l from cl_G cl]
          refine exf_go 5 (show Go (d + 3) true 34 103 [.ref 39, .ref 31, .int (nI n), .ref 56] [.int (rI h 31 10)] (uI (uI (uI h 39 4 (tryX g l n)) 39 3 (nI n)) 39 5 ((lG l) + 1)) Q from ?_)
          rw [show (rI h 31 10 : Int32) = nI (sBA g) from cs_BA cs]
          refine exf_go 1 (show ((nI (sBA g)) ≤ 0 → Go (d + 3) true 34 135 [.ref 39, .ref 31, .int (nI n), .ref 56] [] (uI (uI (uI h 39 4 (tryX g l n)) 39 3 (nI n)) 39 5 ((lG l) + 1)) Q) ∧ (¬ ((nI (sBA g)) ≤ 0) → Go (d + 3) true 34 106 [.ref 39, .ref 31, .int (nI n), .ref 56] [] (uI (uI (uI h 39 4 (tryX g l n)) 39 3 (nI n)) 39 5 ((lG l) + 1)) Q) from ⟨fun c5 => ?_, fun c5 => ?_⟩)
          · skip
            have c5 : (sBA g) ≤ 0 := (nI_leI (a := (sBA g)) (b := 0) (by omega) (by omega)).mp c5
            have htl : tryL g l n = (n, tryX g l n, lG l + 1, lO l, lF l, va_up (lT l) n 1) := by unfold tryL; rw [if_neg hso, if_neg (fun q => by omega)]
            refine exf_go 1 (show Q (mk_) (uI (uI (uI h 39 4 (tryX g l n)) 39 3 (nI n)) 39 5 ((lG l) + 1)) from ?_)
            refine k _ c (by omega) (Fq.uI' (Fq.uI' (Fq.uI' Fq.rfl' _ _ _ rfl) _ _ _ rfl) _ _ _ rfl) (cl_try cs.1 cl hn (LkW_try cl.1 hn) (tryL_F g l n) (tryL_T g l n) rfl (by rw [htl]; rfl) (by rw [htl]; rfl) (by rw [htl]; first | rfl | exact hf5) (by rw [htl]; first | rfl | exact hf7) (by rw [if_pos hT]; exact hf6) rfl (fun m hm q => rfl) (by rw [if_pos hT]; exact hfn) rfl) (mk_old (mk_fq mk rfl rfl rfl) (tryL_T g l n) hT)
          · skip
            have c5 : ¬ (sBA g) ≤ 0 := fun q => c5 ((nI_leI (a := (sBA g)) (b := 0) (by omega) (by omega)).mpr q)
            refine exf_go 4 (show Go (d + 3) true 34 114 [.ref 39, .ref 31, .int (nI n), .ref 56] [.int (rI h 31 10), .int ((lG l) + 1)] (uI (uI (uI h 39 4 (tryX g l n)) 39 3 (nI n)) 39 5 ((lG l) + 1)) Q from ?_)
            rw [show (rI h 31 10 : Int32) = nI (sBA g) from cs_BA cs]
            refine exf_go 1 (show (((lG l) + 1) < (nI (sBA g)) → Go (d + 3) true 34 135 [.ref 39, .ref 31, .int (nI n), .ref 56] [] (uI (uI (uI h 39 4 (tryX g l n)) 39 3 (nI n)) 39 5 ((lG l) + 1)) Q) ∧ (¬ (((lG l) + 1) < (nI (sBA g))) → Go (d + 3) true 34 117 [.ref 39, .ref 31, .int (nI n), .ref 56] [] (uI (uI (uI h 39 4 (tryX g l n)) 39 3 (nI n)) 39 5 ((lG l) + 1)) Q) from ⟨fun c6 => ?_, fun c6 => ?_⟩)
            · skip
              have htl : tryL g l n = (n, tryX g l n, lG l + 1, lO l, lF l, va_up (lT l) n 1) := by unfold tryL; rw [if_neg hso, if_neg (fun q => Int32.not_le.mpr c6 q.2)]
              refine exf_go 1 (show Q (mk_) (uI (uI (uI h 39 4 (tryX g l n)) 39 3 (nI n)) 39 5 ((lG l) + 1)) from ?_)
              refine k _ c (by omega) (Fq.uI' (Fq.uI' (Fq.uI' Fq.rfl' _ _ _ rfl) _ _ _ rfl) _ _ _ rfl) (cl_try cs.1 cl hn (LkW_try cl.1 hn) (tryL_F g l n) (tryL_T g l n) rfl (by rw [htl]; rfl) (by rw [htl]; rfl) (by rw [htl]; first | rfl | exact hf5) (by rw [htl]; first | rfl | exact hf7) (by rw [if_pos hT]; exact hf6) rfl (fun m hm q => rfl) (by rw [if_pos hT]; exact hfn) rfl) (mk_old (mk_fq mk rfl rfl rfl) (tryL_T g l n) hT)
            · skip
              have htl : tryL g l n = (n, tryX g l n + nI (sBS g), 0, lO l, lF l, va_up (lT l) n 1) := by unfold tryL; rw [if_neg hso, if_pos ⟨by omega, Int32.not_lt.mp c6⟩]
              refine exf_go 8 (show Go (d + 3) true 34 131 [.ref 39, .ref 31, .int (nI n), .ref 56] [.int (rI h 31 11), .int (tryX g l n), .ref 39] (uI (uI (uI (uI h 39 4 (tryX g l n)) 39 3 (nI n)) 39 5 ((lG l) + 1)) 39 5 0) Q from ?_)
              rw [show (rI h 31 11 : Int32) = nI (sBS g) from cs_BS cs]
              refine exf_go 3 (show Q (mk_) (uI (uI (uI (uI (uI h 39 4 (tryX g l n)) 39 3 (nI n)) 39 5 ((lG l) + 1)) 39 5 0) 39 4 ((tryX g l n) + (nI (sBS g)))) from ?_)
              refine k _ c (by omega) (Fq.uI' (Fq.uI' (Fq.uI' (Fq.uI' (Fq.uI' Fq.rfl' _ _ _ rfl) _ _ _ rfl) _ _ _ rfl) _ _ _ rfl) _ _ _ rfl) (cl_try cs.1 cl hn (LkW_try cl.1 hn) (tryL_F g l n) (tryL_T g l n) rfl (by rw [htl]; rfl) (by rw [htl]; rfl) (by rw [htl]; first | rfl | exact hf5) (by rw [htl]; first | rfl | exact hf7) (by rw [if_pos hT]; exact hf6) rfl (fun m hm q => rfl) (by rw [if_pos hT]; exact hfn) rfl) (mk_old (mk_fq mk rfl rfl rfl) (tryL_T g l n) hT)
        · skip
          have hso : sO g = some n := (oI_some hob hN.2 hn).mp (Classical.not_not.mp c4)
          have htl : tryL g l n = (n, tryX g l n, lG l, 1, lF l, va_up (lT l) n 1) := by unfold tryL; rw [if_pos hso]
          refine exf_go 4 (show ((1 : Int32) = 0 ∨ (1 : Int32) = 1) ∧ Q (mk_) (uI (uI (uI h 39 4 (tryX g l n)) 39 3 (nI n)) 39 7 1) from ⟨(by first | exact Or.inl rfl | exact Or.inr rfl | assumption), ?_⟩)
          refine k _ c (by omega) (Fq.uI' (Fq.uI' (Fq.uI' Fq.rfl' _ _ _ rfl) _ _ _ rfl) _ _ _ rfl) (cl_try cs.1 cl hn (LkW_try cl.1 hn) (tryL_F g l n) (tryL_T g l n) rfl (by rw [htl]; rfl) (by rw [htl]; rfl) (by rw [htl]; first | rfl | exact hf5) (by rw [htl]; first | rfl | exact hf7) (by rw [if_pos hT]; exact hf6) rfl (fun m hm q => rfl) (by rw [if_pos hT]; exact hfn) rfl) (mk_old (mk_fq mk rfl rfl rfl) (tryL_T g l n) hT)
      · skip
        exact absurd (by decide) c3
    · skip
      have hT : lT l n = 0 := (tri_0 cs.1 cl.1).mp (e1 ▸ b2)
      show Go (d + 3) true 34 45 [.ref 39, .ref 31, .int (nI n), .ref 56] [.int 0] (uI (uI h 39 4 (tryX g l n)) 39 3 (nI n)) Q
      refine exf_go 1 (show (¬ (0 : Int32) = 0 → Go (d + 3) true 34 75 [.ref 39, .ref 31, .int (nI n), .ref 56] [] (uI (uI h 39 4 (tryX g l n)) 39 3 (nI n)) Q) ∧ (¬ (¬ (0 : Int32) = 0) → Go (d + 3) true 34 48 [.ref 39, .ref 31, .int (nI n), .ref 56] [] (uI (uI h 39 4 (tryX g l n)) 39 3 (nI n)) Q) from ⟨fun c7 => ?_, fun c7 => ?_⟩)
      · skip
        exact absurd c7 (by decide)
      · skip
        refine exf_go 5 (show vp_in (nI n) (al h 40) ∧ (Go (d + 3) true 34 55 [.ref 39, .ref 31, .int (nI n), .ref 56] [.int (rI h 40 ((nI n).toNatClampNeg)), .int (nI n), .ref 40] (uI (uI h 39 4 (tryX g l n)) 39 3 (nI n)) Q) from ⟨(vp_in_nI (by omega) (by omega)), ?_⟩)
        rw [show (rI h 40 ((nI n).toNatClampNeg) : Int32) = nI (cel g l n) from cl_C cs cl (n := n) (by omega)]
        refine exf_go 2 (show Go (d + 3) true 34 59 [.ref 39, .ref 31, .int (nI n), .ref 56] [.int ((nI (cel g l n)) ||| 256), .int (nI n), .ref 40] (uI (uI h 39 4 (tryX g l n)) 39 3 (nI n)) Q from ?_)
        rw [show ((nI (cel g l n)) ||| 256 : Int32) = nI (cel g l n + 256) from by rw [show (256 : Int32) = nI 256 from rfl, nI_or, or_tri _ hcb, if_pos (by rw [cel_tri cs.1 cl.1]; exact hT)]]
        refine exf_go 4 (show vp_in (nI n) (al h 40) ∧ (Go (d + 3) true 34 65 [.ref 39, .ref 31, .int (nI n), .ref 56] [.int (rI h 39 6), .ref 39] (uI (uI (uI h 39 4 (tryX g l n)) 39 3 (nI n)) 40 ((nI n).toNatClampNeg) (nI (cel g l n + 256))) Q) from ⟨(vp_in_nI (by omega) (by omega)), ?_⟩)
        rw [show (rI h 39 6 : Int32) = nI (cntN (fun n => lT l n == 1) (tot g)) from cl_T cl]
        refine exf_go 2 (show Go (d + 3) true 34 67 [.ref 39, .ref 31, .int (nI n), .ref 56] [.int ((nI (cntN (fun n => lT l n == 1) (tot g))) + 1), .ref 39] (uI (uI (uI h 39 4 (tryX g l n)) 39 3 (nI n)) 40 ((nI n).toNatClampNeg) (nI (cel g l n + 256))) Q from ?_)
        rw [show ((nI (cntN (fun n => lT l n == 1) (tot g))) + 1 : Int32) = nI ((cntN (fun n => lT l n == 1) (tot g)) + 1) from nI_add (cntN (fun n => lT l n == 1) (tot g)) 1]
        refine exf_go 4 (show wpC (d + 3) true 40 [.ref 56, .int (nI n)] (uI (uI (uI (uI h 39 4 (tryX g l n)) 39 3 (nI n)) 40 ((nI n).toNatClampNeg) (nI (cel g l n + 256))) 39 6 (nI ((cntN (fun n => lT l n == 1) (tot g)) + 1))) (fun _ h' => Go (d + 3) true 34 75 [.ref 39, .ref 31, .int (nI n), .ref 56] [] h' Q) from ?_)
        refine c_note4 (c := c) mk.2.1.1 hc4 ?_
        show Go (d + 3) true 34 75 [.ref 39, .ref 31, .int (nI n), .ref 56] [] (uI (uI (uI (uI (uI (uI h 39 4 (tryX g l n)) 39 3 (nI n)) 40 ((nI n).toNatClampNeg) (nI (cel g l n + 256))) 39 6 (nI ((cntN (fun n => lT l n == 1) (tot g)) + 1))) 57 ((nI c).toNatClampNeg) (nI n)) 56 1 (nI (c + 1))) Q
        refine exf_go 3 (show Go (d + 3) true 34 80 [.ref 39, .ref 31, .int (nI n), .ref 56] [.int (rI h 31 15), .int (nI n)] (uI (uI (uI (uI (uI (uI h 39 4 (tryX g l n)) 39 3 (nI n)) 40 ((nI n).toNatClampNeg) (nI (cel g l n + 256))) 39 6 (nI ((cntN (fun n => lT l n == 1) (tot g)) + 1))) 57 ((nI c).toNatClampNeg) (nI n)) 56 1 (nI (c + 1))) Q from ?_)
        rw [show (rI h 31 15 : Int32) = oI (sO g) from cs_O cs]
        refine exf_go 1 (show (¬ (nI n) = (oI (sO g)) → Go (d + 3) true 34 89 [.ref 39, .ref 31, .int (nI n), .ref 56] [] (uI (uI (uI (uI (uI (uI h 39 4 (tryX g l n)) 39 3 (nI n)) 40 ((nI n).toNatClampNeg) (nI (cel g l n + 256))) 39 6 (nI ((cntN (fun n => lT l n == 1) (tot g)) + 1))) 57 ((nI c).toNatClampNeg) (nI n)) 56 1 (nI (c + 1))) Q) ∧ (¬ (¬ (nI n) = (oI (sO g))) → Go (d + 3) true 34 83 [.ref 39, .ref 31, .int (nI n), .ref 56] [] (uI (uI (uI (uI (uI (uI h 39 4 (tryX g l n)) 39 3 (nI n)) 40 ((nI n).toNatClampNeg) (nI (cel g l n + 256))) 39 6 (nI ((cntN (fun n => lT l n == 1) (tot g)) + 1))) 57 ((nI c).toNatClampNeg) (nI n)) 56 1 (nI (c + 1))) Q) from ⟨fun c8 => ?_, fun c8 => ?_⟩)
        · skip
          have hso : ¬ sO g = some n := fun q => c8 ((oI_some hob hN.2 hn).mpr q)
          refine exf_go 3 (show Go (d + 3) true 34 94 [.ref 39, .ref 31, .int (nI n), .ref 56] [.int (rI h 39 5), .ref 39] (uI (uI (uI (uI (uI (uI h 39 4 (tryX g l n)) 39 3 (nI n)) 40 ((nI n).toNatClampNeg) (nI (cel g l n + 256))) 39 6 (nI ((cntN (fun n => lT l n == 1) (tot g)) + 1))) 57 ((nI c).toNatClampNeg) (nI n)) 56 1 (nI (c + 1))) Q from ?_)
          rw [show (rI h 39 5 : Int32) = lG l from cl_G cl]
          refine exf_go 5 (show Go (d + 3) true 34 103 [.ref 39, .ref 31, .int (nI n), .ref 56] [.int (rI h 31 10)] (uI (uI (uI (uI (uI (uI (uI h 39 4 (tryX g l n)) 39 3 (nI n)) 40 ((nI n).toNatClampNeg) (nI (cel g l n + 256))) 39 6 (nI ((cntN (fun n => lT l n == 1) (tot g)) + 1))) 57 ((nI c).toNatClampNeg) (nI n)) 56 1 (nI (c + 1))) 39 5 ((lG l) + 1)) Q from ?_)
          rw [show (rI h 31 10 : Int32) = nI (sBA g) from cs_BA cs]
          refine exf_go 1 (show ((nI (sBA g)) ≤ 0 → Go (d + 3) true 34 135 [.ref 39, .ref 31, .int (nI n), .ref 56] [] (uI (uI (uI (uI (uI (uI (uI h 39 4 (tryX g l n)) 39 3 (nI n)) 40 ((nI n).toNatClampNeg) (nI (cel g l n + 256))) 39 6 (nI ((cntN (fun n => lT l n == 1) (tot g)) + 1))) 57 ((nI c).toNatClampNeg) (nI n)) 56 1 (nI (c + 1))) 39 5 ((lG l) + 1)) Q) ∧ (¬ ((nI (sBA g)) ≤ 0) → Go (d + 3) true 34 106 [.ref 39, .ref 31, .int (nI n), .ref 56] [] (uI (uI (uI (uI (uI (uI (uI h 39 4 (tryX g l n)) 39 3 (nI n)) 40 ((nI n).toNatClampNeg) (nI (cel g l n + 256))) 39 6 (nI ((cntN (fun n => lT l n == 1) (tot g)) + 1))) 57 ((nI c).toNatClampNeg) (nI n)) 56 1 (nI (c + 1))) 39 5 ((lG l) + 1)) Q) from ⟨fun c9 => ?_, fun c9 => ?_⟩)
          · skip
            have c9 : (sBA g) ≤ 0 := (nI_leI (a := (sBA g)) (b := 0) (by omega) (by omega)).mp c9
            have htl : tryL g l n = (n, tryX g l n, lG l + 1, lO l, lF l, va_up (lT l) n 1) := by unfold tryL; rw [if_neg hso, if_neg (fun q => by omega)]
            refine exf_go 1 (show Q (mk_) (uI (uI (uI (uI (uI (uI (uI h 39 4 (tryX g l n)) 39 3 (nI n)) 40 ((nI n).toNatClampNeg) (nI (cel g l n + 256))) 39 6 (nI ((cntN (fun n => lT l n == 1) (tot g)) + 1))) 57 ((nI c).toNatClampNeg) (nI n)) 56 1 (nI (c + 1))) 39 5 ((lG l) + 1)) from ?_)
            refine k _ (c + 1) (by omega) (Fq.uI' (Fq.uI' (Fq.uI' (Fq.uI' (Fq.uI' (Fq.uI' (Fq.uI' Fq.rfl' _ _ _ rfl) _ _ _ rfl) _ _ _ rfl) _ _ _ rfl) _ _ _ rfl) _ _ _ rfl) _ _ _ rfl) (cl_try cs.1 cl hn (LkW_try cl.1 hn) (tryL_F g l n) (tryL_T g l n) rfl (by rw [htl]; rfl) (by rw [htl]; rfl) (by rw [htl]; first | rfl | exact hf5) (by rw [htl]; first | rfl | exact hf7) (by rw [if_neg (by omega)]; rfl) rfl (fun m hm q => by show rI (uI h 40 (nI n).toNatClampNeg (nI (cel g l n + 256))) 40 m = rI h 40 m; rw [nI_clamp (by omega), rI_uI_at q]) (by show rI (uI h 40 (nI n).toNatClampNeg (nI (cel g l n + 256))) 40 n = _; rw [nI_clamp (by omega), rI_uI_eq, if_neg (by omega)]) rfl) (mk_new mk hn hc4 (tryL_T g l n) hT (fun j q => by show rI (uI h 56 1 (nI (c + 1))) 56 j = _; exact rI_uI_at q) rfl (fun j q => by show rI (uI h 57 (nI c).toNatClampNeg (nI n)) 57 j = _; rw [nI_clamp (by omega), rI_uI_at q]) (by show rI (uI h 57 (nI c).toNatClampNeg (nI n)) 57 c = _; rw [nI_clamp (by omega), rI_uI_eq]) rfl)
          · skip
            have c9 : ¬ (sBA g) ≤ 0 := fun q => c9 ((nI_leI (a := (sBA g)) (b := 0) (by omega) (by omega)).mpr q)
            refine exf_go 4 (show Go (d + 3) true 34 114 [.ref 39, .ref 31, .int (nI n), .ref 56] [.int (rI h 31 10), .int ((lG l) + 1)] (uI (uI (uI (uI (uI (uI (uI h 39 4 (tryX g l n)) 39 3 (nI n)) 40 ((nI n).toNatClampNeg) (nI (cel g l n + 256))) 39 6 (nI ((cntN (fun n => lT l n == 1) (tot g)) + 1))) 57 ((nI c).toNatClampNeg) (nI n)) 56 1 (nI (c + 1))) 39 5 ((lG l) + 1)) Q from ?_)
            rw [show (rI h 31 10 : Int32) = nI (sBA g) from cs_BA cs]
            refine exf_go 1 (show (((lG l) + 1) < (nI (sBA g)) → Go (d + 3) true 34 135 [.ref 39, .ref 31, .int (nI n), .ref 56] [] (uI (uI (uI (uI (uI (uI (uI h 39 4 (tryX g l n)) 39 3 (nI n)) 40 ((nI n).toNatClampNeg) (nI (cel g l n + 256))) 39 6 (nI ((cntN (fun n => lT l n == 1) (tot g)) + 1))) 57 ((nI c).toNatClampNeg) (nI n)) 56 1 (nI (c + 1))) 39 5 ((lG l) + 1)) Q) ∧ (¬ (((lG l) + 1) < (nI (sBA g))) → Go (d + 3) true 34 117 [.ref 39, .ref 31, .int (nI n), .ref 56] [] (uI (uI (uI (uI (uI (uI (uI h 39 4 (tryX g l n)) 39 3 (nI n)) 40 ((nI n).toNatClampNeg) (nI (cel g l n + 256))) 39 6 (nI ((cntN (fun n => lT l n == 1) (tot g)) + 1))) 57 ((nI c).toNatClampNeg) (nI n)) 56 1 (nI (c + 1))) 39 5 ((lG l) + 1)) Q) from ⟨fun c10 => ?_, fun c10 => ?_⟩)
            · skip
              have htl : tryL g l n = (n, tryX g l n, lG l + 1, lO l, lF l, va_up (lT l) n 1) := by unfold tryL; rw [if_neg hso, if_neg (fun q => Int32.not_le.mpr c10 q.2)]
              refine exf_go 1 (show Q (mk_) (uI (uI (uI (uI (uI (uI (uI h 39 4 (tryX g l n)) 39 3 (nI n)) 40 ((nI n).toNatClampNeg) (nI (cel g l n + 256))) 39 6 (nI ((cntN (fun n => lT l n == 1) (tot g)) + 1))) 57 ((nI c).toNatClampNeg) (nI n)) 56 1 (nI (c + 1))) 39 5 ((lG l) + 1)) from ?_)
              refine k _ (c + 1) (by omega) (Fq.uI' (Fq.uI' (Fq.uI' (Fq.uI' (Fq.uI' (Fq.uI' (Fq.uI' Fq.rfl' _ _ _ rfl) _ _ _ rfl) _ _ _ rfl) _ _ _ rfl) _ _ _ rfl) _ _ _ rfl) _ _ _ rfl) (cl_try cs.1 cl hn (LkW_try cl.1 hn) (tryL_F g l n) (tryL_T g l n) rfl (by rw [htl]; rfl) (by rw [htl]; rfl) (by rw [htl]; first | rfl | exact hf5) (by rw [htl]; first | rfl | exact hf7) (by rw [if_neg (by omega)]; rfl) rfl (fun m hm q => by show rI (uI h 40 (nI n).toNatClampNeg (nI (cel g l n + 256))) 40 m = rI h 40 m; rw [nI_clamp (by omega), rI_uI_at q]) (by show rI (uI h 40 (nI n).toNatClampNeg (nI (cel g l n + 256))) 40 n = _; rw [nI_clamp (by omega), rI_uI_eq, if_neg (by omega)]) rfl) (mk_new mk hn hc4 (tryL_T g l n) hT (fun j q => by show rI (uI h 56 1 (nI (c + 1))) 56 j = _; exact rI_uI_at q) rfl (fun j q => by show rI (uI h 57 (nI c).toNatClampNeg (nI n)) 57 j = _; rw [nI_clamp (by omega), rI_uI_at q]) (by show rI (uI h 57 (nI c).toNatClampNeg (nI n)) 57 c = _; rw [nI_clamp (by omega), rI_uI_eq]) rfl)
            · skip
              have htl : tryL g l n = (n, tryX g l n + nI (sBS g), 0, lO l, lF l, va_up (lT l) n 1) := by unfold tryL; rw [if_neg hso, if_pos ⟨by omega, Int32.not_lt.mp c10⟩]
              refine exf_go 8 (show Go (d + 3) true 34 131 [.ref 39, .ref 31, .int (nI n), .ref 56] [.int (rI h 31 11), .int (tryX g l n), .ref 39] (uI (uI (uI (uI (uI (uI (uI (uI h 39 4 (tryX g l n)) 39 3 (nI n)) 40 ((nI n).toNatClampNeg) (nI (cel g l n + 256))) 39 6 (nI ((cntN (fun n => lT l n == 1) (tot g)) + 1))) 57 ((nI c).toNatClampNeg) (nI n)) 56 1 (nI (c + 1))) 39 5 ((lG l) + 1)) 39 5 0) Q from ?_)
              rw [show (rI h 31 11 : Int32) = nI (sBS g) from cs_BS cs]
              refine exf_go 3 (show Q (mk_) (uI (uI (uI (uI (uI (uI (uI (uI (uI h 39 4 (tryX g l n)) 39 3 (nI n)) 40 ((nI n).toNatClampNeg) (nI (cel g l n + 256))) 39 6 (nI ((cntN (fun n => lT l n == 1) (tot g)) + 1))) 57 ((nI c).toNatClampNeg) (nI n)) 56 1 (nI (c + 1))) 39 5 ((lG l) + 1)) 39 5 0) 39 4 ((tryX g l n) + (nI (sBS g)))) from ?_)
              refine k _ (c + 1) (by omega) (Fq.uI' (Fq.uI' (Fq.uI' (Fq.uI' (Fq.uI' (Fq.uI' (Fq.uI' (Fq.uI' (Fq.uI' Fq.rfl' _ _ _ rfl) _ _ _ rfl) _ _ _ rfl) _ _ _ rfl) _ _ _ rfl) _ _ _ rfl) _ _ _ rfl) _ _ _ rfl) _ _ _ rfl) (cl_try cs.1 cl hn (LkW_try cl.1 hn) (tryL_F g l n) (tryL_T g l n) rfl (by rw [htl]; rfl) (by rw [htl]; rfl) (by rw [htl]; first | rfl | exact hf5) (by rw [htl]; first | rfl | exact hf7) (by rw [if_neg (by omega)]; rfl) rfl (fun m hm q => by show rI (uI h 40 (nI n).toNatClampNeg (nI (cel g l n + 256))) 40 m = rI h 40 m; rw [nI_clamp (by omega), rI_uI_at q]) (by show rI (uI h 40 (nI n).toNatClampNeg (nI (cel g l n + 256))) 40 n = _; rw [nI_clamp (by omega), rI_uI_eq, if_neg (by omega)]) rfl) (mk_new mk hn hc4 (tryL_T g l n) hT (fun j q => by show rI (uI h 56 1 (nI (c + 1))) 56 j = _; exact rI_uI_at q) rfl (fun j q => by show rI (uI h 57 (nI c).toNatClampNeg (nI n)) 57 j = _; rw [nI_clamp (by omega), rI_uI_at q]) (by show rI (uI h 57 (nI c).toNatClampNeg (nI n)) 57 c = _; rw [nI_clamp (by omega), rI_uI_eq]) rfl)
        · skip
          have hso : sO g = some n := (oI_some hob hN.2 hn).mp (Classical.not_not.mp c8)
          have htl : tryL g l n = (n, tryX g l n, lG l, 1, lF l, va_up (lT l) n 1) := by unfold tryL; rw [if_pos hso]
          refine exf_go 4 (show ((1 : Int32) = 0 ∨ (1 : Int32) = 1) ∧ Q (mk_) (uI (uI (uI (uI (uI (uI (uI h 39 4 (tryX g l n)) 39 3 (nI n)) 40 ((nI n).toNatClampNeg) (nI (cel g l n + 256))) 39 6 (nI ((cntN (fun n => lT l n == 1) (tot g)) + 1))) 57 ((nI c).toNatClampNeg) (nI n)) 56 1 (nI (c + 1))) 39 7 1) from ⟨(by first | exact Or.inl rfl | exact Or.inr rfl | assumption), ?_⟩)
          refine k _ (c + 1) (by omega) (Fq.uI' (Fq.uI' (Fq.uI' (Fq.uI' (Fq.uI' (Fq.uI' (Fq.uI' Fq.rfl' _ _ _ rfl) _ _ _ rfl) _ _ _ rfl) _ _ _ rfl) _ _ _ rfl) _ _ _ rfl) _ _ _ rfl) (cl_try cs.1 cl hn (LkW_try cl.1 hn) (tryL_F g l n) (tryL_T g l n) rfl (by rw [htl]; rfl) (by rw [htl]; rfl) (by rw [htl]; first | rfl | exact hf5) (by rw [htl]; first | rfl | exact hf7) (by rw [if_neg (by omega)]; rfl) rfl (fun m hm q => by show rI (uI h 40 (nI n).toNatClampNeg (nI (cel g l n + 256))) 40 m = rI h 40 m; rw [nI_clamp (by omega), rI_uI_at q]) (by show rI (uI h 40 (nI n).toNatClampNeg (nI (cel g l n + 256))) 40 n = _; rw [nI_clamp (by omega), rI_uI_eq, if_neg (by omega)]) rfl) (mk_new mk hn hc4 (tryL_T g l n) hT (fun j q => by show rI (uI h 56 1 (nI (c + 1))) 56 j = _; exact rI_uI_at q) rfl (fun j q => by show rI (uI h 57 (nI c).toNatClampNeg (nI n)) 57 j = _; rw [nI_clamp (by omega), rI_uI_at q]) (by show rI (uI h 57 (nI c).toNatClampNeg (nI n)) 57 c = _; rw [nI_clamp (by omega), rI_uI_eq]) rfl)
  · skip
    exact absurd (by decide) c1
theorem c_note5 {d : Nat} {h : Hp} {n c : Nat} {Q : Po} (hc : rI h 59 1 = nI c) (hc4 : c < 40) (k : Q mk_ (uI (uI h 60 (nI c).toNatClampNeg (nI n)) 59 1 (nI (c + 1)))) : wpC (d + 1) true 40 [.ref 59, .int (nI n)] h Q := by
  refine go_in rfl ?_
  refine exf_go 2 (show Go d true 40 4 [.ref 59, .int (nI n)] [.int (rI h 59 1)] h Q from ?_)
  rw [show (rI h 59 1 : Int32) = nI c from hc]
  refine exf_go 2 (show (40 ≤ (nI c) → Go d true 40 29 [.ref 59, .int (nI n)] [] h Q) ∧ (¬ (40 ≤ (nI c)) → Go d true 40 9 [.ref 59, .int (nI n)] [] h Q) from ⟨fun c1 => ?_, fun c1 => ?_⟩)
  · skip
    have c1 : 40 ≤ c := (nI_leI (a := 40) (b := c) (by omega) (by omega)).mp c1
    refine exf_go 1 (show Q (mk_) h from ?_)
    first | (exfalso; omega) | exact k
  · skip
    have c1 : ¬ 40 ≤ c := fun q => c1 ((nI_leI (a := 40) (b := c) (by omega) (by omega)).mpr q)
    refine exf_go 4 (show Go d true 40 17 [.ref 59, .int (nI n)] [.int (rI h 59 1), .ref 60] h Q from ?_)
    rw [show (rI h 59 1 : Int32) = nI c from hc]
    refine exf_go 5 (show vp_in (nI c) 40 ∧ (Go d true 40 24 [.ref 59, .int (nI n)] [.int (rI h 59 1), .ref 59] (uI h 60 ((nI c).toNatClampNeg) (nI n)) Q) from ⟨(vp_in_nI (by omega) (by omega)), ?_⟩)
    rw [show (rI h 59 1 : Int32) = nI c from hc]
    refine exf_go 2 (show Go d true 40 26 [.ref 59, .int (nI n)] [.int ((nI c) + 1), .ref 59] (uI h 60 ((nI c).toNatClampNeg) (nI n)) Q from ?_)
    rw [show ((nI c) + 1 : Int32) = nI (c + 1) from nI_add c 1]
    refine exf_go 2 (show Q (mk_) (uI (uI h 60 ((nI c).toNatClampNeg) (nI n)) 59 1 (nI (c + 1))) from ?_)
    first | (exfalso; omega) | exact k
theorem c_att5 {d : Nat} {h : Hp} {g : ShG} {l l0 : LkG} {n c : Nat} {Q : Po} (cs : CS 31 g h) (cl : CL 39 g l h) (mk : CMK g 5 l0 l c h) (hn : n < tot g) (hc4 : c < 40) (k : ∀ h1 c1, c1 ≤ c + 1 → Fq (sLm 5) h h1 → CL 39 g (tryL g l n) h1 → CMK g 5 l0 (tryL g l n) c1 h1 → Q mk_ h1) : wpC (d + 4) true 34 [.ref 39, .ref 31, .int (nI n), .ref 59] h Q := by
  have hN := tot_b cs.1
  have hA := cl.1.1
  have hf5 := cl_G cl; have hf7 := cl_O cl; have hf6 := cl_T cl; have hfn := cl_Cl cl n hn
  have hcb := cel_b cs.1 cl.1 n
  have hal := cl_al cl
  simp only [Nat.reduceAdd] at hal
  have hob := cs.1.2.2.2.2.2.2.2.2.2.2.2.1
  have hb9 := cs.1.2.2.2.2.2.2.2.2.1
  have hs9 := cs.1.2.2.2.2.2.2.2.2.2.1
  have hcn := cntN_le (fun m => lT l m == 1) (tot g)
  have hp6 := cs.1.2.2.2.2.2.2.2.1
  refine go_in rfl ?_
  refine exf_go 3 (show wpC (d + 3) true 32 [.ref 39, .int (nI n)] h (fun r h' => Go (d + 3) true 34 5 [.ref 39, .ref 31, .int (nI n), .ref 59] [r] h' Q) from ?_)
  refine c_isCell cs cl (by omega) ?_
  show Go (d + 3) true 34 5 [.ref 39, .ref 31, .int (nI n), .ref 59] [.int 1] h Q
  refine exf_go 1 (show (¬ (1 : Int32) = 0 → Go (d + 3) true 34 9 [.ref 39, .ref 31, .int (nI n), .ref 59] [] h Q) ∧ (¬ (¬ (1 : Int32) = 0) → Go (d + 3) true 34 8 [.ref 39, .ref 31, .int (nI n), .ref 59] [] h Q) from ⟨fun c1 => ?_, fun c1 => ?_⟩)
  · skip
    refine exf_go 3 (show Go (d + 3) true 34 14 [.ref 39, .ref 31, .int (nI n), .ref 59] [.int (rI h 39 4), .ref 39] h Q from ?_)
    rw [show (rI h 39 4 : Int32) = lX l from cl_X cl]
    refine exf_go 3 (show Go (d + 3) true 34 19 [.ref 39, .ref 31, .int (nI n), .ref 59] [.int (rI h 39 3), .ref 31, .int (lX l), .ref 39] h Q from ?_)
    rw [show (rI h 39 3 : Int32) = nI (lA l) from cl_A cl]
    refine exf_go 2 (show wpC (d + 3) true 83 [.ref 31, .int (nI (lA l)), .int (nI n)] h (fun r h' => Go (d + 3) true 34 23 [.ref 39, .ref 31, .int (nI n), .ref 59] [r, .int (lX l), .ref 39] h' Q) from ?_)
    refine c_turns cs (n := lA l) (m := n) (by omega) (by omega) ?_
    have htr := trn_b cs.1 (lA l) n
    show Go (d + 3) true 34 23 [.ref 39, .ref 31, .int (nI n), .ref 59] [.int (nI (trn g (lA l) n)), .int (lX l), .ref 39] h Q
    refine exf_go 2 (show Go (d + 3) true 34 27 [.ref 39, .ref 31, .int (nI n), .ref 59] [.int (rI h 31 9), .int (nI (trn g (lA l) n)), .int (lX l), .ref 39] h Q from ?_)
    rw [show (rI h 31 9 : Int32) = nI (sP g) from cs_P cs]
    refine exf_go 1 (show Go (d + 3) true 34 28 [.ref 39, .ref 31, .int (nI n), .ref 59] [.int ((nI (trn g (lA l) n)) + (nI (sP g))), .int (lX l), .ref 39] h Q from ?_)
    rw [show ((nI (trn g (lA l) n)) + (nI (sP g)) : Int32) = nI ((trn g (lA l) n) + (sP g)) from nI_add (trn g (lA l) n) (sP g)]
    refine exf_go 1 (show Go (d + 3) true 34 29 [.ref 39, .ref 31, .int (nI n), .ref 59] [.int ((lX l) + (nI ((trn g (lA l) n) + (sP g)))), .ref 39] h Q from ?_)
    rw [show ((lX l) + (nI ((trn g (lA l) n) + (sP g))) : Int32) = tryX g l n from rfl]
    refine exf_go 8 (show wpC (d + 3) true 30 [.ref 39, .int (nI n), .int 256] (uI (uI h 39 4 (tryX g l n)) 39 3 (nI n)) (fun r h' => Go (d + 3) true 34 45 [.ref 39, .ref 31, .int (nI n), .ref 59] [r] h' Q) from ?_)
    have cl1 := cl_mv cl hn (tryX g l n)
    have cs1 := cs_39 (cs_39 cs 4 (tryX g l n)) 3 (nI n)
    have e1 : cel g (n, tryX g l n, lG l, lO l, lF l, lT l) n = cel g l n := cel_cg rfl rfl
    refine c_hasMark cs1 cl1 hn (fun b2 => ?_) (fun b2 => ?_)
    · skip
      have hT : lT l n = 1 := by have h9 := cl.1.2.2.1 n; have h7 : ¬ lT l n = 0 := fun q => b2 (by rw [e1]; exact (tri_0 cs.1 cl.1).mpr q); omega
      show Go (d + 3) true 34 45 [.ref 39, .ref 31, .int (nI n), .ref 59] [.int 1] (uI (uI h 39 4 (tryX g l n)) 39 3 (nI n)) Q
      refine exf_go 1 (show (¬ (1 : Int32) = 0 → Go (d + 3) true 34 75 [.ref 39, .ref 31, .int (nI n), .ref 59] [] (uI (uI h 39 4 (tryX g l n)) 39 3 (nI n)) Q) ∧ (¬ (¬ (1 : Int32) = 0) → Go (d + 3) true 34 48 [.ref 39, .ref 31, .int (nI n), .ref 59] [] (uI (uI h 39 4 (tryX g l n)) 39 3 (nI n)) Q) from ⟨fun c3 => ?_, fun c3 => ?_⟩)
      · skip
        refine exf_go 3 (show Go (d + 3) true 34 80 [.ref 39, .ref 31, .int (nI n), .ref 59] [.int (rI h 31 15), .int (nI n)] (uI (uI h 39 4 (tryX g l n)) 39 3 (nI n)) Q from ?_)
        rw [show (rI h 31 15 : Int32) = oI (sO g) from cs_O cs]
        refine exf_go 1 (show (¬ (nI n) = (oI (sO g)) → Go (d + 3) true 34 89 [.ref 39, .ref 31, .int (nI n), .ref 59] [] (uI (uI h 39 4 (tryX g l n)) 39 3 (nI n)) Q) ∧ (¬ (¬ (nI n) = (oI (sO g))) → Go (d + 3) true 34 83 [.ref 39, .ref 31, .int (nI n), .ref 59] [] (uI (uI h 39 4 (tryX g l n)) 39 3 (nI n)) Q) from ⟨fun c4 => ?_, fun c4 => ?_⟩)
        · skip
          have hso : ¬ sO g = some n := fun q => c4 ((oI_some hob hN.2 hn).mpr q)
          refine exf_go 3 (show Go (d + 3) true 34 94 [.ref 39, .ref 31, .int (nI n), .ref 59] [.int (rI h 39 5), .ref 39] (uI (uI h 39 4 (tryX g l n)) 39 3 (nI n)) Q from ?_)
          rw [show (rI h 39 5 : Int32) = lG l from cl_G cl]
          refine exf_go 5 (show Go (d + 3) true 34 103 [.ref 39, .ref 31, .int (nI n), .ref 59] [.int (rI h 31 10)] (uI (uI (uI h 39 4 (tryX g l n)) 39 3 (nI n)) 39 5 ((lG l) + 1)) Q from ?_)
          rw [show (rI h 31 10 : Int32) = nI (sBA g) from cs_BA cs]
          refine exf_go 1 (show ((nI (sBA g)) ≤ 0 → Go (d + 3) true 34 135 [.ref 39, .ref 31, .int (nI n), .ref 59] [] (uI (uI (uI h 39 4 (tryX g l n)) 39 3 (nI n)) 39 5 ((lG l) + 1)) Q) ∧ (¬ ((nI (sBA g)) ≤ 0) → Go (d + 3) true 34 106 [.ref 39, .ref 31, .int (nI n), .ref 59] [] (uI (uI (uI h 39 4 (tryX g l n)) 39 3 (nI n)) 39 5 ((lG l) + 1)) Q) from ⟨fun c5 => ?_, fun c5 => ?_⟩)
          · skip
            have c5 : (sBA g) ≤ 0 := (nI_leI (a := (sBA g)) (b := 0) (by omega) (by omega)).mp c5
            have htl : tryL g l n = (n, tryX g l n, lG l + 1, lO l, lF l, va_up (lT l) n 1) := by unfold tryL; rw [if_neg hso, if_neg (fun q => by omega)]
            refine exf_go 1 (show Q (mk_) (uI (uI (uI h 39 4 (tryX g l n)) 39 3 (nI n)) 39 5 ((lG l) + 1)) from ?_)
            refine k _ c (by omega) (Fq.uI' (Fq.uI' (Fq.uI' Fq.rfl' _ _ _ rfl) _ _ _ rfl) _ _ _ rfl) (cl_try cs.1 cl hn (LkW_try cl.1 hn) (tryL_F g l n) (tryL_T g l n) rfl (by rw [htl]; rfl) (by rw [htl]; rfl) (by rw [htl]; first | rfl | exact hf5) (by rw [htl]; first | rfl | exact hf7) (by rw [if_pos hT]; exact hf6) rfl (fun m hm q => rfl) (by rw [if_pos hT]; exact hfn) rfl) (mk_old (mk_fq mk rfl rfl rfl) (tryL_T g l n) hT)
          · skip
            have c5 : ¬ (sBA g) ≤ 0 := fun q => c5 ((nI_leI (a := (sBA g)) (b := 0) (by omega) (by omega)).mpr q)
            refine exf_go 4 (show Go (d + 3) true 34 114 [.ref 39, .ref 31, .int (nI n), .ref 59] [.int (rI h 31 10), .int ((lG l) + 1)] (uI (uI (uI h 39 4 (tryX g l n)) 39 3 (nI n)) 39 5 ((lG l) + 1)) Q from ?_)
            rw [show (rI h 31 10 : Int32) = nI (sBA g) from cs_BA cs]
            refine exf_go 1 (show (((lG l) + 1) < (nI (sBA g)) → Go (d + 3) true 34 135 [.ref 39, .ref 31, .int (nI n), .ref 59] [] (uI (uI (uI h 39 4 (tryX g l n)) 39 3 (nI n)) 39 5 ((lG l) + 1)) Q) ∧ (¬ (((lG l) + 1) < (nI (sBA g))) → Go (d + 3) true 34 117 [.ref 39, .ref 31, .int (nI n), .ref 59] [] (uI (uI (uI h 39 4 (tryX g l n)) 39 3 (nI n)) 39 5 ((lG l) + 1)) Q) from ⟨fun c6 => ?_, fun c6 => ?_⟩)
            · skip
              have htl : tryL g l n = (n, tryX g l n, lG l + 1, lO l, lF l, va_up (lT l) n 1) := by unfold tryL; rw [if_neg hso, if_neg (fun q => Int32.not_le.mpr c6 q.2)]
              refine exf_go 1 (show Q (mk_) (uI (uI (uI h 39 4 (tryX g l n)) 39 3 (nI n)) 39 5 ((lG l) + 1)) from ?_)
              refine k _ c (by omega) (Fq.uI' (Fq.uI' (Fq.uI' Fq.rfl' _ _ _ rfl) _ _ _ rfl) _ _ _ rfl) (cl_try cs.1 cl hn (LkW_try cl.1 hn) (tryL_F g l n) (tryL_T g l n) rfl (by rw [htl]; rfl) (by rw [htl]; rfl) (by rw [htl]; first | rfl | exact hf5) (by rw [htl]; first | rfl | exact hf7) (by rw [if_pos hT]; exact hf6) rfl (fun m hm q => rfl) (by rw [if_pos hT]; exact hfn) rfl) (mk_old (mk_fq mk rfl rfl rfl) (tryL_T g l n) hT)
            · skip
              have htl : tryL g l n = (n, tryX g l n + nI (sBS g), 0, lO l, lF l, va_up (lT l) n 1) := by unfold tryL; rw [if_neg hso, if_pos ⟨by omega, Int32.not_lt.mp c6⟩]
              refine exf_go 8 (show Go (d + 3) true 34 131 [.ref 39, .ref 31, .int (nI n), .ref 59] [.int (rI h 31 11), .int (tryX g l n), .ref 39] (uI (uI (uI (uI h 39 4 (tryX g l n)) 39 3 (nI n)) 39 5 ((lG l) + 1)) 39 5 0) Q from ?_)
              rw [show (rI h 31 11 : Int32) = nI (sBS g) from cs_BS cs]
              refine exf_go 3 (show Q (mk_) (uI (uI (uI (uI (uI h 39 4 (tryX g l n)) 39 3 (nI n)) 39 5 ((lG l) + 1)) 39 5 0) 39 4 ((tryX g l n) + (nI (sBS g)))) from ?_)
              refine k _ c (by omega) (Fq.uI' (Fq.uI' (Fq.uI' (Fq.uI' (Fq.uI' Fq.rfl' _ _ _ rfl) _ _ _ rfl) _ _ _ rfl) _ _ _ rfl) _ _ _ rfl) (cl_try cs.1 cl hn (LkW_try cl.1 hn) (tryL_F g l n) (tryL_T g l n) rfl (by rw [htl]; rfl) (by rw [htl]; rfl) (by rw [htl]; first | rfl | exact hf5) (by rw [htl]; first | rfl | exact hf7) (by rw [if_pos hT]; exact hf6) rfl (fun m hm q => rfl) (by rw [if_pos hT]; exact hfn) rfl) (mk_old (mk_fq mk rfl rfl rfl) (tryL_T g l n) hT)
        · skip
          have hso : sO g = some n := (oI_some hob hN.2 hn).mp (Classical.not_not.mp c4)
          have htl : tryL g l n = (n, tryX g l n, lG l, 1, lF l, va_up (lT l) n 1) := by unfold tryL; rw [if_pos hso]
          refine exf_go 4 (show ((1 : Int32) = 0 ∨ (1 : Int32) = 1) ∧ Q (mk_) (uI (uI (uI h 39 4 (tryX g l n)) 39 3 (nI n)) 39 7 1) from ⟨(by first | exact Or.inl rfl | exact Or.inr rfl | assumption), ?_⟩)
          refine k _ c (by omega) (Fq.uI' (Fq.uI' (Fq.uI' Fq.rfl' _ _ _ rfl) _ _ _ rfl) _ _ _ rfl) (cl_try cs.1 cl hn (LkW_try cl.1 hn) (tryL_F g l n) (tryL_T g l n) rfl (by rw [htl]; rfl) (by rw [htl]; rfl) (by rw [htl]; first | rfl | exact hf5) (by rw [htl]; first | rfl | exact hf7) (by rw [if_pos hT]; exact hf6) rfl (fun m hm q => rfl) (by rw [if_pos hT]; exact hfn) rfl) (mk_old (mk_fq mk rfl rfl rfl) (tryL_T g l n) hT)
      · skip
        exact absurd (by decide) c3
    · skip
      have hT : lT l n = 0 := (tri_0 cs.1 cl.1).mp (e1 ▸ b2)
      show Go (d + 3) true 34 45 [.ref 39, .ref 31, .int (nI n), .ref 59] [.int 0] (uI (uI h 39 4 (tryX g l n)) 39 3 (nI n)) Q
      refine exf_go 1 (show (¬ (0 : Int32) = 0 → Go (d + 3) true 34 75 [.ref 39, .ref 31, .int (nI n), .ref 59] [] (uI (uI h 39 4 (tryX g l n)) 39 3 (nI n)) Q) ∧ (¬ (¬ (0 : Int32) = 0) → Go (d + 3) true 34 48 [.ref 39, .ref 31, .int (nI n), .ref 59] [] (uI (uI h 39 4 (tryX g l n)) 39 3 (nI n)) Q) from ⟨fun c7 => ?_, fun c7 => ?_⟩)
      · skip
        exact absurd c7 (by decide)
      · skip
        refine exf_go 5 (show vp_in (nI n) (al h 40) ∧ (Go (d + 3) true 34 55 [.ref 39, .ref 31, .int (nI n), .ref 59] [.int (rI h 40 ((nI n).toNatClampNeg)), .int (nI n), .ref 40] (uI (uI h 39 4 (tryX g l n)) 39 3 (nI n)) Q) from ⟨(vp_in_nI (by omega) (by omega)), ?_⟩)
        rw [show (rI h 40 ((nI n).toNatClampNeg) : Int32) = nI (cel g l n) from cl_C cs cl (n := n) (by omega)]
        refine exf_go 2 (show Go (d + 3) true 34 59 [.ref 39, .ref 31, .int (nI n), .ref 59] [.int ((nI (cel g l n)) ||| 256), .int (nI n), .ref 40] (uI (uI h 39 4 (tryX g l n)) 39 3 (nI n)) Q from ?_)
        rw [show ((nI (cel g l n)) ||| 256 : Int32) = nI (cel g l n + 256) from by rw [show (256 : Int32) = nI 256 from rfl, nI_or, or_tri _ hcb, if_pos (by rw [cel_tri cs.1 cl.1]; exact hT)]]
        refine exf_go 4 (show vp_in (nI n) (al h 40) ∧ (Go (d + 3) true 34 65 [.ref 39, .ref 31, .int (nI n), .ref 59] [.int (rI h 39 6), .ref 39] (uI (uI (uI h 39 4 (tryX g l n)) 39 3 (nI n)) 40 ((nI n).toNatClampNeg) (nI (cel g l n + 256))) Q) from ⟨(vp_in_nI (by omega) (by omega)), ?_⟩)
        rw [show (rI h 39 6 : Int32) = nI (cntN (fun n => lT l n == 1) (tot g)) from cl_T cl]
        refine exf_go 2 (show Go (d + 3) true 34 67 [.ref 39, .ref 31, .int (nI n), .ref 59] [.int ((nI (cntN (fun n => lT l n == 1) (tot g))) + 1), .ref 39] (uI (uI (uI h 39 4 (tryX g l n)) 39 3 (nI n)) 40 ((nI n).toNatClampNeg) (nI (cel g l n + 256))) Q from ?_)
        rw [show ((nI (cntN (fun n => lT l n == 1) (tot g))) + 1 : Int32) = nI ((cntN (fun n => lT l n == 1) (tot g)) + 1) from nI_add (cntN (fun n => lT l n == 1) (tot g)) 1]
        refine exf_go 4 (show wpC (d + 3) true 40 [.ref 59, .int (nI n)] (uI (uI (uI (uI h 39 4 (tryX g l n)) 39 3 (nI n)) 40 ((nI n).toNatClampNeg) (nI (cel g l n + 256))) 39 6 (nI ((cntN (fun n => lT l n == 1) (tot g)) + 1))) (fun _ h' => Go (d + 3) true 34 75 [.ref 39, .ref 31, .int (nI n), .ref 59] [] h' Q) from ?_)
        refine c_note5 (c := c) mk.2.1.1 hc4 ?_
        show Go (d + 3) true 34 75 [.ref 39, .ref 31, .int (nI n), .ref 59] [] (uI (uI (uI (uI (uI (uI h 39 4 (tryX g l n)) 39 3 (nI n)) 40 ((nI n).toNatClampNeg) (nI (cel g l n + 256))) 39 6 (nI ((cntN (fun n => lT l n == 1) (tot g)) + 1))) 60 ((nI c).toNatClampNeg) (nI n)) 59 1 (nI (c + 1))) Q
        refine exf_go 3 (show Go (d + 3) true 34 80 [.ref 39, .ref 31, .int (nI n), .ref 59] [.int (rI h 31 15), .int (nI n)] (uI (uI (uI (uI (uI (uI h 39 4 (tryX g l n)) 39 3 (nI n)) 40 ((nI n).toNatClampNeg) (nI (cel g l n + 256))) 39 6 (nI ((cntN (fun n => lT l n == 1) (tot g)) + 1))) 60 ((nI c).toNatClampNeg) (nI n)) 59 1 (nI (c + 1))) Q from ?_)
        rw [show (rI h 31 15 : Int32) = oI (sO g) from cs_O cs]
        refine exf_go 1 (show (¬ (nI n) = (oI (sO g)) → Go (d + 3) true 34 89 [.ref 39, .ref 31, .int (nI n), .ref 59] [] (uI (uI (uI (uI (uI (uI h 39 4 (tryX g l n)) 39 3 (nI n)) 40 ((nI n).toNatClampNeg) (nI (cel g l n + 256))) 39 6 (nI ((cntN (fun n => lT l n == 1) (tot g)) + 1))) 60 ((nI c).toNatClampNeg) (nI n)) 59 1 (nI (c + 1))) Q) ∧ (¬ (¬ (nI n) = (oI (sO g))) → Go (d + 3) true 34 83 [.ref 39, .ref 31, .int (nI n), .ref 59] [] (uI (uI (uI (uI (uI (uI h 39 4 (tryX g l n)) 39 3 (nI n)) 40 ((nI n).toNatClampNeg) (nI (cel g l n + 256))) 39 6 (nI ((cntN (fun n => lT l n == 1) (tot g)) + 1))) 60 ((nI c).toNatClampNeg) (nI n)) 59 1 (nI (c + 1))) Q) from ⟨fun c8 => ?_, fun c8 => ?_⟩)
        · skip
          have hso : ¬ sO g = some n := fun q => c8 ((oI_some hob hN.2 hn).mpr q)
          refine exf_go 3 (show Go (d + 3) true 34 94 [.ref 39, .ref 31, .int (nI n), .ref 59] [.int (rI h 39 5), .ref 39] (uI (uI (uI (uI (uI (uI h 39 4 (tryX g l n)) 39 3 (nI n)) 40 ((nI n).toNatClampNeg) (nI (cel g l n + 256))) 39 6 (nI ((cntN (fun n => lT l n == 1) (tot g)) + 1))) 60 ((nI c).toNatClampNeg) (nI n)) 59 1 (nI (c + 1))) Q from ?_)
          rw [show (rI h 39 5 : Int32) = lG l from cl_G cl]
          refine exf_go 5 (show Go (d + 3) true 34 103 [.ref 39, .ref 31, .int (nI n), .ref 59] [.int (rI h 31 10)] (uI (uI (uI (uI (uI (uI (uI h 39 4 (tryX g l n)) 39 3 (nI n)) 40 ((nI n).toNatClampNeg) (nI (cel g l n + 256))) 39 6 (nI ((cntN (fun n => lT l n == 1) (tot g)) + 1))) 60 ((nI c).toNatClampNeg) (nI n)) 59 1 (nI (c + 1))) 39 5 ((lG l) + 1)) Q from ?_)
          rw [show (rI h 31 10 : Int32) = nI (sBA g) from cs_BA cs]
          refine exf_go 1 (show ((nI (sBA g)) ≤ 0 → Go (d + 3) true 34 135 [.ref 39, .ref 31, .int (nI n), .ref 59] [] (uI (uI (uI (uI (uI (uI (uI h 39 4 (tryX g l n)) 39 3 (nI n)) 40 ((nI n).toNatClampNeg) (nI (cel g l n + 256))) 39 6 (nI ((cntN (fun n => lT l n == 1) (tot g)) + 1))) 60 ((nI c).toNatClampNeg) (nI n)) 59 1 (nI (c + 1))) 39 5 ((lG l) + 1)) Q) ∧ (¬ ((nI (sBA g)) ≤ 0) → Go (d + 3) true 34 106 [.ref 39, .ref 31, .int (nI n), .ref 59] [] (uI (uI (uI (uI (uI (uI (uI h 39 4 (tryX g l n)) 39 3 (nI n)) 40 ((nI n).toNatClampNeg) (nI (cel g l n + 256))) 39 6 (nI ((cntN (fun n => lT l n == 1) (tot g)) + 1))) 60 ((nI c).toNatClampNeg) (nI n)) 59 1 (nI (c + 1))) 39 5 ((lG l) + 1)) Q) from ⟨fun c9 => ?_, fun c9 => ?_⟩)
          · skip
            have c9 : (sBA g) ≤ 0 := (nI_leI (a := (sBA g)) (b := 0) (by omega) (by omega)).mp c9
            have htl : tryL g l n = (n, tryX g l n, lG l + 1, lO l, lF l, va_up (lT l) n 1) := by unfold tryL; rw [if_neg hso, if_neg (fun q => by omega)]
            refine exf_go 1 (show Q (mk_) (uI (uI (uI (uI (uI (uI (uI h 39 4 (tryX g l n)) 39 3 (nI n)) 40 ((nI n).toNatClampNeg) (nI (cel g l n + 256))) 39 6 (nI ((cntN (fun n => lT l n == 1) (tot g)) + 1))) 60 ((nI c).toNatClampNeg) (nI n)) 59 1 (nI (c + 1))) 39 5 ((lG l) + 1)) from ?_)
            refine k _ (c + 1) (by omega) (Fq.uI' (Fq.uI' (Fq.uI' (Fq.uI' (Fq.uI' (Fq.uI' (Fq.uI' Fq.rfl' _ _ _ rfl) _ _ _ rfl) _ _ _ rfl) _ _ _ rfl) _ _ _ rfl) _ _ _ rfl) _ _ _ rfl) (cl_try cs.1 cl hn (LkW_try cl.1 hn) (tryL_F g l n) (tryL_T g l n) rfl (by rw [htl]; rfl) (by rw [htl]; rfl) (by rw [htl]; first | rfl | exact hf5) (by rw [htl]; first | rfl | exact hf7) (by rw [if_neg (by omega)]; rfl) rfl (fun m hm q => by show rI (uI h 40 (nI n).toNatClampNeg (nI (cel g l n + 256))) 40 m = rI h 40 m; rw [nI_clamp (by omega), rI_uI_at q]) (by show rI (uI h 40 (nI n).toNatClampNeg (nI (cel g l n + 256))) 40 n = _; rw [nI_clamp (by omega), rI_uI_eq, if_neg (by omega)]) rfl) (mk_new mk hn hc4 (tryL_T g l n) hT (fun j q => by show rI (uI h 59 1 (nI (c + 1))) 59 j = _; exact rI_uI_at q) rfl (fun j q => by show rI (uI h 60 (nI c).toNatClampNeg (nI n)) 60 j = _; rw [nI_clamp (by omega), rI_uI_at q]) (by show rI (uI h 60 (nI c).toNatClampNeg (nI n)) 60 c = _; rw [nI_clamp (by omega), rI_uI_eq]) rfl)
          · skip
            have c9 : ¬ (sBA g) ≤ 0 := fun q => c9 ((nI_leI (a := (sBA g)) (b := 0) (by omega) (by omega)).mpr q)
            refine exf_go 4 (show Go (d + 3) true 34 114 [.ref 39, .ref 31, .int (nI n), .ref 59] [.int (rI h 31 10), .int ((lG l) + 1)] (uI (uI (uI (uI (uI (uI (uI h 39 4 (tryX g l n)) 39 3 (nI n)) 40 ((nI n).toNatClampNeg) (nI (cel g l n + 256))) 39 6 (nI ((cntN (fun n => lT l n == 1) (tot g)) + 1))) 60 ((nI c).toNatClampNeg) (nI n)) 59 1 (nI (c + 1))) 39 5 ((lG l) + 1)) Q from ?_)
            rw [show (rI h 31 10 : Int32) = nI (sBA g) from cs_BA cs]
            refine exf_go 1 (show (((lG l) + 1) < (nI (sBA g)) → Go (d + 3) true 34 135 [.ref 39, .ref 31, .int (nI n), .ref 59] [] (uI (uI (uI (uI (uI (uI (uI h 39 4 (tryX g l n)) 39 3 (nI n)) 40 ((nI n).toNatClampNeg) (nI (cel g l n + 256))) 39 6 (nI ((cntN (fun n => lT l n == 1) (tot g)) + 1))) 60 ((nI c).toNatClampNeg) (nI n)) 59 1 (nI (c + 1))) 39 5 ((lG l) + 1)) Q) ∧ (¬ (((lG l) + 1) < (nI (sBA g))) → Go (d + 3) true 34 117 [.ref 39, .ref 31, .int (nI n), .ref 59] [] (uI (uI (uI (uI (uI (uI (uI h 39 4 (tryX g l n)) 39 3 (nI n)) 40 ((nI n).toNatClampNeg) (nI (cel g l n + 256))) 39 6 (nI ((cntN (fun n => lT l n == 1) (tot g)) + 1))) 60 ((nI c).toNatClampNeg) (nI n)) 59 1 (nI (c + 1))) 39 5 ((lG l) + 1)) Q) from ⟨fun c10 => ?_, fun c10 => ?_⟩)
            · skip
              have htl : tryL g l n = (n, tryX g l n, lG l + 1, lO l, lF l, va_up (lT l) n 1) := by unfold tryL; rw [if_neg hso, if_neg (fun q => Int32.not_le.mpr c10 q.2)]
              refine exf_go 1 (show Q (mk_) (uI (uI (uI (uI (uI (uI (uI h 39 4 (tryX g l n)) 39 3 (nI n)) 40 ((nI n).toNatClampNeg) (nI (cel g l n + 256))) 39 6 (nI ((cntN (fun n => lT l n == 1) (tot g)) + 1))) 60 ((nI c).toNatClampNeg) (nI n)) 59 1 (nI (c + 1))) 39 5 ((lG l) + 1)) from ?_)
              refine k _ (c + 1) (by omega) (Fq.uI' (Fq.uI' (Fq.uI' (Fq.uI' (Fq.uI' (Fq.uI' (Fq.uI' Fq.rfl' _ _ _ rfl) _ _ _ rfl) _ _ _ rfl) _ _ _ rfl) _ _ _ rfl) _ _ _ rfl) _ _ _ rfl) (cl_try cs.1 cl hn (LkW_try cl.1 hn) (tryL_F g l n) (tryL_T g l n) rfl (by rw [htl]; rfl) (by rw [htl]; rfl) (by rw [htl]; first | rfl | exact hf5) (by rw [htl]; first | rfl | exact hf7) (by rw [if_neg (by omega)]; rfl) rfl (fun m hm q => by show rI (uI h 40 (nI n).toNatClampNeg (nI (cel g l n + 256))) 40 m = rI h 40 m; rw [nI_clamp (by omega), rI_uI_at q]) (by show rI (uI h 40 (nI n).toNatClampNeg (nI (cel g l n + 256))) 40 n = _; rw [nI_clamp (by omega), rI_uI_eq, if_neg (by omega)]) rfl) (mk_new mk hn hc4 (tryL_T g l n) hT (fun j q => by show rI (uI h 59 1 (nI (c + 1))) 59 j = _; exact rI_uI_at q) rfl (fun j q => by show rI (uI h 60 (nI c).toNatClampNeg (nI n)) 60 j = _; rw [nI_clamp (by omega), rI_uI_at q]) (by show rI (uI h 60 (nI c).toNatClampNeg (nI n)) 60 c = _; rw [nI_clamp (by omega), rI_uI_eq]) rfl)
            · skip
              have htl : tryL g l n = (n, tryX g l n + nI (sBS g), 0, lO l, lF l, va_up (lT l) n 1) := by unfold tryL; rw [if_neg hso, if_pos ⟨by omega, Int32.not_lt.mp c10⟩]
              refine exf_go 8 (show Go (d + 3) true 34 131 [.ref 39, .ref 31, .int (nI n), .ref 59] [.int (rI h 31 11), .int (tryX g l n), .ref 39] (uI (uI (uI (uI (uI (uI (uI (uI h 39 4 (tryX g l n)) 39 3 (nI n)) 40 ((nI n).toNatClampNeg) (nI (cel g l n + 256))) 39 6 (nI ((cntN (fun n => lT l n == 1) (tot g)) + 1))) 60 ((nI c).toNatClampNeg) (nI n)) 59 1 (nI (c + 1))) 39 5 ((lG l) + 1)) 39 5 0) Q from ?_)
              rw [show (rI h 31 11 : Int32) = nI (sBS g) from cs_BS cs]
              refine exf_go 3 (show Q (mk_) (uI (uI (uI (uI (uI (uI (uI (uI (uI h 39 4 (tryX g l n)) 39 3 (nI n)) 40 ((nI n).toNatClampNeg) (nI (cel g l n + 256))) 39 6 (nI ((cntN (fun n => lT l n == 1) (tot g)) + 1))) 60 ((nI c).toNatClampNeg) (nI n)) 59 1 (nI (c + 1))) 39 5 ((lG l) + 1)) 39 5 0) 39 4 ((tryX g l n) + (nI (sBS g)))) from ?_)
              refine k _ (c + 1) (by omega) (Fq.uI' (Fq.uI' (Fq.uI' (Fq.uI' (Fq.uI' (Fq.uI' (Fq.uI' (Fq.uI' (Fq.uI' Fq.rfl' _ _ _ rfl) _ _ _ rfl) _ _ _ rfl) _ _ _ rfl) _ _ _ rfl) _ _ _ rfl) _ _ _ rfl) _ _ _ rfl) _ _ _ rfl) (cl_try cs.1 cl hn (LkW_try cl.1 hn) (tryL_F g l n) (tryL_T g l n) rfl (by rw [htl]; rfl) (by rw [htl]; rfl) (by rw [htl]; first | rfl | exact hf5) (by rw [htl]; first | rfl | exact hf7) (by rw [if_neg (by omega)]; rfl) rfl (fun m hm q => by show rI (uI h 40 (nI n).toNatClampNeg (nI (cel g l n + 256))) 40 m = rI h 40 m; rw [nI_clamp (by omega), rI_uI_at q]) (by show rI (uI h 40 (nI n).toNatClampNeg (nI (cel g l n + 256))) 40 n = _; rw [nI_clamp (by omega), rI_uI_eq, if_neg (by omega)]) rfl) (mk_new mk hn hc4 (tryL_T g l n) hT (fun j q => by show rI (uI h 59 1 (nI (c + 1))) 59 j = _; exact rI_uI_at q) rfl (fun j q => by show rI (uI h 60 (nI c).toNatClampNeg (nI n)) 60 j = _; rw [nI_clamp (by omega), rI_uI_at q]) (by show rI (uI h 60 (nI c).toNatClampNeg (nI n)) 60 c = _; rw [nI_clamp (by omega), rI_uI_eq]) rfl)
        · skip
          have hso : sO g = some n := (oI_some hob hN.2 hn).mp (Classical.not_not.mp c8)
          have htl : tryL g l n = (n, tryX g l n, lG l, 1, lF l, va_up (lT l) n 1) := by unfold tryL; rw [if_pos hso]
          refine exf_go 4 (show ((1 : Int32) = 0 ∨ (1 : Int32) = 1) ∧ Q (mk_) (uI (uI (uI (uI (uI (uI (uI h 39 4 (tryX g l n)) 39 3 (nI n)) 40 ((nI n).toNatClampNeg) (nI (cel g l n + 256))) 39 6 (nI ((cntN (fun n => lT l n == 1) (tot g)) + 1))) 60 ((nI c).toNatClampNeg) (nI n)) 59 1 (nI (c + 1))) 39 7 1) from ⟨(by first | exact Or.inl rfl | exact Or.inr rfl | assumption), ?_⟩)
          refine k _ (c + 1) (by omega) (Fq.uI' (Fq.uI' (Fq.uI' (Fq.uI' (Fq.uI' (Fq.uI' (Fq.uI' Fq.rfl' _ _ _ rfl) _ _ _ rfl) _ _ _ rfl) _ _ _ rfl) _ _ _ rfl) _ _ _ rfl) _ _ _ rfl) (cl_try cs.1 cl hn (LkW_try cl.1 hn) (tryL_F g l n) (tryL_T g l n) rfl (by rw [htl]; rfl) (by rw [htl]; rfl) (by rw [htl]; first | rfl | exact hf5) (by rw [htl]; first | rfl | exact hf7) (by rw [if_neg (by omega)]; rfl) rfl (fun m hm q => by show rI (uI h 40 (nI n).toNatClampNeg (nI (cel g l n + 256))) 40 m = rI h 40 m; rw [nI_clamp (by omega), rI_uI_at q]) (by show rI (uI h 40 (nI n).toNatClampNeg (nI (cel g l n + 256))) 40 n = _; rw [nI_clamp (by omega), rI_uI_eq, if_neg (by omega)]) rfl) (mk_new mk hn hc4 (tryL_T g l n) hT (fun j q => by show rI (uI h 59 1 (nI (c + 1))) 59 j = _; exact rI_uI_at q) rfl (fun j q => by show rI (uI h 60 (nI c).toNatClampNeg (nI n)) 60 j = _; rw [nI_clamp (by omega), rI_uI_at q]) (by show rI (uI h 60 (nI c).toNatClampNeg (nI n)) 60 c = _; rw [nI_clamp (by omega), rI_uI_eq]) rfl)
  · skip
    exact absurd (by decide) c1
theorem c_note6 {d : Nat} {h : Hp} {n c : Nat} {Q : Po} (hc : rI h 62 1 = nI c) (hc4 : c < 40) (k : Q mk_ (uI (uI h 63 (nI c).toNatClampNeg (nI n)) 62 1 (nI (c + 1)))) : wpC (d + 1) true 40 [.ref 62, .int (nI n)] h Q := by
  refine go_in rfl ?_
  refine exf_go 2 (show Go d true 40 4 [.ref 62, .int (nI n)] [.int (rI h 62 1)] h Q from ?_)
  rw [show (rI h 62 1 : Int32) = nI c from hc]
  refine exf_go 2 (show (40 ≤ (nI c) → Go d true 40 29 [.ref 62, .int (nI n)] [] h Q) ∧ (¬ (40 ≤ (nI c)) → Go d true 40 9 [.ref 62, .int (nI n)] [] h Q) from ⟨fun c1 => ?_, fun c1 => ?_⟩)
  · skip
    have c1 : 40 ≤ c := (nI_leI (a := 40) (b := c) (by omega) (by omega)).mp c1
    refine exf_go 1 (show Q (mk_) h from ?_)
    first | (exfalso; omega) | exact k
  · skip
    have c1 : ¬ 40 ≤ c := fun q => c1 ((nI_leI (a := 40) (b := c) (by omega) (by omega)).mpr q)
    refine exf_go 4 (show Go d true 40 17 [.ref 62, .int (nI n)] [.int (rI h 62 1), .ref 63] h Q from ?_)
    rw [show (rI h 62 1 : Int32) = nI c from hc]
    refine exf_go 5 (show vp_in (nI c) 40 ∧ (Go d true 40 24 [.ref 62, .int (nI n)] [.int (rI h 62 1), .ref 62] (uI h 63 ((nI c).toNatClampNeg) (nI n)) Q) from ⟨(vp_in_nI (by omega) (by omega)), ?_⟩)
    rw [show (rI h 62 1 : Int32) = nI c from hc]
    refine exf_go 2 (show Go d true 40 26 [.ref 62, .int (nI n)] [.int ((nI c) + 1), .ref 62] (uI h 63 ((nI c).toNatClampNeg) (nI n)) Q from ?_)
    rw [show ((nI c) + 1 : Int32) = nI (c + 1) from nI_add c 1]
    refine exf_go 2 (show Q (mk_) (uI (uI h 63 ((nI c).toNatClampNeg) (nI n)) 62 1 (nI (c + 1))) from ?_)
    first | (exfalso; omega) | exact k
theorem c_att6 {d : Nat} {h : Hp} {g : ShG} {l l0 : LkG} {n c : Nat} {Q : Po} (cs : CS 31 g h) (cl : CL 39 g l h) (mk : CMK g 6 l0 l c h) (hn : n < tot g) (hc4 : c < 40) (k : ∀ h1 c1, c1 ≤ c + 1 → Fq (sLm 6) h h1 → CL 39 g (tryL g l n) h1 → CMK g 6 l0 (tryL g l n) c1 h1 → Q mk_ h1) : wpC (d + 4) true 34 [.ref 39, .ref 31, .int (nI n), .ref 62] h Q := by
  have hN := tot_b cs.1
  have hA := cl.1.1
  have hf5 := cl_G cl; have hf7 := cl_O cl; have hf6 := cl_T cl; have hfn := cl_Cl cl n hn
  have hcb := cel_b cs.1 cl.1 n
  have hal := cl_al cl
  simp only [Nat.reduceAdd] at hal
  have hob := cs.1.2.2.2.2.2.2.2.2.2.2.2.1
  have hb9 := cs.1.2.2.2.2.2.2.2.2.1
  have hs9 := cs.1.2.2.2.2.2.2.2.2.2.1
  have hcn := cntN_le (fun m => lT l m == 1) (tot g)
  have hp6 := cs.1.2.2.2.2.2.2.2.1
  refine go_in rfl ?_
  refine exf_go 3 (show wpC (d + 3) true 32 [.ref 39, .int (nI n)] h (fun r h' => Go (d + 3) true 34 5 [.ref 39, .ref 31, .int (nI n), .ref 62] [r] h' Q) from ?_)
  refine c_isCell cs cl (by omega) ?_
  show Go (d + 3) true 34 5 [.ref 39, .ref 31, .int (nI n), .ref 62] [.int 1] h Q
  refine exf_go 1 (show (¬ (1 : Int32) = 0 → Go (d + 3) true 34 9 [.ref 39, .ref 31, .int (nI n), .ref 62] [] h Q) ∧ (¬ (¬ (1 : Int32) = 0) → Go (d + 3) true 34 8 [.ref 39, .ref 31, .int (nI n), .ref 62] [] h Q) from ⟨fun c1 => ?_, fun c1 => ?_⟩)
  · skip
    refine exf_go 3 (show Go (d + 3) true 34 14 [.ref 39, .ref 31, .int (nI n), .ref 62] [.int (rI h 39 4), .ref 39] h Q from ?_)
    rw [show (rI h 39 4 : Int32) = lX l from cl_X cl]
    refine exf_go 3 (show Go (d + 3) true 34 19 [.ref 39, .ref 31, .int (nI n), .ref 62] [.int (rI h 39 3), .ref 31, .int (lX l), .ref 39] h Q from ?_)
    rw [show (rI h 39 3 : Int32) = nI (lA l) from cl_A cl]
    refine exf_go 2 (show wpC (d + 3) true 83 [.ref 31, .int (nI (lA l)), .int (nI n)] h (fun r h' => Go (d + 3) true 34 23 [.ref 39, .ref 31, .int (nI n), .ref 62] [r, .int (lX l), .ref 39] h' Q) from ?_)
    refine c_turns cs (n := lA l) (m := n) (by omega) (by omega) ?_
    have htr := trn_b cs.1 (lA l) n
    show Go (d + 3) true 34 23 [.ref 39, .ref 31, .int (nI n), .ref 62] [.int (nI (trn g (lA l) n)), .int (lX l), .ref 39] h Q
    refine exf_go 2 (show Go (d + 3) true 34 27 [.ref 39, .ref 31, .int (nI n), .ref 62] [.int (rI h 31 9), .int (nI (trn g (lA l) n)), .int (lX l), .ref 39] h Q from ?_)
    rw [show (rI h 31 9 : Int32) = nI (sP g) from cs_P cs]
    refine exf_go 1 (show Go (d + 3) true 34 28 [.ref 39, .ref 31, .int (nI n), .ref 62] [.int ((nI (trn g (lA l) n)) + (nI (sP g))), .int (lX l), .ref 39] h Q from ?_)
    rw [show ((nI (trn g (lA l) n)) + (nI (sP g)) : Int32) = nI ((trn g (lA l) n) + (sP g)) from nI_add (trn g (lA l) n) (sP g)]
    refine exf_go 1 (show Go (d + 3) true 34 29 [.ref 39, .ref 31, .int (nI n), .ref 62] [.int ((lX l) + (nI ((trn g (lA l) n) + (sP g)))), .ref 39] h Q from ?_)
    rw [show ((lX l) + (nI ((trn g (lA l) n) + (sP g))) : Int32) = tryX g l n from rfl]
    refine exf_go 8 (show wpC (d + 3) true 30 [.ref 39, .int (nI n), .int 256] (uI (uI h 39 4 (tryX g l n)) 39 3 (nI n)) (fun r h' => Go (d + 3) true 34 45 [.ref 39, .ref 31, .int (nI n), .ref 62] [r] h' Q) from ?_)
    have cl1 := cl_mv cl hn (tryX g l n)
    have cs1 := cs_39 (cs_39 cs 4 (tryX g l n)) 3 (nI n)
    have e1 : cel g (n, tryX g l n, lG l, lO l, lF l, lT l) n = cel g l n := cel_cg rfl rfl
    refine c_hasMark cs1 cl1 hn (fun b2 => ?_) (fun b2 => ?_)
    · skip
      have hT : lT l n = 1 := by have h9 := cl.1.2.2.1 n; have h7 : ¬ lT l n = 0 := fun q => b2 (by rw [e1]; exact (tri_0 cs.1 cl.1).mpr q); omega
      show Go (d + 3) true 34 45 [.ref 39, .ref 31, .int (nI n), .ref 62] [.int 1] (uI (uI h 39 4 (tryX g l n)) 39 3 (nI n)) Q
      refine exf_go 1 (show (¬ (1 : Int32) = 0 → Go (d + 3) true 34 75 [.ref 39, .ref 31, .int (nI n), .ref 62] [] (uI (uI h 39 4 (tryX g l n)) 39 3 (nI n)) Q) ∧ (¬ (¬ (1 : Int32) = 0) → Go (d + 3) true 34 48 [.ref 39, .ref 31, .int (nI n), .ref 62] [] (uI (uI h 39 4 (tryX g l n)) 39 3 (nI n)) Q) from ⟨fun c3 => ?_, fun c3 => ?_⟩)
      · skip
        refine exf_go 3 (show Go (d + 3) true 34 80 [.ref 39, .ref 31, .int (nI n), .ref 62] [.int (rI h 31 15), .int (nI n)] (uI (uI h 39 4 (tryX g l n)) 39 3 (nI n)) Q from ?_)
        rw [show (rI h 31 15 : Int32) = oI (sO g) from cs_O cs]
        refine exf_go 1 (show (¬ (nI n) = (oI (sO g)) → Go (d + 3) true 34 89 [.ref 39, .ref 31, .int (nI n), .ref 62] [] (uI (uI h 39 4 (tryX g l n)) 39 3 (nI n)) Q) ∧ (¬ (¬ (nI n) = (oI (sO g))) → Go (d + 3) true 34 83 [.ref 39, .ref 31, .int (nI n), .ref 62] [] (uI (uI h 39 4 (tryX g l n)) 39 3 (nI n)) Q) from ⟨fun c4 => ?_, fun c4 => ?_⟩)
        · skip
          have hso : ¬ sO g = some n := fun q => c4 ((oI_some hob hN.2 hn).mpr q)
          refine exf_go 3 (show Go (d + 3) true 34 94 [.ref 39, .ref 31, .int (nI n), .ref 62] [.int (rI h 39 5), .ref 39] (uI (uI h 39 4 (tryX g l n)) 39 3 (nI n)) Q from ?_)
          rw [show (rI h 39 5 : Int32) = lG l from cl_G cl]
          refine exf_go 5 (show Go (d + 3) true 34 103 [.ref 39, .ref 31, .int (nI n), .ref 62] [.int (rI h 31 10)] (uI (uI (uI h 39 4 (tryX g l n)) 39 3 (nI n)) 39 5 ((lG l) + 1)) Q from ?_)
          rw [show (rI h 31 10 : Int32) = nI (sBA g) from cs_BA cs]
          refine exf_go 1 (show ((nI (sBA g)) ≤ 0 → Go (d + 3) true 34 135 [.ref 39, .ref 31, .int (nI n), .ref 62] [] (uI (uI (uI h 39 4 (tryX g l n)) 39 3 (nI n)) 39 5 ((lG l) + 1)) Q) ∧ (¬ ((nI (sBA g)) ≤ 0) → Go (d + 3) true 34 106 [.ref 39, .ref 31, .int (nI n), .ref 62] [] (uI (uI (uI h 39 4 (tryX g l n)) 39 3 (nI n)) 39 5 ((lG l) + 1)) Q) from ⟨fun c5 => ?_, fun c5 => ?_⟩)
          · skip
            have c5 : (sBA g) ≤ 0 := (nI_leI (a := (sBA g)) (b := 0) (by omega) (by omega)).mp c5
            have htl : tryL g l n = (n, tryX g l n, lG l + 1, lO l, lF l, va_up (lT l) n 1) := by unfold tryL; rw [if_neg hso, if_neg (fun q => by omega)]
            refine exf_go 1 (show Q (mk_) (uI (uI (uI h 39 4 (tryX g l n)) 39 3 (nI n)) 39 5 ((lG l) + 1)) from ?_)
            refine k _ c (by omega) (Fq.uI' (Fq.uI' (Fq.uI' Fq.rfl' _ _ _ rfl) _ _ _ rfl) _ _ _ rfl) (cl_try cs.1 cl hn (LkW_try cl.1 hn) (tryL_F g l n) (tryL_T g l n) rfl (by rw [htl]; rfl) (by rw [htl]; rfl) (by rw [htl]; first | rfl | exact hf5) (by rw [htl]; first | rfl | exact hf7) (by rw [if_pos hT]; exact hf6) rfl (fun m hm q => rfl) (by rw [if_pos hT]; exact hfn) rfl) (mk_old (mk_fq mk rfl rfl rfl) (tryL_T g l n) hT)
          · skip
            have c5 : ¬ (sBA g) ≤ 0 := fun q => c5 ((nI_leI (a := (sBA g)) (b := 0) (by omega) (by omega)).mpr q)
            refine exf_go 4 (show Go (d + 3) true 34 114 [.ref 39, .ref 31, .int (nI n), .ref 62] [.int (rI h 31 10), .int ((lG l) + 1)] (uI (uI (uI h 39 4 (tryX g l n)) 39 3 (nI n)) 39 5 ((lG l) + 1)) Q from ?_)
            rw [show (rI h 31 10 : Int32) = nI (sBA g) from cs_BA cs]
            refine exf_go 1 (show (((lG l) + 1) < (nI (sBA g)) → Go (d + 3) true 34 135 [.ref 39, .ref 31, .int (nI n), .ref 62] [] (uI (uI (uI h 39 4 (tryX g l n)) 39 3 (nI n)) 39 5 ((lG l) + 1)) Q) ∧ (¬ (((lG l) + 1) < (nI (sBA g))) → Go (d + 3) true 34 117 [.ref 39, .ref 31, .int (nI n), .ref 62] [] (uI (uI (uI h 39 4 (tryX g l n)) 39 3 (nI n)) 39 5 ((lG l) + 1)) Q) from ⟨fun c6 => ?_, fun c6 => ?_⟩)
            · skip
              have htl : tryL g l n = (n, tryX g l n, lG l + 1, lO l, lF l, va_up (lT l) n 1) := by unfold tryL; rw [if_neg hso, if_neg (fun q => Int32.not_le.mpr c6 q.2)]
              refine exf_go 1 (show Q (mk_) (uI (uI (uI h 39 4 (tryX g l n)) 39 3 (nI n)) 39 5 ((lG l) + 1)) from ?_)
              refine k _ c (by omega) (Fq.uI' (Fq.uI' (Fq.uI' Fq.rfl' _ _ _ rfl) _ _ _ rfl) _ _ _ rfl) (cl_try cs.1 cl hn (LkW_try cl.1 hn) (tryL_F g l n) (tryL_T g l n) rfl (by rw [htl]; rfl) (by rw [htl]; rfl) (by rw [htl]; first | rfl | exact hf5) (by rw [htl]; first | rfl | exact hf7) (by rw [if_pos hT]; exact hf6) rfl (fun m hm q => rfl) (by rw [if_pos hT]; exact hfn) rfl) (mk_old (mk_fq mk rfl rfl rfl) (tryL_T g l n) hT)
            · skip
              have htl : tryL g l n = (n, tryX g l n + nI (sBS g), 0, lO l, lF l, va_up (lT l) n 1) := by unfold tryL; rw [if_neg hso, if_pos ⟨by omega, Int32.not_lt.mp c6⟩]
              refine exf_go 8 (show Go (d + 3) true 34 131 [.ref 39, .ref 31, .int (nI n), .ref 62] [.int (rI h 31 11), .int (tryX g l n), .ref 39] (uI (uI (uI (uI h 39 4 (tryX g l n)) 39 3 (nI n)) 39 5 ((lG l) + 1)) 39 5 0) Q from ?_)
              rw [show (rI h 31 11 : Int32) = nI (sBS g) from cs_BS cs]
              refine exf_go 3 (show Q (mk_) (uI (uI (uI (uI (uI h 39 4 (tryX g l n)) 39 3 (nI n)) 39 5 ((lG l) + 1)) 39 5 0) 39 4 ((tryX g l n) + (nI (sBS g)))) from ?_)
              refine k _ c (by omega) (Fq.uI' (Fq.uI' (Fq.uI' (Fq.uI' (Fq.uI' Fq.rfl' _ _ _ rfl) _ _ _ rfl) _ _ _ rfl) _ _ _ rfl) _ _ _ rfl) (cl_try cs.1 cl hn (LkW_try cl.1 hn) (tryL_F g l n) (tryL_T g l n) rfl (by rw [htl]; rfl) (by rw [htl]; rfl) (by rw [htl]; first | rfl | exact hf5) (by rw [htl]; first | rfl | exact hf7) (by rw [if_pos hT]; exact hf6) rfl (fun m hm q => rfl) (by rw [if_pos hT]; exact hfn) rfl) (mk_old (mk_fq mk rfl rfl rfl) (tryL_T g l n) hT)
        · skip
          have hso : sO g = some n := (oI_some hob hN.2 hn).mp (Classical.not_not.mp c4)
          have htl : tryL g l n = (n, tryX g l n, lG l, 1, lF l, va_up (lT l) n 1) := by unfold tryL; rw [if_pos hso]
          refine exf_go 4 (show ((1 : Int32) = 0 ∨ (1 : Int32) = 1) ∧ Q (mk_) (uI (uI (uI h 39 4 (tryX g l n)) 39 3 (nI n)) 39 7 1) from ⟨(by first | exact Or.inl rfl | exact Or.inr rfl | assumption), ?_⟩)
          refine k _ c (by omega) (Fq.uI' (Fq.uI' (Fq.uI' Fq.rfl' _ _ _ rfl) _ _ _ rfl) _ _ _ rfl) (cl_try cs.1 cl hn (LkW_try cl.1 hn) (tryL_F g l n) (tryL_T g l n) rfl (by rw [htl]; rfl) (by rw [htl]; rfl) (by rw [htl]; first | rfl | exact hf5) (by rw [htl]; first | rfl | exact hf7) (by rw [if_pos hT]; exact hf6) rfl (fun m hm q => rfl) (by rw [if_pos hT]; exact hfn) rfl) (mk_old (mk_fq mk rfl rfl rfl) (tryL_T g l n) hT)
      · skip
        exact absurd (by decide) c3
    · skip
      have hT : lT l n = 0 := (tri_0 cs.1 cl.1).mp (e1 ▸ b2)
      show Go (d + 3) true 34 45 [.ref 39, .ref 31, .int (nI n), .ref 62] [.int 0] (uI (uI h 39 4 (tryX g l n)) 39 3 (nI n)) Q
      refine exf_go 1 (show (¬ (0 : Int32) = 0 → Go (d + 3) true 34 75 [.ref 39, .ref 31, .int (nI n), .ref 62] [] (uI (uI h 39 4 (tryX g l n)) 39 3 (nI n)) Q) ∧ (¬ (¬ (0 : Int32) = 0) → Go (d + 3) true 34 48 [.ref 39, .ref 31, .int (nI n), .ref 62] [] (uI (uI h 39 4 (tryX g l n)) 39 3 (nI n)) Q) from ⟨fun c7 => ?_, fun c7 => ?_⟩)
      · skip
        exact absurd c7 (by decide)
      · skip
        refine exf_go 5 (show vp_in (nI n) (al h 40) ∧ (Go (d + 3) true 34 55 [.ref 39, .ref 31, .int (nI n), .ref 62] [.int (rI h 40 ((nI n).toNatClampNeg)), .int (nI n), .ref 40] (uI (uI h 39 4 (tryX g l n)) 39 3 (nI n)) Q) from ⟨(vp_in_nI (by omega) (by omega)), ?_⟩)
        rw [show (rI h 40 ((nI n).toNatClampNeg) : Int32) = nI (cel g l n) from cl_C cs cl (n := n) (by omega)]
        refine exf_go 2 (show Go (d + 3) true 34 59 [.ref 39, .ref 31, .int (nI n), .ref 62] [.int ((nI (cel g l n)) ||| 256), .int (nI n), .ref 40] (uI (uI h 39 4 (tryX g l n)) 39 3 (nI n)) Q from ?_)
        rw [show ((nI (cel g l n)) ||| 256 : Int32) = nI (cel g l n + 256) from by rw [show (256 : Int32) = nI 256 from rfl, nI_or, or_tri _ hcb, if_pos (by rw [cel_tri cs.1 cl.1]; exact hT)]]
        refine exf_go 4 (show vp_in (nI n) (al h 40) ∧ (Go (d + 3) true 34 65 [.ref 39, .ref 31, .int (nI n), .ref 62] [.int (rI h 39 6), .ref 39] (uI (uI (uI h 39 4 (tryX g l n)) 39 3 (nI n)) 40 ((nI n).toNatClampNeg) (nI (cel g l n + 256))) Q) from ⟨(vp_in_nI (by omega) (by omega)), ?_⟩)
        rw [show (rI h 39 6 : Int32) = nI (cntN (fun n => lT l n == 1) (tot g)) from cl_T cl]
        refine exf_go 2 (show Go (d + 3) true 34 67 [.ref 39, .ref 31, .int (nI n), .ref 62] [.int ((nI (cntN (fun n => lT l n == 1) (tot g))) + 1), .ref 39] (uI (uI (uI h 39 4 (tryX g l n)) 39 3 (nI n)) 40 ((nI n).toNatClampNeg) (nI (cel g l n + 256))) Q from ?_)
        rw [show ((nI (cntN (fun n => lT l n == 1) (tot g))) + 1 : Int32) = nI ((cntN (fun n => lT l n == 1) (tot g)) + 1) from nI_add (cntN (fun n => lT l n == 1) (tot g)) 1]
        refine exf_go 4 (show wpC (d + 3) true 40 [.ref 62, .int (nI n)] (uI (uI (uI (uI h 39 4 (tryX g l n)) 39 3 (nI n)) 40 ((nI n).toNatClampNeg) (nI (cel g l n + 256))) 39 6 (nI ((cntN (fun n => lT l n == 1) (tot g)) + 1))) (fun _ h' => Go (d + 3) true 34 75 [.ref 39, .ref 31, .int (nI n), .ref 62] [] h' Q) from ?_)
        refine c_note6 (c := c) mk.2.1.1 hc4 ?_
        show Go (d + 3) true 34 75 [.ref 39, .ref 31, .int (nI n), .ref 62] [] (uI (uI (uI (uI (uI (uI h 39 4 (tryX g l n)) 39 3 (nI n)) 40 ((nI n).toNatClampNeg) (nI (cel g l n + 256))) 39 6 (nI ((cntN (fun n => lT l n == 1) (tot g)) + 1))) 63 ((nI c).toNatClampNeg) (nI n)) 62 1 (nI (c + 1))) Q
        refine exf_go 3 (show Go (d + 3) true 34 80 [.ref 39, .ref 31, .int (nI n), .ref 62] [.int (rI h 31 15), .int (nI n)] (uI (uI (uI (uI (uI (uI h 39 4 (tryX g l n)) 39 3 (nI n)) 40 ((nI n).toNatClampNeg) (nI (cel g l n + 256))) 39 6 (nI ((cntN (fun n => lT l n == 1) (tot g)) + 1))) 63 ((nI c).toNatClampNeg) (nI n)) 62 1 (nI (c + 1))) Q from ?_)
        rw [show (rI h 31 15 : Int32) = oI (sO g) from cs_O cs]
        refine exf_go 1 (show (¬ (nI n) = (oI (sO g)) → Go (d + 3) true 34 89 [.ref 39, .ref 31, .int (nI n), .ref 62] [] (uI (uI (uI (uI (uI (uI h 39 4 (tryX g l n)) 39 3 (nI n)) 40 ((nI n).toNatClampNeg) (nI (cel g l n + 256))) 39 6 (nI ((cntN (fun n => lT l n == 1) (tot g)) + 1))) 63 ((nI c).toNatClampNeg) (nI n)) 62 1 (nI (c + 1))) Q) ∧ (¬ (¬ (nI n) = (oI (sO g))) → Go (d + 3) true 34 83 [.ref 39, .ref 31, .int (nI n), .ref 62] [] (uI (uI (uI (uI (uI (uI h 39 4 (tryX g l n)) 39 3 (nI n)) 40 ((nI n).toNatClampNeg) (nI (cel g l n + 256))) 39 6 (nI ((cntN (fun n => lT l n == 1) (tot g)) + 1))) 63 ((nI c).toNatClampNeg) (nI n)) 62 1 (nI (c + 1))) Q) from ⟨fun c8 => ?_, fun c8 => ?_⟩)
        · skip
          have hso : ¬ sO g = some n := fun q => c8 ((oI_some hob hN.2 hn).mpr q)
          refine exf_go 3 (show Go (d + 3) true 34 94 [.ref 39, .ref 31, .int (nI n), .ref 62] [.int (rI h 39 5), .ref 39] (uI (uI (uI (uI (uI (uI h 39 4 (tryX g l n)) 39 3 (nI n)) 40 ((nI n).toNatClampNeg) (nI (cel g l n + 256))) 39 6 (nI ((cntN (fun n => lT l n == 1) (tot g)) + 1))) 63 ((nI c).toNatClampNeg) (nI n)) 62 1 (nI (c + 1))) Q from ?_)
          rw [show (rI h 39 5 : Int32) = lG l from cl_G cl]
          refine exf_go 5 (show Go (d + 3) true 34 103 [.ref 39, .ref 31, .int (nI n), .ref 62] [.int (rI h 31 10)] (uI (uI (uI (uI (uI (uI (uI h 39 4 (tryX g l n)) 39 3 (nI n)) 40 ((nI n).toNatClampNeg) (nI (cel g l n + 256))) 39 6 (nI ((cntN (fun n => lT l n == 1) (tot g)) + 1))) 63 ((nI c).toNatClampNeg) (nI n)) 62 1 (nI (c + 1))) 39 5 ((lG l) + 1)) Q from ?_)
          rw [show (rI h 31 10 : Int32) = nI (sBA g) from cs_BA cs]
          refine exf_go 1 (show ((nI (sBA g)) ≤ 0 → Go (d + 3) true 34 135 [.ref 39, .ref 31, .int (nI n), .ref 62] [] (uI (uI (uI (uI (uI (uI (uI h 39 4 (tryX g l n)) 39 3 (nI n)) 40 ((nI n).toNatClampNeg) (nI (cel g l n + 256))) 39 6 (nI ((cntN (fun n => lT l n == 1) (tot g)) + 1))) 63 ((nI c).toNatClampNeg) (nI n)) 62 1 (nI (c + 1))) 39 5 ((lG l) + 1)) Q) ∧ (¬ ((nI (sBA g)) ≤ 0) → Go (d + 3) true 34 106 [.ref 39, .ref 31, .int (nI n), .ref 62] [] (uI (uI (uI (uI (uI (uI (uI h 39 4 (tryX g l n)) 39 3 (nI n)) 40 ((nI n).toNatClampNeg) (nI (cel g l n + 256))) 39 6 (nI ((cntN (fun n => lT l n == 1) (tot g)) + 1))) 63 ((nI c).toNatClampNeg) (nI n)) 62 1 (nI (c + 1))) 39 5 ((lG l) + 1)) Q) from ⟨fun c9 => ?_, fun c9 => ?_⟩)
          · skip
            have c9 : (sBA g) ≤ 0 := (nI_leI (a := (sBA g)) (b := 0) (by omega) (by omega)).mp c9
            have htl : tryL g l n = (n, tryX g l n, lG l + 1, lO l, lF l, va_up (lT l) n 1) := by unfold tryL; rw [if_neg hso, if_neg (fun q => by omega)]
            refine exf_go 1 (show Q (mk_) (uI (uI (uI (uI (uI (uI (uI h 39 4 (tryX g l n)) 39 3 (nI n)) 40 ((nI n).toNatClampNeg) (nI (cel g l n + 256))) 39 6 (nI ((cntN (fun n => lT l n == 1) (tot g)) + 1))) 63 ((nI c).toNatClampNeg) (nI n)) 62 1 (nI (c + 1))) 39 5 ((lG l) + 1)) from ?_)
            refine k _ (c + 1) (by omega) (Fq.uI' (Fq.uI' (Fq.uI' (Fq.uI' (Fq.uI' (Fq.uI' (Fq.uI' Fq.rfl' _ _ _ rfl) _ _ _ rfl) _ _ _ rfl) _ _ _ rfl) _ _ _ rfl) _ _ _ rfl) _ _ _ rfl) (cl_try cs.1 cl hn (LkW_try cl.1 hn) (tryL_F g l n) (tryL_T g l n) rfl (by rw [htl]; rfl) (by rw [htl]; rfl) (by rw [htl]; first | rfl | exact hf5) (by rw [htl]; first | rfl | exact hf7) (by rw [if_neg (by omega)]; rfl) rfl (fun m hm q => by show rI (uI h 40 (nI n).toNatClampNeg (nI (cel g l n + 256))) 40 m = rI h 40 m; rw [nI_clamp (by omega), rI_uI_at q]) (by show rI (uI h 40 (nI n).toNatClampNeg (nI (cel g l n + 256))) 40 n = _; rw [nI_clamp (by omega), rI_uI_eq, if_neg (by omega)]) rfl) (mk_new mk hn hc4 (tryL_T g l n) hT (fun j q => by show rI (uI h 62 1 (nI (c + 1))) 62 j = _; exact rI_uI_at q) rfl (fun j q => by show rI (uI h 63 (nI c).toNatClampNeg (nI n)) 63 j = _; rw [nI_clamp (by omega), rI_uI_at q]) (by show rI (uI h 63 (nI c).toNatClampNeg (nI n)) 63 c = _; rw [nI_clamp (by omega), rI_uI_eq]) rfl)
          · skip
            have c9 : ¬ (sBA g) ≤ 0 := fun q => c9 ((nI_leI (a := (sBA g)) (b := 0) (by omega) (by omega)).mpr q)
            refine exf_go 4 (show Go (d + 3) true 34 114 [.ref 39, .ref 31, .int (nI n), .ref 62] [.int (rI h 31 10), .int ((lG l) + 1)] (uI (uI (uI (uI (uI (uI (uI h 39 4 (tryX g l n)) 39 3 (nI n)) 40 ((nI n).toNatClampNeg) (nI (cel g l n + 256))) 39 6 (nI ((cntN (fun n => lT l n == 1) (tot g)) + 1))) 63 ((nI c).toNatClampNeg) (nI n)) 62 1 (nI (c + 1))) 39 5 ((lG l) + 1)) Q from ?_)
            rw [show (rI h 31 10 : Int32) = nI (sBA g) from cs_BA cs]
            refine exf_go 1 (show (((lG l) + 1) < (nI (sBA g)) → Go (d + 3) true 34 135 [.ref 39, .ref 31, .int (nI n), .ref 62] [] (uI (uI (uI (uI (uI (uI (uI h 39 4 (tryX g l n)) 39 3 (nI n)) 40 ((nI n).toNatClampNeg) (nI (cel g l n + 256))) 39 6 (nI ((cntN (fun n => lT l n == 1) (tot g)) + 1))) 63 ((nI c).toNatClampNeg) (nI n)) 62 1 (nI (c + 1))) 39 5 ((lG l) + 1)) Q) ∧ (¬ (((lG l) + 1) < (nI (sBA g))) → Go (d + 3) true 34 117 [.ref 39, .ref 31, .int (nI n), .ref 62] [] (uI (uI (uI (uI (uI (uI (uI h 39 4 (tryX g l n)) 39 3 (nI n)) 40 ((nI n).toNatClampNeg) (nI (cel g l n + 256))) 39 6 (nI ((cntN (fun n => lT l n == 1) (tot g)) + 1))) 63 ((nI c).toNatClampNeg) (nI n)) 62 1 (nI (c + 1))) 39 5 ((lG l) + 1)) Q) from ⟨fun c10 => ?_, fun c10 => ?_⟩)
            · skip
              have htl : tryL g l n = (n, tryX g l n, lG l + 1, lO l, lF l, va_up (lT l) n 1) := by unfold tryL; rw [if_neg hso, if_neg (fun q => Int32.not_le.mpr c10 q.2)]
              refine exf_go 1 (show Q (mk_) (uI (uI (uI (uI (uI (uI (uI h 39 4 (tryX g l n)) 39 3 (nI n)) 40 ((nI n).toNatClampNeg) (nI (cel g l n + 256))) 39 6 (nI ((cntN (fun n => lT l n == 1) (tot g)) + 1))) 63 ((nI c).toNatClampNeg) (nI n)) 62 1 (nI (c + 1))) 39 5 ((lG l) + 1)) from ?_)
              refine k _ (c + 1) (by omega) (Fq.uI' (Fq.uI' (Fq.uI' (Fq.uI' (Fq.uI' (Fq.uI' (Fq.uI' Fq.rfl' _ _ _ rfl) _ _ _ rfl) _ _ _ rfl) _ _ _ rfl) _ _ _ rfl) _ _ _ rfl) _ _ _ rfl) (cl_try cs.1 cl hn (LkW_try cl.1 hn) (tryL_F g l n) (tryL_T g l n) rfl (by rw [htl]; rfl) (by rw [htl]; rfl) (by rw [htl]; first | rfl | exact hf5) (by rw [htl]; first | rfl | exact hf7) (by rw [if_neg (by omega)]; rfl) rfl (fun m hm q => by show rI (uI h 40 (nI n).toNatClampNeg (nI (cel g l n + 256))) 40 m = rI h 40 m; rw [nI_clamp (by omega), rI_uI_at q]) (by show rI (uI h 40 (nI n).toNatClampNeg (nI (cel g l n + 256))) 40 n = _; rw [nI_clamp (by omega), rI_uI_eq, if_neg (by omega)]) rfl) (mk_new mk hn hc4 (tryL_T g l n) hT (fun j q => by show rI (uI h 62 1 (nI (c + 1))) 62 j = _; exact rI_uI_at q) rfl (fun j q => by show rI (uI h 63 (nI c).toNatClampNeg (nI n)) 63 j = _; rw [nI_clamp (by omega), rI_uI_at q]) (by show rI (uI h 63 (nI c).toNatClampNeg (nI n)) 63 c = _; rw [nI_clamp (by omega), rI_uI_eq]) rfl)
            · skip
              have htl : tryL g l n = (n, tryX g l n + nI (sBS g), 0, lO l, lF l, va_up (lT l) n 1) := by unfold tryL; rw [if_neg hso, if_pos ⟨by omega, Int32.not_lt.mp c10⟩]
              refine exf_go 8 (show Go (d + 3) true 34 131 [.ref 39, .ref 31, .int (nI n), .ref 62] [.int (rI h 31 11), .int (tryX g l n), .ref 39] (uI (uI (uI (uI (uI (uI (uI (uI h 39 4 (tryX g l n)) 39 3 (nI n)) 40 ((nI n).toNatClampNeg) (nI (cel g l n + 256))) 39 6 (nI ((cntN (fun n => lT l n == 1) (tot g)) + 1))) 63 ((nI c).toNatClampNeg) (nI n)) 62 1 (nI (c + 1))) 39 5 ((lG l) + 1)) 39 5 0) Q from ?_)
              rw [show (rI h 31 11 : Int32) = nI (sBS g) from cs_BS cs]
              refine exf_go 3 (show Q (mk_) (uI (uI (uI (uI (uI (uI (uI (uI (uI h 39 4 (tryX g l n)) 39 3 (nI n)) 40 ((nI n).toNatClampNeg) (nI (cel g l n + 256))) 39 6 (nI ((cntN (fun n => lT l n == 1) (tot g)) + 1))) 63 ((nI c).toNatClampNeg) (nI n)) 62 1 (nI (c + 1))) 39 5 ((lG l) + 1)) 39 5 0) 39 4 ((tryX g l n) + (nI (sBS g)))) from ?_)
              refine k _ (c + 1) (by omega) (Fq.uI' (Fq.uI' (Fq.uI' (Fq.uI' (Fq.uI' (Fq.uI' (Fq.uI' (Fq.uI' (Fq.uI' Fq.rfl' _ _ _ rfl) _ _ _ rfl) _ _ _ rfl) _ _ _ rfl) _ _ _ rfl) _ _ _ rfl) _ _ _ rfl) _ _ _ rfl) _ _ _ rfl) (cl_try cs.1 cl hn (LkW_try cl.1 hn) (tryL_F g l n) (tryL_T g l n) rfl (by rw [htl]; rfl) (by rw [htl]; rfl) (by rw [htl]; first | rfl | exact hf5) (by rw [htl]; first | rfl | exact hf7) (by rw [if_neg (by omega)]; rfl) rfl (fun m hm q => by show rI (uI h 40 (nI n).toNatClampNeg (nI (cel g l n + 256))) 40 m = rI h 40 m; rw [nI_clamp (by omega), rI_uI_at q]) (by show rI (uI h 40 (nI n).toNatClampNeg (nI (cel g l n + 256))) 40 n = _; rw [nI_clamp (by omega), rI_uI_eq, if_neg (by omega)]) rfl) (mk_new mk hn hc4 (tryL_T g l n) hT (fun j q => by show rI (uI h 62 1 (nI (c + 1))) 62 j = _; exact rI_uI_at q) rfl (fun j q => by show rI (uI h 63 (nI c).toNatClampNeg (nI n)) 63 j = _; rw [nI_clamp (by omega), rI_uI_at q]) (by show rI (uI h 63 (nI c).toNatClampNeg (nI n)) 63 c = _; rw [nI_clamp (by omega), rI_uI_eq]) rfl)
        · skip
          have hso : sO g = some n := (oI_some hob hN.2 hn).mp (Classical.not_not.mp c8)
          have htl : tryL g l n = (n, tryX g l n, lG l, 1, lF l, va_up (lT l) n 1) := by unfold tryL; rw [if_pos hso]
          refine exf_go 4 (show ((1 : Int32) = 0 ∨ (1 : Int32) = 1) ∧ Q (mk_) (uI (uI (uI (uI (uI (uI (uI h 39 4 (tryX g l n)) 39 3 (nI n)) 40 ((nI n).toNatClampNeg) (nI (cel g l n + 256))) 39 6 (nI ((cntN (fun n => lT l n == 1) (tot g)) + 1))) 63 ((nI c).toNatClampNeg) (nI n)) 62 1 (nI (c + 1))) 39 7 1) from ⟨(by first | exact Or.inl rfl | exact Or.inr rfl | assumption), ?_⟩)
          refine k _ (c + 1) (by omega) (Fq.uI' (Fq.uI' (Fq.uI' (Fq.uI' (Fq.uI' (Fq.uI' (Fq.uI' Fq.rfl' _ _ _ rfl) _ _ _ rfl) _ _ _ rfl) _ _ _ rfl) _ _ _ rfl) _ _ _ rfl) _ _ _ rfl) (cl_try cs.1 cl hn (LkW_try cl.1 hn) (tryL_F g l n) (tryL_T g l n) rfl (by rw [htl]; rfl) (by rw [htl]; rfl) (by rw [htl]; first | rfl | exact hf5) (by rw [htl]; first | rfl | exact hf7) (by rw [if_neg (by omega)]; rfl) rfl (fun m hm q => by show rI (uI h 40 (nI n).toNatClampNeg (nI (cel g l n + 256))) 40 m = rI h 40 m; rw [nI_clamp (by omega), rI_uI_at q]) (by show rI (uI h 40 (nI n).toNatClampNeg (nI (cel g l n + 256))) 40 n = _; rw [nI_clamp (by omega), rI_uI_eq, if_neg (by omega)]) rfl) (mk_new mk hn hc4 (tryL_T g l n) hT (fun j q => by show rI (uI h 62 1 (nI (c + 1))) 62 j = _; exact rI_uI_at q) rfl (fun j q => by show rI (uI h 63 (nI c).toNatClampNeg (nI n)) 63 j = _; rw [nI_clamp (by omega), rI_uI_at q]) (by show rI (uI h 63 (nI c).toNatClampNeg (nI n)) 63 c = _; rw [nI_clamp (by omega), rI_uI_eq]) rfl)
  · skip
    exact absurd (by decide) c1
theorem c_note7 {d : Nat} {h : Hp} {n c : Nat} {Q : Po} (hc : rI h 65 1 = nI c) (hc4 : c < 40) (k : Q mk_ (uI (uI h 66 (nI c).toNatClampNeg (nI n)) 65 1 (nI (c + 1)))) : wpC (d + 1) true 40 [.ref 65, .int (nI n)] h Q := by
  refine go_in rfl ?_
  refine exf_go 2 (show Go d true 40 4 [.ref 65, .int (nI n)] [.int (rI h 65 1)] h Q from ?_)
  rw [show (rI h 65 1 : Int32) = nI c from hc]
  refine exf_go 2 (show (40 ≤ (nI c) → Go d true 40 29 [.ref 65, .int (nI n)] [] h Q) ∧ (¬ (40 ≤ (nI c)) → Go d true 40 9 [.ref 65, .int (nI n)] [] h Q) from ⟨fun c1 => ?_, fun c1 => ?_⟩)
  · skip
    have c1 : 40 ≤ c := (nI_leI (a := 40) (b := c) (by omega) (by omega)).mp c1
    refine exf_go 1 (show Q (mk_) h from ?_)
    first | (exfalso; omega) | exact k
  · skip
    have c1 : ¬ 40 ≤ c := fun q => c1 ((nI_leI (a := 40) (b := c) (by omega) (by omega)).mpr q)
    refine exf_go 4 (show Go d true 40 17 [.ref 65, .int (nI n)] [.int (rI h 65 1), .ref 66] h Q from ?_)
    rw [show (rI h 65 1 : Int32) = nI c from hc]
    refine exf_go 5 (show vp_in (nI c) 40 ∧ (Go d true 40 24 [.ref 65, .int (nI n)] [.int (rI h 65 1), .ref 65] (uI h 66 ((nI c).toNatClampNeg) (nI n)) Q) from ⟨(vp_in_nI (by omega) (by omega)), ?_⟩)
    rw [show (rI h 65 1 : Int32) = nI c from hc]
    refine exf_go 2 (show Go d true 40 26 [.ref 65, .int (nI n)] [.int ((nI c) + 1), .ref 65] (uI h 66 ((nI c).toNatClampNeg) (nI n)) Q from ?_)
    rw [show ((nI c) + 1 : Int32) = nI (c + 1) from nI_add c 1]
    refine exf_go 2 (show Q (mk_) (uI (uI h 66 ((nI c).toNatClampNeg) (nI n)) 65 1 (nI (c + 1))) from ?_)
    first | (exfalso; omega) | exact k
theorem c_att7 {d : Nat} {h : Hp} {g : ShG} {l l0 : LkG} {n c : Nat} {Q : Po} (cs : CS 31 g h) (cl : CL 39 g l h) (mk : CMK g 7 l0 l c h) (hn : n < tot g) (hc4 : c < 40) (k : ∀ h1 c1, c1 ≤ c + 1 → Fq (sLm 7) h h1 → CL 39 g (tryL g l n) h1 → CMK g 7 l0 (tryL g l n) c1 h1 → Q mk_ h1) : wpC (d + 4) true 34 [.ref 39, .ref 31, .int (nI n), .ref 65] h Q := by
  have hN := tot_b cs.1
  have hA := cl.1.1
  have hf5 := cl_G cl; have hf7 := cl_O cl; have hf6 := cl_T cl; have hfn := cl_Cl cl n hn
  have hcb := cel_b cs.1 cl.1 n
  have hal := cl_al cl
  simp only [Nat.reduceAdd] at hal
  have hob := cs.1.2.2.2.2.2.2.2.2.2.2.2.1
  have hb9 := cs.1.2.2.2.2.2.2.2.2.1
  have hs9 := cs.1.2.2.2.2.2.2.2.2.2.1
  have hcn := cntN_le (fun m => lT l m == 1) (tot g)
  have hp6 := cs.1.2.2.2.2.2.2.2.1
  refine go_in rfl ?_
  refine exf_go 3 (show wpC (d + 3) true 32 [.ref 39, .int (nI n)] h (fun r h' => Go (d + 3) true 34 5 [.ref 39, .ref 31, .int (nI n), .ref 65] [r] h' Q) from ?_)
  refine c_isCell cs cl (by omega) ?_
  show Go (d + 3) true 34 5 [.ref 39, .ref 31, .int (nI n), .ref 65] [.int 1] h Q
  refine exf_go 1 (show (¬ (1 : Int32) = 0 → Go (d + 3) true 34 9 [.ref 39, .ref 31, .int (nI n), .ref 65] [] h Q) ∧ (¬ (¬ (1 : Int32) = 0) → Go (d + 3) true 34 8 [.ref 39, .ref 31, .int (nI n), .ref 65] [] h Q) from ⟨fun c1 => ?_, fun c1 => ?_⟩)
  · skip
    refine exf_go 3 (show Go (d + 3) true 34 14 [.ref 39, .ref 31, .int (nI n), .ref 65] [.int (rI h 39 4), .ref 39] h Q from ?_)
    rw [show (rI h 39 4 : Int32) = lX l from cl_X cl]
    refine exf_go 3 (show Go (d + 3) true 34 19 [.ref 39, .ref 31, .int (nI n), .ref 65] [.int (rI h 39 3), .ref 31, .int (lX l), .ref 39] h Q from ?_)
    rw [show (rI h 39 3 : Int32) = nI (lA l) from cl_A cl]
    refine exf_go 2 (show wpC (d + 3) true 83 [.ref 31, .int (nI (lA l)), .int (nI n)] h (fun r h' => Go (d + 3) true 34 23 [.ref 39, .ref 31, .int (nI n), .ref 65] [r, .int (lX l), .ref 39] h' Q) from ?_)
    refine c_turns cs (n := lA l) (m := n) (by omega) (by omega) ?_
    have htr := trn_b cs.1 (lA l) n
    show Go (d + 3) true 34 23 [.ref 39, .ref 31, .int (nI n), .ref 65] [.int (nI (trn g (lA l) n)), .int (lX l), .ref 39] h Q
    refine exf_go 2 (show Go (d + 3) true 34 27 [.ref 39, .ref 31, .int (nI n), .ref 65] [.int (rI h 31 9), .int (nI (trn g (lA l) n)), .int (lX l), .ref 39] h Q from ?_)
    rw [show (rI h 31 9 : Int32) = nI (sP g) from cs_P cs]
    refine exf_go 1 (show Go (d + 3) true 34 28 [.ref 39, .ref 31, .int (nI n), .ref 65] [.int ((nI (trn g (lA l) n)) + (nI (sP g))), .int (lX l), .ref 39] h Q from ?_)
    rw [show ((nI (trn g (lA l) n)) + (nI (sP g)) : Int32) = nI ((trn g (lA l) n) + (sP g)) from nI_add (trn g (lA l) n) (sP g)]
    refine exf_go 1 (show Go (d + 3) true 34 29 [.ref 39, .ref 31, .int (nI n), .ref 65] [.int ((lX l) + (nI ((trn g (lA l) n) + (sP g)))), .ref 39] h Q from ?_)
    rw [show ((lX l) + (nI ((trn g (lA l) n) + (sP g))) : Int32) = tryX g l n from rfl]
    refine exf_go 8 (show wpC (d + 3) true 30 [.ref 39, .int (nI n), .int 256] (uI (uI h 39 4 (tryX g l n)) 39 3 (nI n)) (fun r h' => Go (d + 3) true 34 45 [.ref 39, .ref 31, .int (nI n), .ref 65] [r] h' Q) from ?_)
    have cl1 := cl_mv cl hn (tryX g l n)
    have cs1 := cs_39 (cs_39 cs 4 (tryX g l n)) 3 (nI n)
    have e1 : cel g (n, tryX g l n, lG l, lO l, lF l, lT l) n = cel g l n := cel_cg rfl rfl
    refine c_hasMark cs1 cl1 hn (fun b2 => ?_) (fun b2 => ?_)
    · skip
      have hT : lT l n = 1 := by have h9 := cl.1.2.2.1 n; have h7 : ¬ lT l n = 0 := fun q => b2 (by rw [e1]; exact (tri_0 cs.1 cl.1).mpr q); omega
      show Go (d + 3) true 34 45 [.ref 39, .ref 31, .int (nI n), .ref 65] [.int 1] (uI (uI h 39 4 (tryX g l n)) 39 3 (nI n)) Q
      refine exf_go 1 (show (¬ (1 : Int32) = 0 → Go (d + 3) true 34 75 [.ref 39, .ref 31, .int (nI n), .ref 65] [] (uI (uI h 39 4 (tryX g l n)) 39 3 (nI n)) Q) ∧ (¬ (¬ (1 : Int32) = 0) → Go (d + 3) true 34 48 [.ref 39, .ref 31, .int (nI n), .ref 65] [] (uI (uI h 39 4 (tryX g l n)) 39 3 (nI n)) Q) from ⟨fun c3 => ?_, fun c3 => ?_⟩)
      · skip
        refine exf_go 3 (show Go (d + 3) true 34 80 [.ref 39, .ref 31, .int (nI n), .ref 65] [.int (rI h 31 15), .int (nI n)] (uI (uI h 39 4 (tryX g l n)) 39 3 (nI n)) Q from ?_)
        rw [show (rI h 31 15 : Int32) = oI (sO g) from cs_O cs]
        refine exf_go 1 (show (¬ (nI n) = (oI (sO g)) → Go (d + 3) true 34 89 [.ref 39, .ref 31, .int (nI n), .ref 65] [] (uI (uI h 39 4 (tryX g l n)) 39 3 (nI n)) Q) ∧ (¬ (¬ (nI n) = (oI (sO g))) → Go (d + 3) true 34 83 [.ref 39, .ref 31, .int (nI n), .ref 65] [] (uI (uI h 39 4 (tryX g l n)) 39 3 (nI n)) Q) from ⟨fun c4 => ?_, fun c4 => ?_⟩)
        · skip
          have hso : ¬ sO g = some n := fun q => c4 ((oI_some hob hN.2 hn).mpr q)
          refine exf_go 3 (show Go (d + 3) true 34 94 [.ref 39, .ref 31, .int (nI n), .ref 65] [.int (rI h 39 5), .ref 39] (uI (uI h 39 4 (tryX g l n)) 39 3 (nI n)) Q from ?_)
          rw [show (rI h 39 5 : Int32) = lG l from cl_G cl]
          refine exf_go 5 (show Go (d + 3) true 34 103 [.ref 39, .ref 31, .int (nI n), .ref 65] [.int (rI h 31 10)] (uI (uI (uI h 39 4 (tryX g l n)) 39 3 (nI n)) 39 5 ((lG l) + 1)) Q from ?_)
          rw [show (rI h 31 10 : Int32) = nI (sBA g) from cs_BA cs]
          refine exf_go 1 (show ((nI (sBA g)) ≤ 0 → Go (d + 3) true 34 135 [.ref 39, .ref 31, .int (nI n), .ref 65] [] (uI (uI (uI h 39 4 (tryX g l n)) 39 3 (nI n)) 39 5 ((lG l) + 1)) Q) ∧ (¬ ((nI (sBA g)) ≤ 0) → Go (d + 3) true 34 106 [.ref 39, .ref 31, .int (nI n), .ref 65] [] (uI (uI (uI h 39 4 (tryX g l n)) 39 3 (nI n)) 39 5 ((lG l) + 1)) Q) from ⟨fun c5 => ?_, fun c5 => ?_⟩)
          · skip
            have c5 : (sBA g) ≤ 0 := (nI_leI (a := (sBA g)) (b := 0) (by omega) (by omega)).mp c5
            have htl : tryL g l n = (n, tryX g l n, lG l + 1, lO l, lF l, va_up (lT l) n 1) := by unfold tryL; rw [if_neg hso, if_neg (fun q => by omega)]
            refine exf_go 1 (show Q (mk_) (uI (uI (uI h 39 4 (tryX g l n)) 39 3 (nI n)) 39 5 ((lG l) + 1)) from ?_)
            refine k _ c (by omega) (Fq.uI' (Fq.uI' (Fq.uI' Fq.rfl' _ _ _ rfl) _ _ _ rfl) _ _ _ rfl) (cl_try cs.1 cl hn (LkW_try cl.1 hn) (tryL_F g l n) (tryL_T g l n) rfl (by rw [htl]; rfl) (by rw [htl]; rfl) (by rw [htl]; first | rfl | exact hf5) (by rw [htl]; first | rfl | exact hf7) (by rw [if_pos hT]; exact hf6) rfl (fun m hm q => rfl) (by rw [if_pos hT]; exact hfn) rfl) (mk_old (mk_fq mk rfl rfl rfl) (tryL_T g l n) hT)
          · skip
            have c5 : ¬ (sBA g) ≤ 0 := fun q => c5 ((nI_leI (a := (sBA g)) (b := 0) (by omega) (by omega)).mpr q)
            refine exf_go 4 (show Go (d + 3) true 34 114 [.ref 39, .ref 31, .int (nI n), .ref 65] [.int (rI h 31 10), .int ((lG l) + 1)] (uI (uI (uI h 39 4 (tryX g l n)) 39 3 (nI n)) 39 5 ((lG l) + 1)) Q from ?_)
            rw [show (rI h 31 10 : Int32) = nI (sBA g) from cs_BA cs]
            refine exf_go 1 (show (((lG l) + 1) < (nI (sBA g)) → Go (d + 3) true 34 135 [.ref 39, .ref 31, .int (nI n), .ref 65] [] (uI (uI (uI h 39 4 (tryX g l n)) 39 3 (nI n)) 39 5 ((lG l) + 1)) Q) ∧ (¬ (((lG l) + 1) < (nI (sBA g))) → Go (d + 3) true 34 117 [.ref 39, .ref 31, .int (nI n), .ref 65] [] (uI (uI (uI h 39 4 (tryX g l n)) 39 3 (nI n)) 39 5 ((lG l) + 1)) Q) from ⟨fun c6 => ?_, fun c6 => ?_⟩)
            · skip
              have htl : tryL g l n = (n, tryX g l n, lG l + 1, lO l, lF l, va_up (lT l) n 1) := by unfold tryL; rw [if_neg hso, if_neg (fun q => Int32.not_le.mpr c6 q.2)]
              refine exf_go 1 (show Q (mk_) (uI (uI (uI h 39 4 (tryX g l n)) 39 3 (nI n)) 39 5 ((lG l) + 1)) from ?_)
              refine k _ c (by omega) (Fq.uI' (Fq.uI' (Fq.uI' Fq.rfl' _ _ _ rfl) _ _ _ rfl) _ _ _ rfl) (cl_try cs.1 cl hn (LkW_try cl.1 hn) (tryL_F g l n) (tryL_T g l n) rfl (by rw [htl]; rfl) (by rw [htl]; rfl) (by rw [htl]; first | rfl | exact hf5) (by rw [htl]; first | rfl | exact hf7) (by rw [if_pos hT]; exact hf6) rfl (fun m hm q => rfl) (by rw [if_pos hT]; exact hfn) rfl) (mk_old (mk_fq mk rfl rfl rfl) (tryL_T g l n) hT)
            · skip
              have htl : tryL g l n = (n, tryX g l n + nI (sBS g), 0, lO l, lF l, va_up (lT l) n 1) := by unfold tryL; rw [if_neg hso, if_pos ⟨by omega, Int32.not_lt.mp c6⟩]
              refine exf_go 8 (show Go (d + 3) true 34 131 [.ref 39, .ref 31, .int (nI n), .ref 65] [.int (rI h 31 11), .int (tryX g l n), .ref 39] (uI (uI (uI (uI h 39 4 (tryX g l n)) 39 3 (nI n)) 39 5 ((lG l) + 1)) 39 5 0) Q from ?_)
              rw [show (rI h 31 11 : Int32) = nI (sBS g) from cs_BS cs]
              refine exf_go 3 (show Q (mk_) (uI (uI (uI (uI (uI h 39 4 (tryX g l n)) 39 3 (nI n)) 39 5 ((lG l) + 1)) 39 5 0) 39 4 ((tryX g l n) + (nI (sBS g)))) from ?_)
              refine k _ c (by omega) (Fq.uI' (Fq.uI' (Fq.uI' (Fq.uI' (Fq.uI' Fq.rfl' _ _ _ rfl) _ _ _ rfl) _ _ _ rfl) _ _ _ rfl) _ _ _ rfl) (cl_try cs.1 cl hn (LkW_try cl.1 hn) (tryL_F g l n) (tryL_T g l n) rfl (by rw [htl]; rfl) (by rw [htl]; rfl) (by rw [htl]; first | rfl | exact hf5) (by rw [htl]; first | rfl | exact hf7) (by rw [if_pos hT]; exact hf6) rfl (fun m hm q => rfl) (by rw [if_pos hT]; exact hfn) rfl) (mk_old (mk_fq mk rfl rfl rfl) (tryL_T g l n) hT)
        · skip
          have hso : sO g = some n := (oI_some hob hN.2 hn).mp (Classical.not_not.mp c4)
          have htl : tryL g l n = (n, tryX g l n, lG l, 1, lF l, va_up (lT l) n 1) := by unfold tryL; rw [if_pos hso]
          refine exf_go 4 (show ((1 : Int32) = 0 ∨ (1 : Int32) = 1) ∧ Q (mk_) (uI (uI (uI h 39 4 (tryX g l n)) 39 3 (nI n)) 39 7 1) from ⟨(by first | exact Or.inl rfl | exact Or.inr rfl | assumption), ?_⟩)
          refine k _ c (by omega) (Fq.uI' (Fq.uI' (Fq.uI' Fq.rfl' _ _ _ rfl) _ _ _ rfl) _ _ _ rfl) (cl_try cs.1 cl hn (LkW_try cl.1 hn) (tryL_F g l n) (tryL_T g l n) rfl (by rw [htl]; rfl) (by rw [htl]; rfl) (by rw [htl]; first | rfl | exact hf5) (by rw [htl]; first | rfl | exact hf7) (by rw [if_pos hT]; exact hf6) rfl (fun m hm q => rfl) (by rw [if_pos hT]; exact hfn) rfl) (mk_old (mk_fq mk rfl rfl rfl) (tryL_T g l n) hT)
      · skip
        exact absurd (by decide) c3
    · skip
      have hT : lT l n = 0 := (tri_0 cs.1 cl.1).mp (e1 ▸ b2)
      show Go (d + 3) true 34 45 [.ref 39, .ref 31, .int (nI n), .ref 65] [.int 0] (uI (uI h 39 4 (tryX g l n)) 39 3 (nI n)) Q
      refine exf_go 1 (show (¬ (0 : Int32) = 0 → Go (d + 3) true 34 75 [.ref 39, .ref 31, .int (nI n), .ref 65] [] (uI (uI h 39 4 (tryX g l n)) 39 3 (nI n)) Q) ∧ (¬ (¬ (0 : Int32) = 0) → Go (d + 3) true 34 48 [.ref 39, .ref 31, .int (nI n), .ref 65] [] (uI (uI h 39 4 (tryX g l n)) 39 3 (nI n)) Q) from ⟨fun c7 => ?_, fun c7 => ?_⟩)
      · skip
        exact absurd c7 (by decide)
      · skip
        refine exf_go 5 (show vp_in (nI n) (al h 40) ∧ (Go (d + 3) true 34 55 [.ref 39, .ref 31, .int (nI n), .ref 65] [.int (rI h 40 ((nI n).toNatClampNeg)), .int (nI n), .ref 40] (uI (uI h 39 4 (tryX g l n)) 39 3 (nI n)) Q) from ⟨(vp_in_nI (by omega) (by omega)), ?_⟩)
        rw [show (rI h 40 ((nI n).toNatClampNeg) : Int32) = nI (cel g l n) from cl_C cs cl (n := n) (by omega)]
        refine exf_go 2 (show Go (d + 3) true 34 59 [.ref 39, .ref 31, .int (nI n), .ref 65] [.int ((nI (cel g l n)) ||| 256), .int (nI n), .ref 40] (uI (uI h 39 4 (tryX g l n)) 39 3 (nI n)) Q from ?_)
        rw [show ((nI (cel g l n)) ||| 256 : Int32) = nI (cel g l n + 256) from by rw [show (256 : Int32) = nI 256 from rfl, nI_or, or_tri _ hcb, if_pos (by rw [cel_tri cs.1 cl.1]; exact hT)]]
        refine exf_go 4 (show vp_in (nI n) (al h 40) ∧ (Go (d + 3) true 34 65 [.ref 39, .ref 31, .int (nI n), .ref 65] [.int (rI h 39 6), .ref 39] (uI (uI (uI h 39 4 (tryX g l n)) 39 3 (nI n)) 40 ((nI n).toNatClampNeg) (nI (cel g l n + 256))) Q) from ⟨(vp_in_nI (by omega) (by omega)), ?_⟩)
        rw [show (rI h 39 6 : Int32) = nI (cntN (fun n => lT l n == 1) (tot g)) from cl_T cl]
        refine exf_go 2 (show Go (d + 3) true 34 67 [.ref 39, .ref 31, .int (nI n), .ref 65] [.int ((nI (cntN (fun n => lT l n == 1) (tot g))) + 1), .ref 39] (uI (uI (uI h 39 4 (tryX g l n)) 39 3 (nI n)) 40 ((nI n).toNatClampNeg) (nI (cel g l n + 256))) Q from ?_)
        rw [show ((nI (cntN (fun n => lT l n == 1) (tot g))) + 1 : Int32) = nI ((cntN (fun n => lT l n == 1) (tot g)) + 1) from nI_add (cntN (fun n => lT l n == 1) (tot g)) 1]
        refine exf_go 4 (show wpC (d + 3) true 40 [.ref 65, .int (nI n)] (uI (uI (uI (uI h 39 4 (tryX g l n)) 39 3 (nI n)) 40 ((nI n).toNatClampNeg) (nI (cel g l n + 256))) 39 6 (nI ((cntN (fun n => lT l n == 1) (tot g)) + 1))) (fun _ h' => Go (d + 3) true 34 75 [.ref 39, .ref 31, .int (nI n), .ref 65] [] h' Q) from ?_)
        refine c_note7 (c := c) mk.2.1.1 hc4 ?_
        show Go (d + 3) true 34 75 [.ref 39, .ref 31, .int (nI n), .ref 65] [] (uI (uI (uI (uI (uI (uI h 39 4 (tryX g l n)) 39 3 (nI n)) 40 ((nI n).toNatClampNeg) (nI (cel g l n + 256))) 39 6 (nI ((cntN (fun n => lT l n == 1) (tot g)) + 1))) 66 ((nI c).toNatClampNeg) (nI n)) 65 1 (nI (c + 1))) Q
        refine exf_go 3 (show Go (d + 3) true 34 80 [.ref 39, .ref 31, .int (nI n), .ref 65] [.int (rI h 31 15), .int (nI n)] (uI (uI (uI (uI (uI (uI h 39 4 (tryX g l n)) 39 3 (nI n)) 40 ((nI n).toNatClampNeg) (nI (cel g l n + 256))) 39 6 (nI ((cntN (fun n => lT l n == 1) (tot g)) + 1))) 66 ((nI c).toNatClampNeg) (nI n)) 65 1 (nI (c + 1))) Q from ?_)
        rw [show (rI h 31 15 : Int32) = oI (sO g) from cs_O cs]
        refine exf_go 1 (show (¬ (nI n) = (oI (sO g)) → Go (d + 3) true 34 89 [.ref 39, .ref 31, .int (nI n), .ref 65] [] (uI (uI (uI (uI (uI (uI h 39 4 (tryX g l n)) 39 3 (nI n)) 40 ((nI n).toNatClampNeg) (nI (cel g l n + 256))) 39 6 (nI ((cntN (fun n => lT l n == 1) (tot g)) + 1))) 66 ((nI c).toNatClampNeg) (nI n)) 65 1 (nI (c + 1))) Q) ∧ (¬ (¬ (nI n) = (oI (sO g))) → Go (d + 3) true 34 83 [.ref 39, .ref 31, .int (nI n), .ref 65] [] (uI (uI (uI (uI (uI (uI h 39 4 (tryX g l n)) 39 3 (nI n)) 40 ((nI n).toNatClampNeg) (nI (cel g l n + 256))) 39 6 (nI ((cntN (fun n => lT l n == 1) (tot g)) + 1))) 66 ((nI c).toNatClampNeg) (nI n)) 65 1 (nI (c + 1))) Q) from ⟨fun c8 => ?_, fun c8 => ?_⟩)
        · skip
          have hso : ¬ sO g = some n := fun q => c8 ((oI_some hob hN.2 hn).mpr q)
          refine exf_go 3 (show Go (d + 3) true 34 94 [.ref 39, .ref 31, .int (nI n), .ref 65] [.int (rI h 39 5), .ref 39] (uI (uI (uI (uI (uI (uI h 39 4 (tryX g l n)) 39 3 (nI n)) 40 ((nI n).toNatClampNeg) (nI (cel g l n + 256))) 39 6 (nI ((cntN (fun n => lT l n == 1) (tot g)) + 1))) 66 ((nI c).toNatClampNeg) (nI n)) 65 1 (nI (c + 1))) Q from ?_)
          rw [show (rI h 39 5 : Int32) = lG l from cl_G cl]
          refine exf_go 5 (show Go (d + 3) true 34 103 [.ref 39, .ref 31, .int (nI n), .ref 65] [.int (rI h 31 10)] (uI (uI (uI (uI (uI (uI (uI h 39 4 (tryX g l n)) 39 3 (nI n)) 40 ((nI n).toNatClampNeg) (nI (cel g l n + 256))) 39 6 (nI ((cntN (fun n => lT l n == 1) (tot g)) + 1))) 66 ((nI c).toNatClampNeg) (nI n)) 65 1 (nI (c + 1))) 39 5 ((lG l) + 1)) Q from ?_)
          rw [show (rI h 31 10 : Int32) = nI (sBA g) from cs_BA cs]
          refine exf_go 1 (show ((nI (sBA g)) ≤ 0 → Go (d + 3) true 34 135 [.ref 39, .ref 31, .int (nI n), .ref 65] [] (uI (uI (uI (uI (uI (uI (uI h 39 4 (tryX g l n)) 39 3 (nI n)) 40 ((nI n).toNatClampNeg) (nI (cel g l n + 256))) 39 6 (nI ((cntN (fun n => lT l n == 1) (tot g)) + 1))) 66 ((nI c).toNatClampNeg) (nI n)) 65 1 (nI (c + 1))) 39 5 ((lG l) + 1)) Q) ∧ (¬ ((nI (sBA g)) ≤ 0) → Go (d + 3) true 34 106 [.ref 39, .ref 31, .int (nI n), .ref 65] [] (uI (uI (uI (uI (uI (uI (uI h 39 4 (tryX g l n)) 39 3 (nI n)) 40 ((nI n).toNatClampNeg) (nI (cel g l n + 256))) 39 6 (nI ((cntN (fun n => lT l n == 1) (tot g)) + 1))) 66 ((nI c).toNatClampNeg) (nI n)) 65 1 (nI (c + 1))) 39 5 ((lG l) + 1)) Q) from ⟨fun c9 => ?_, fun c9 => ?_⟩)
          · skip
            have c9 : (sBA g) ≤ 0 := (nI_leI (a := (sBA g)) (b := 0) (by omega) (by omega)).mp c9
            have htl : tryL g l n = (n, tryX g l n, lG l + 1, lO l, lF l, va_up (lT l) n 1) := by unfold tryL; rw [if_neg hso, if_neg (fun q => by omega)]
            refine exf_go 1 (show Q (mk_) (uI (uI (uI (uI (uI (uI (uI h 39 4 (tryX g l n)) 39 3 (nI n)) 40 ((nI n).toNatClampNeg) (nI (cel g l n + 256))) 39 6 (nI ((cntN (fun n => lT l n == 1) (tot g)) + 1))) 66 ((nI c).toNatClampNeg) (nI n)) 65 1 (nI (c + 1))) 39 5 ((lG l) + 1)) from ?_)
            refine k _ (c + 1) (by omega) (Fq.uI' (Fq.uI' (Fq.uI' (Fq.uI' (Fq.uI' (Fq.uI' (Fq.uI' Fq.rfl' _ _ _ rfl) _ _ _ rfl) _ _ _ rfl) _ _ _ rfl) _ _ _ rfl) _ _ _ rfl) _ _ _ rfl) (cl_try cs.1 cl hn (LkW_try cl.1 hn) (tryL_F g l n) (tryL_T g l n) rfl (by rw [htl]; rfl) (by rw [htl]; rfl) (by rw [htl]; first | rfl | exact hf5) (by rw [htl]; first | rfl | exact hf7) (by rw [if_neg (by omega)]; rfl) rfl (fun m hm q => by show rI (uI h 40 (nI n).toNatClampNeg (nI (cel g l n + 256))) 40 m = rI h 40 m; rw [nI_clamp (by omega), rI_uI_at q]) (by show rI (uI h 40 (nI n).toNatClampNeg (nI (cel g l n + 256))) 40 n = _; rw [nI_clamp (by omega), rI_uI_eq, if_neg (by omega)]) rfl) (mk_new mk hn hc4 (tryL_T g l n) hT (fun j q => by show rI (uI h 65 1 (nI (c + 1))) 65 j = _; exact rI_uI_at q) rfl (fun j q => by show rI (uI h 66 (nI c).toNatClampNeg (nI n)) 66 j = _; rw [nI_clamp (by omega), rI_uI_at q]) (by show rI (uI h 66 (nI c).toNatClampNeg (nI n)) 66 c = _; rw [nI_clamp (by omega), rI_uI_eq]) rfl)
          · skip
            have c9 : ¬ (sBA g) ≤ 0 := fun q => c9 ((nI_leI (a := (sBA g)) (b := 0) (by omega) (by omega)).mpr q)
            refine exf_go 4 (show Go (d + 3) true 34 114 [.ref 39, .ref 31, .int (nI n), .ref 65] [.int (rI h 31 10), .int ((lG l) + 1)] (uI (uI (uI (uI (uI (uI (uI h 39 4 (tryX g l n)) 39 3 (nI n)) 40 ((nI n).toNatClampNeg) (nI (cel g l n + 256))) 39 6 (nI ((cntN (fun n => lT l n == 1) (tot g)) + 1))) 66 ((nI c).toNatClampNeg) (nI n)) 65 1 (nI (c + 1))) 39 5 ((lG l) + 1)) Q from ?_)
            rw [show (rI h 31 10 : Int32) = nI (sBA g) from cs_BA cs]
            refine exf_go 1 (show (((lG l) + 1) < (nI (sBA g)) → Go (d + 3) true 34 135 [.ref 39, .ref 31, .int (nI n), .ref 65] [] (uI (uI (uI (uI (uI (uI (uI h 39 4 (tryX g l n)) 39 3 (nI n)) 40 ((nI n).toNatClampNeg) (nI (cel g l n + 256))) 39 6 (nI ((cntN (fun n => lT l n == 1) (tot g)) + 1))) 66 ((nI c).toNatClampNeg) (nI n)) 65 1 (nI (c + 1))) 39 5 ((lG l) + 1)) Q) ∧ (¬ (((lG l) + 1) < (nI (sBA g))) → Go (d + 3) true 34 117 [.ref 39, .ref 31, .int (nI n), .ref 65] [] (uI (uI (uI (uI (uI (uI (uI h 39 4 (tryX g l n)) 39 3 (nI n)) 40 ((nI n).toNatClampNeg) (nI (cel g l n + 256))) 39 6 (nI ((cntN (fun n => lT l n == 1) (tot g)) + 1))) 66 ((nI c).toNatClampNeg) (nI n)) 65 1 (nI (c + 1))) 39 5 ((lG l) + 1)) Q) from ⟨fun c10 => ?_, fun c10 => ?_⟩)
            · skip
              have htl : tryL g l n = (n, tryX g l n, lG l + 1, lO l, lF l, va_up (lT l) n 1) := by unfold tryL; rw [if_neg hso, if_neg (fun q => Int32.not_le.mpr c10 q.2)]
              refine exf_go 1 (show Q (mk_) (uI (uI (uI (uI (uI (uI (uI h 39 4 (tryX g l n)) 39 3 (nI n)) 40 ((nI n).toNatClampNeg) (nI (cel g l n + 256))) 39 6 (nI ((cntN (fun n => lT l n == 1) (tot g)) + 1))) 66 ((nI c).toNatClampNeg) (nI n)) 65 1 (nI (c + 1))) 39 5 ((lG l) + 1)) from ?_)
              refine k _ (c + 1) (by omega) (Fq.uI' (Fq.uI' (Fq.uI' (Fq.uI' (Fq.uI' (Fq.uI' (Fq.uI' Fq.rfl' _ _ _ rfl) _ _ _ rfl) _ _ _ rfl) _ _ _ rfl) _ _ _ rfl) _ _ _ rfl) _ _ _ rfl) (cl_try cs.1 cl hn (LkW_try cl.1 hn) (tryL_F g l n) (tryL_T g l n) rfl (by rw [htl]; rfl) (by rw [htl]; rfl) (by rw [htl]; first | rfl | exact hf5) (by rw [htl]; first | rfl | exact hf7) (by rw [if_neg (by omega)]; rfl) rfl (fun m hm q => by show rI (uI h 40 (nI n).toNatClampNeg (nI (cel g l n + 256))) 40 m = rI h 40 m; rw [nI_clamp (by omega), rI_uI_at q]) (by show rI (uI h 40 (nI n).toNatClampNeg (nI (cel g l n + 256))) 40 n = _; rw [nI_clamp (by omega), rI_uI_eq, if_neg (by omega)]) rfl) (mk_new mk hn hc4 (tryL_T g l n) hT (fun j q => by show rI (uI h 65 1 (nI (c + 1))) 65 j = _; exact rI_uI_at q) rfl (fun j q => by show rI (uI h 66 (nI c).toNatClampNeg (nI n)) 66 j = _; rw [nI_clamp (by omega), rI_uI_at q]) (by show rI (uI h 66 (nI c).toNatClampNeg (nI n)) 66 c = _; rw [nI_clamp (by omega), rI_uI_eq]) rfl)
            · skip
              have htl : tryL g l n = (n, tryX g l n + nI (sBS g), 0, lO l, lF l, va_up (lT l) n 1) := by unfold tryL; rw [if_neg hso, if_pos ⟨by omega, Int32.not_lt.mp c10⟩]
              refine exf_go 8 (show Go (d + 3) true 34 131 [.ref 39, .ref 31, .int (nI n), .ref 65] [.int (rI h 31 11), .int (tryX g l n), .ref 39] (uI (uI (uI (uI (uI (uI (uI (uI h 39 4 (tryX g l n)) 39 3 (nI n)) 40 ((nI n).toNatClampNeg) (nI (cel g l n + 256))) 39 6 (nI ((cntN (fun n => lT l n == 1) (tot g)) + 1))) 66 ((nI c).toNatClampNeg) (nI n)) 65 1 (nI (c + 1))) 39 5 ((lG l) + 1)) 39 5 0) Q from ?_)
              rw [show (rI h 31 11 : Int32) = nI (sBS g) from cs_BS cs]
              refine exf_go 3 (show Q (mk_) (uI (uI (uI (uI (uI (uI (uI (uI (uI h 39 4 (tryX g l n)) 39 3 (nI n)) 40 ((nI n).toNatClampNeg) (nI (cel g l n + 256))) 39 6 (nI ((cntN (fun n => lT l n == 1) (tot g)) + 1))) 66 ((nI c).toNatClampNeg) (nI n)) 65 1 (nI (c + 1))) 39 5 ((lG l) + 1)) 39 5 0) 39 4 ((tryX g l n) + (nI (sBS g)))) from ?_)
              refine k _ (c + 1) (by omega) (Fq.uI' (Fq.uI' (Fq.uI' (Fq.uI' (Fq.uI' (Fq.uI' (Fq.uI' (Fq.uI' (Fq.uI' Fq.rfl' _ _ _ rfl) _ _ _ rfl) _ _ _ rfl) _ _ _ rfl) _ _ _ rfl) _ _ _ rfl) _ _ _ rfl) _ _ _ rfl) _ _ _ rfl) (cl_try cs.1 cl hn (LkW_try cl.1 hn) (tryL_F g l n) (tryL_T g l n) rfl (by rw [htl]; rfl) (by rw [htl]; rfl) (by rw [htl]; first | rfl | exact hf5) (by rw [htl]; first | rfl | exact hf7) (by rw [if_neg (by omega)]; rfl) rfl (fun m hm q => by show rI (uI h 40 (nI n).toNatClampNeg (nI (cel g l n + 256))) 40 m = rI h 40 m; rw [nI_clamp (by omega), rI_uI_at q]) (by show rI (uI h 40 (nI n).toNatClampNeg (nI (cel g l n + 256))) 40 n = _; rw [nI_clamp (by omega), rI_uI_eq, if_neg (by omega)]) rfl) (mk_new mk hn hc4 (tryL_T g l n) hT (fun j q => by show rI (uI h 65 1 (nI (c + 1))) 65 j = _; exact rI_uI_at q) rfl (fun j q => by show rI (uI h 66 (nI c).toNatClampNeg (nI n)) 66 j = _; rw [nI_clamp (by omega), rI_uI_at q]) (by show rI (uI h 66 (nI c).toNatClampNeg (nI n)) 66 c = _; rw [nI_clamp (by omega), rI_uI_eq]) rfl)
        · skip
          have hso : sO g = some n := (oI_some hob hN.2 hn).mp (Classical.not_not.mp c8)
          have htl : tryL g l n = (n, tryX g l n, lG l, 1, lF l, va_up (lT l) n 1) := by unfold tryL; rw [if_pos hso]
          refine exf_go 4 (show ((1 : Int32) = 0 ∨ (1 : Int32) = 1) ∧ Q (mk_) (uI (uI (uI (uI (uI (uI (uI h 39 4 (tryX g l n)) 39 3 (nI n)) 40 ((nI n).toNatClampNeg) (nI (cel g l n + 256))) 39 6 (nI ((cntN (fun n => lT l n == 1) (tot g)) + 1))) 66 ((nI c).toNatClampNeg) (nI n)) 65 1 (nI (c + 1))) 39 7 1) from ⟨(by first | exact Or.inl rfl | exact Or.inr rfl | assumption), ?_⟩)
          refine k _ (c + 1) (by omega) (Fq.uI' (Fq.uI' (Fq.uI' (Fq.uI' (Fq.uI' (Fq.uI' (Fq.uI' Fq.rfl' _ _ _ rfl) _ _ _ rfl) _ _ _ rfl) _ _ _ rfl) _ _ _ rfl) _ _ _ rfl) _ _ _ rfl) (cl_try cs.1 cl hn (LkW_try cl.1 hn) (tryL_F g l n) (tryL_T g l n) rfl (by rw [htl]; rfl) (by rw [htl]; rfl) (by rw [htl]; first | rfl | exact hf5) (by rw [htl]; first | rfl | exact hf7) (by rw [if_neg (by omega)]; rfl) rfl (fun m hm q => by show rI (uI h 40 (nI n).toNatClampNeg (nI (cel g l n + 256))) 40 m = rI h 40 m; rw [nI_clamp (by omega), rI_uI_at q]) (by show rI (uI h 40 (nI n).toNatClampNeg (nI (cel g l n + 256))) 40 n = _; rw [nI_clamp (by omega), rI_uI_eq, if_neg (by omega)]) rfl) (mk_new mk hn hc4 (tryL_T g l n) hT (fun j q => by show rI (uI h 65 1 (nI (c + 1))) 65 j = _; exact rI_uI_at q) rfl (fun j q => by show rI (uI h 66 (nI c).toNatClampNeg (nI n)) 66 j = _; rw [nI_clamp (by omega), rI_uI_at q]) (by show rI (uI h 66 (nI c).toNatClampNeg (nI n)) 66 c = _; rw [nI_clamp (by omega), rI_uI_eq]) rfl)
  · skip
    exact absurd (by decide) c1
theorem c_note8 {d : Nat} {h : Hp} {n c : Nat} {Q : Po} (hc : rI h 68 1 = nI c) (hc4 : c < 40) (k : Q mk_ (uI (uI h 69 (nI c).toNatClampNeg (nI n)) 68 1 (nI (c + 1)))) : wpC (d + 1) true 40 [.ref 68, .int (nI n)] h Q := by
  refine go_in rfl ?_
  refine exf_go 2 (show Go d true 40 4 [.ref 68, .int (nI n)] [.int (rI h 68 1)] h Q from ?_)
  rw [show (rI h 68 1 : Int32) = nI c from hc]
  refine exf_go 2 (show (40 ≤ (nI c) → Go d true 40 29 [.ref 68, .int (nI n)] [] h Q) ∧ (¬ (40 ≤ (nI c)) → Go d true 40 9 [.ref 68, .int (nI n)] [] h Q) from ⟨fun c1 => ?_, fun c1 => ?_⟩)
  · skip
    have c1 : 40 ≤ c := (nI_leI (a := 40) (b := c) (by omega) (by omega)).mp c1
    refine exf_go 1 (show Q (mk_) h from ?_)
    first | (exfalso; omega) | exact k
  · skip
    have c1 : ¬ 40 ≤ c := fun q => c1 ((nI_leI (a := 40) (b := c) (by omega) (by omega)).mpr q)
    refine exf_go 4 (show Go d true 40 17 [.ref 68, .int (nI n)] [.int (rI h 68 1), .ref 69] h Q from ?_)
    rw [show (rI h 68 1 : Int32) = nI c from hc]
    refine exf_go 5 (show vp_in (nI c) 40 ∧ (Go d true 40 24 [.ref 68, .int (nI n)] [.int (rI h 68 1), .ref 68] (uI h 69 ((nI c).toNatClampNeg) (nI n)) Q) from ⟨(vp_in_nI (by omega) (by omega)), ?_⟩)
    rw [show (rI h 68 1 : Int32) = nI c from hc]
    refine exf_go 2 (show Go d true 40 26 [.ref 68, .int (nI n)] [.int ((nI c) + 1), .ref 68] (uI h 69 ((nI c).toNatClampNeg) (nI n)) Q from ?_)
    rw [show ((nI c) + 1 : Int32) = nI (c + 1) from nI_add c 1]
    refine exf_go 2 (show Q (mk_) (uI (uI h 69 ((nI c).toNatClampNeg) (nI n)) 68 1 (nI (c + 1))) from ?_)
    first | (exfalso; omega) | exact k
theorem c_att8 {d : Nat} {h : Hp} {g : ShG} {l l0 : LkG} {n c : Nat} {Q : Po} (cs : CS 31 g h) (cl : CL 39 g l h) (mk : CMK g 8 l0 l c h) (hn : n < tot g) (hc4 : c < 40) (k : ∀ h1 c1, c1 ≤ c + 1 → Fq (sLm 8) h h1 → CL 39 g (tryL g l n) h1 → CMK g 8 l0 (tryL g l n) c1 h1 → Q mk_ h1) : wpC (d + 4) true 34 [.ref 39, .ref 31, .int (nI n), .ref 68] h Q := by
  have hN := tot_b cs.1
  have hA := cl.1.1
  have hf5 := cl_G cl; have hf7 := cl_O cl; have hf6 := cl_T cl; have hfn := cl_Cl cl n hn
  have hcb := cel_b cs.1 cl.1 n
  have hal := cl_al cl
  simp only [Nat.reduceAdd] at hal
  have hob := cs.1.2.2.2.2.2.2.2.2.2.2.2.1
  have hb9 := cs.1.2.2.2.2.2.2.2.2.1
  have hs9 := cs.1.2.2.2.2.2.2.2.2.2.1
  have hcn := cntN_le (fun m => lT l m == 1) (tot g)
  have hp6 := cs.1.2.2.2.2.2.2.2.1
  refine go_in rfl ?_
  refine exf_go 3 (show wpC (d + 3) true 32 [.ref 39, .int (nI n)] h (fun r h' => Go (d + 3) true 34 5 [.ref 39, .ref 31, .int (nI n), .ref 68] [r] h' Q) from ?_)
  refine c_isCell cs cl (by omega) ?_
  show Go (d + 3) true 34 5 [.ref 39, .ref 31, .int (nI n), .ref 68] [.int 1] h Q
  refine exf_go 1 (show (¬ (1 : Int32) = 0 → Go (d + 3) true 34 9 [.ref 39, .ref 31, .int (nI n), .ref 68] [] h Q) ∧ (¬ (¬ (1 : Int32) = 0) → Go (d + 3) true 34 8 [.ref 39, .ref 31, .int (nI n), .ref 68] [] h Q) from ⟨fun c1 => ?_, fun c1 => ?_⟩)
  · skip
    refine exf_go 3 (show Go (d + 3) true 34 14 [.ref 39, .ref 31, .int (nI n), .ref 68] [.int (rI h 39 4), .ref 39] h Q from ?_)
    rw [show (rI h 39 4 : Int32) = lX l from cl_X cl]
    refine exf_go 3 (show Go (d + 3) true 34 19 [.ref 39, .ref 31, .int (nI n), .ref 68] [.int (rI h 39 3), .ref 31, .int (lX l), .ref 39] h Q from ?_)
    rw [show (rI h 39 3 : Int32) = nI (lA l) from cl_A cl]
    refine exf_go 2 (show wpC (d + 3) true 83 [.ref 31, .int (nI (lA l)), .int (nI n)] h (fun r h' => Go (d + 3) true 34 23 [.ref 39, .ref 31, .int (nI n), .ref 68] [r, .int (lX l), .ref 39] h' Q) from ?_)
    refine c_turns cs (n := lA l) (m := n) (by omega) (by omega) ?_
    have htr := trn_b cs.1 (lA l) n
    show Go (d + 3) true 34 23 [.ref 39, .ref 31, .int (nI n), .ref 68] [.int (nI (trn g (lA l) n)), .int (lX l), .ref 39] h Q
    refine exf_go 2 (show Go (d + 3) true 34 27 [.ref 39, .ref 31, .int (nI n), .ref 68] [.int (rI h 31 9), .int (nI (trn g (lA l) n)), .int (lX l), .ref 39] h Q from ?_)
    rw [show (rI h 31 9 : Int32) = nI (sP g) from cs_P cs]
    refine exf_go 1 (show Go (d + 3) true 34 28 [.ref 39, .ref 31, .int (nI n), .ref 68] [.int ((nI (trn g (lA l) n)) + (nI (sP g))), .int (lX l), .ref 39] h Q from ?_)
    rw [show ((nI (trn g (lA l) n)) + (nI (sP g)) : Int32) = nI ((trn g (lA l) n) + (sP g)) from nI_add (trn g (lA l) n) (sP g)]
    refine exf_go 1 (show Go (d + 3) true 34 29 [.ref 39, .ref 31, .int (nI n), .ref 68] [.int ((lX l) + (nI ((trn g (lA l) n) + (sP g)))), .ref 39] h Q from ?_)
    rw [show ((lX l) + (nI ((trn g (lA l) n) + (sP g))) : Int32) = tryX g l n from rfl]
    refine exf_go 8 (show wpC (d + 3) true 30 [.ref 39, .int (nI n), .int 256] (uI (uI h 39 4 (tryX g l n)) 39 3 (nI n)) (fun r h' => Go (d + 3) true 34 45 [.ref 39, .ref 31, .int (nI n), .ref 68] [r] h' Q) from ?_)
    have cl1 := cl_mv cl hn (tryX g l n)
    have cs1 := cs_39 (cs_39 cs 4 (tryX g l n)) 3 (nI n)
    have e1 : cel g (n, tryX g l n, lG l, lO l, lF l, lT l) n = cel g l n := cel_cg rfl rfl
    refine c_hasMark cs1 cl1 hn (fun b2 => ?_) (fun b2 => ?_)
    · skip
      have hT : lT l n = 1 := by have h9 := cl.1.2.2.1 n; have h7 : ¬ lT l n = 0 := fun q => b2 (by rw [e1]; exact (tri_0 cs.1 cl.1).mpr q); omega
      show Go (d + 3) true 34 45 [.ref 39, .ref 31, .int (nI n), .ref 68] [.int 1] (uI (uI h 39 4 (tryX g l n)) 39 3 (nI n)) Q
      refine exf_go 1 (show (¬ (1 : Int32) = 0 → Go (d + 3) true 34 75 [.ref 39, .ref 31, .int (nI n), .ref 68] [] (uI (uI h 39 4 (tryX g l n)) 39 3 (nI n)) Q) ∧ (¬ (¬ (1 : Int32) = 0) → Go (d + 3) true 34 48 [.ref 39, .ref 31, .int (nI n), .ref 68] [] (uI (uI h 39 4 (tryX g l n)) 39 3 (nI n)) Q) from ⟨fun c3 => ?_, fun c3 => ?_⟩)
      · skip
        refine exf_go 3 (show Go (d + 3) true 34 80 [.ref 39, .ref 31, .int (nI n), .ref 68] [.int (rI h 31 15), .int (nI n)] (uI (uI h 39 4 (tryX g l n)) 39 3 (nI n)) Q from ?_)
        rw [show (rI h 31 15 : Int32) = oI (sO g) from cs_O cs]
        refine exf_go 1 (show (¬ (nI n) = (oI (sO g)) → Go (d + 3) true 34 89 [.ref 39, .ref 31, .int (nI n), .ref 68] [] (uI (uI h 39 4 (tryX g l n)) 39 3 (nI n)) Q) ∧ (¬ (¬ (nI n) = (oI (sO g))) → Go (d + 3) true 34 83 [.ref 39, .ref 31, .int (nI n), .ref 68] [] (uI (uI h 39 4 (tryX g l n)) 39 3 (nI n)) Q) from ⟨fun c4 => ?_, fun c4 => ?_⟩)
        · skip
          have hso : ¬ sO g = some n := fun q => c4 ((oI_some hob hN.2 hn).mpr q)
          refine exf_go 3 (show Go (d + 3) true 34 94 [.ref 39, .ref 31, .int (nI n), .ref 68] [.int (rI h 39 5), .ref 39] (uI (uI h 39 4 (tryX g l n)) 39 3 (nI n)) Q from ?_)
          rw [show (rI h 39 5 : Int32) = lG l from cl_G cl]
          refine exf_go 5 (show Go (d + 3) true 34 103 [.ref 39, .ref 31, .int (nI n), .ref 68] [.int (rI h 31 10)] (uI (uI (uI h 39 4 (tryX g l n)) 39 3 (nI n)) 39 5 ((lG l) + 1)) Q from ?_)
          rw [show (rI h 31 10 : Int32) = nI (sBA g) from cs_BA cs]
          refine exf_go 1 (show ((nI (sBA g)) ≤ 0 → Go (d + 3) true 34 135 [.ref 39, .ref 31, .int (nI n), .ref 68] [] (uI (uI (uI h 39 4 (tryX g l n)) 39 3 (nI n)) 39 5 ((lG l) + 1)) Q) ∧ (¬ ((nI (sBA g)) ≤ 0) → Go (d + 3) true 34 106 [.ref 39, .ref 31, .int (nI n), .ref 68] [] (uI (uI (uI h 39 4 (tryX g l n)) 39 3 (nI n)) 39 5 ((lG l) + 1)) Q) from ⟨fun c5 => ?_, fun c5 => ?_⟩)
          · skip
            have c5 : (sBA g) ≤ 0 := (nI_leI (a := (sBA g)) (b := 0) (by omega) (by omega)).mp c5
            have htl : tryL g l n = (n, tryX g l n, lG l + 1, lO l, lF l, va_up (lT l) n 1) := by unfold tryL; rw [if_neg hso, if_neg (fun q => by omega)]
            refine exf_go 1 (show Q (mk_) (uI (uI (uI h 39 4 (tryX g l n)) 39 3 (nI n)) 39 5 ((lG l) + 1)) from ?_)
            refine k _ c (by omega) (Fq.uI' (Fq.uI' (Fq.uI' Fq.rfl' _ _ _ rfl) _ _ _ rfl) _ _ _ rfl) (cl_try cs.1 cl hn (LkW_try cl.1 hn) (tryL_F g l n) (tryL_T g l n) rfl (by rw [htl]; rfl) (by rw [htl]; rfl) (by rw [htl]; first | rfl | exact hf5) (by rw [htl]; first | rfl | exact hf7) (by rw [if_pos hT]; exact hf6) rfl (fun m hm q => rfl) (by rw [if_pos hT]; exact hfn) rfl) (mk_old (mk_fq mk rfl rfl rfl) (tryL_T g l n) hT)
          · skip
            have c5 : ¬ (sBA g) ≤ 0 := fun q => c5 ((nI_leI (a := (sBA g)) (b := 0) (by omega) (by omega)).mpr q)
            refine exf_go 4 (show Go (d + 3) true 34 114 [.ref 39, .ref 31, .int (nI n), .ref 68] [.int (rI h 31 10), .int ((lG l) + 1)] (uI (uI (uI h 39 4 (tryX g l n)) 39 3 (nI n)) 39 5 ((lG l) + 1)) Q from ?_)
            rw [show (rI h 31 10 : Int32) = nI (sBA g) from cs_BA cs]
            refine exf_go 1 (show (((lG l) + 1) < (nI (sBA g)) → Go (d + 3) true 34 135 [.ref 39, .ref 31, .int (nI n), .ref 68] [] (uI (uI (uI h 39 4 (tryX g l n)) 39 3 (nI n)) 39 5 ((lG l) + 1)) Q) ∧ (¬ (((lG l) + 1) < (nI (sBA g))) → Go (d + 3) true 34 117 [.ref 39, .ref 31, .int (nI n), .ref 68] [] (uI (uI (uI h 39 4 (tryX g l n)) 39 3 (nI n)) 39 5 ((lG l) + 1)) Q) from ⟨fun c6 => ?_, fun c6 => ?_⟩)
            · skip
              have htl : tryL g l n = (n, tryX g l n, lG l + 1, lO l, lF l, va_up (lT l) n 1) := by unfold tryL; rw [if_neg hso, if_neg (fun q => Int32.not_le.mpr c6 q.2)]
              refine exf_go 1 (show Q (mk_) (uI (uI (uI h 39 4 (tryX g l n)) 39 3 (nI n)) 39 5 ((lG l) + 1)) from ?_)
              refine k _ c (by omega) (Fq.uI' (Fq.uI' (Fq.uI' Fq.rfl' _ _ _ rfl) _ _ _ rfl) _ _ _ rfl) (cl_try cs.1 cl hn (LkW_try cl.1 hn) (tryL_F g l n) (tryL_T g l n) rfl (by rw [htl]; rfl) (by rw [htl]; rfl) (by rw [htl]; first | rfl | exact hf5) (by rw [htl]; first | rfl | exact hf7) (by rw [if_pos hT]; exact hf6) rfl (fun m hm q => rfl) (by rw [if_pos hT]; exact hfn) rfl) (mk_old (mk_fq mk rfl rfl rfl) (tryL_T g l n) hT)
            · skip
              have htl : tryL g l n = (n, tryX g l n + nI (sBS g), 0, lO l, lF l, va_up (lT l) n 1) := by unfold tryL; rw [if_neg hso, if_pos ⟨by omega, Int32.not_lt.mp c6⟩]
              refine exf_go 8 (show Go (d + 3) true 34 131 [.ref 39, .ref 31, .int (nI n), .ref 68] [.int (rI h 31 11), .int (tryX g l n), .ref 39] (uI (uI (uI (uI h 39 4 (tryX g l n)) 39 3 (nI n)) 39 5 ((lG l) + 1)) 39 5 0) Q from ?_)
              rw [show (rI h 31 11 : Int32) = nI (sBS g) from cs_BS cs]
              refine exf_go 3 (show Q (mk_) (uI (uI (uI (uI (uI h 39 4 (tryX g l n)) 39 3 (nI n)) 39 5 ((lG l) + 1)) 39 5 0) 39 4 ((tryX g l n) + (nI (sBS g)))) from ?_)
              refine k _ c (by omega) (Fq.uI' (Fq.uI' (Fq.uI' (Fq.uI' (Fq.uI' Fq.rfl' _ _ _ rfl) _ _ _ rfl) _ _ _ rfl) _ _ _ rfl) _ _ _ rfl) (cl_try cs.1 cl hn (LkW_try cl.1 hn) (tryL_F g l n) (tryL_T g l n) rfl (by rw [htl]; rfl) (by rw [htl]; rfl) (by rw [htl]; first | rfl | exact hf5) (by rw [htl]; first | rfl | exact hf7) (by rw [if_pos hT]; exact hf6) rfl (fun m hm q => rfl) (by rw [if_pos hT]; exact hfn) rfl) (mk_old (mk_fq mk rfl rfl rfl) (tryL_T g l n) hT)
        · skip
          have hso : sO g = some n := (oI_some hob hN.2 hn).mp (Classical.not_not.mp c4)
          have htl : tryL g l n = (n, tryX g l n, lG l, 1, lF l, va_up (lT l) n 1) := by unfold tryL; rw [if_pos hso]
          refine exf_go 4 (show ((1 : Int32) = 0 ∨ (1 : Int32) = 1) ∧ Q (mk_) (uI (uI (uI h 39 4 (tryX g l n)) 39 3 (nI n)) 39 7 1) from ⟨(by first | exact Or.inl rfl | exact Or.inr rfl | assumption), ?_⟩)
          refine k _ c (by omega) (Fq.uI' (Fq.uI' (Fq.uI' Fq.rfl' _ _ _ rfl) _ _ _ rfl) _ _ _ rfl) (cl_try cs.1 cl hn (LkW_try cl.1 hn) (tryL_F g l n) (tryL_T g l n) rfl (by rw [htl]; rfl) (by rw [htl]; rfl) (by rw [htl]; first | rfl | exact hf5) (by rw [htl]; first | rfl | exact hf7) (by rw [if_pos hT]; exact hf6) rfl (fun m hm q => rfl) (by rw [if_pos hT]; exact hfn) rfl) (mk_old (mk_fq mk rfl rfl rfl) (tryL_T g l n) hT)
      · skip
        exact absurd (by decide) c3
    · skip
      have hT : lT l n = 0 := (tri_0 cs.1 cl.1).mp (e1 ▸ b2)
      show Go (d + 3) true 34 45 [.ref 39, .ref 31, .int (nI n), .ref 68] [.int 0] (uI (uI h 39 4 (tryX g l n)) 39 3 (nI n)) Q
      refine exf_go 1 (show (¬ (0 : Int32) = 0 → Go (d + 3) true 34 75 [.ref 39, .ref 31, .int (nI n), .ref 68] [] (uI (uI h 39 4 (tryX g l n)) 39 3 (nI n)) Q) ∧ (¬ (¬ (0 : Int32) = 0) → Go (d + 3) true 34 48 [.ref 39, .ref 31, .int (nI n), .ref 68] [] (uI (uI h 39 4 (tryX g l n)) 39 3 (nI n)) Q) from ⟨fun c7 => ?_, fun c7 => ?_⟩)
      · skip
        exact absurd c7 (by decide)
      · skip
        refine exf_go 5 (show vp_in (nI n) (al h 40) ∧ (Go (d + 3) true 34 55 [.ref 39, .ref 31, .int (nI n), .ref 68] [.int (rI h 40 ((nI n).toNatClampNeg)), .int (nI n), .ref 40] (uI (uI h 39 4 (tryX g l n)) 39 3 (nI n)) Q) from ⟨(vp_in_nI (by omega) (by omega)), ?_⟩)
        rw [show (rI h 40 ((nI n).toNatClampNeg) : Int32) = nI (cel g l n) from cl_C cs cl (n := n) (by omega)]
        refine exf_go 2 (show Go (d + 3) true 34 59 [.ref 39, .ref 31, .int (nI n), .ref 68] [.int ((nI (cel g l n)) ||| 256), .int (nI n), .ref 40] (uI (uI h 39 4 (tryX g l n)) 39 3 (nI n)) Q from ?_)
        rw [show ((nI (cel g l n)) ||| 256 : Int32) = nI (cel g l n + 256) from by rw [show (256 : Int32) = nI 256 from rfl, nI_or, or_tri _ hcb, if_pos (by rw [cel_tri cs.1 cl.1]; exact hT)]]
        refine exf_go 4 (show vp_in (nI n) (al h 40) ∧ (Go (d + 3) true 34 65 [.ref 39, .ref 31, .int (nI n), .ref 68] [.int (rI h 39 6), .ref 39] (uI (uI (uI h 39 4 (tryX g l n)) 39 3 (nI n)) 40 ((nI n).toNatClampNeg) (nI (cel g l n + 256))) Q) from ⟨(vp_in_nI (by omega) (by omega)), ?_⟩)
        rw [show (rI h 39 6 : Int32) = nI (cntN (fun n => lT l n == 1) (tot g)) from cl_T cl]
        refine exf_go 2 (show Go (d + 3) true 34 67 [.ref 39, .ref 31, .int (nI n), .ref 68] [.int ((nI (cntN (fun n => lT l n == 1) (tot g))) + 1), .ref 39] (uI (uI (uI h 39 4 (tryX g l n)) 39 3 (nI n)) 40 ((nI n).toNatClampNeg) (nI (cel g l n + 256))) Q from ?_)
        rw [show ((nI (cntN (fun n => lT l n == 1) (tot g))) + 1 : Int32) = nI ((cntN (fun n => lT l n == 1) (tot g)) + 1) from nI_add (cntN (fun n => lT l n == 1) (tot g)) 1]
        refine exf_go 4 (show wpC (d + 3) true 40 [.ref 68, .int (nI n)] (uI (uI (uI (uI h 39 4 (tryX g l n)) 39 3 (nI n)) 40 ((nI n).toNatClampNeg) (nI (cel g l n + 256))) 39 6 (nI ((cntN (fun n => lT l n == 1) (tot g)) + 1))) (fun _ h' => Go (d + 3) true 34 75 [.ref 39, .ref 31, .int (nI n), .ref 68] [] h' Q) from ?_)
        refine c_note8 (c := c) mk.2.1.1 hc4 ?_
        show Go (d + 3) true 34 75 [.ref 39, .ref 31, .int (nI n), .ref 68] [] (uI (uI (uI (uI (uI (uI h 39 4 (tryX g l n)) 39 3 (nI n)) 40 ((nI n).toNatClampNeg) (nI (cel g l n + 256))) 39 6 (nI ((cntN (fun n => lT l n == 1) (tot g)) + 1))) 69 ((nI c).toNatClampNeg) (nI n)) 68 1 (nI (c + 1))) Q
        refine exf_go 3 (show Go (d + 3) true 34 80 [.ref 39, .ref 31, .int (nI n), .ref 68] [.int (rI h 31 15), .int (nI n)] (uI (uI (uI (uI (uI (uI h 39 4 (tryX g l n)) 39 3 (nI n)) 40 ((nI n).toNatClampNeg) (nI (cel g l n + 256))) 39 6 (nI ((cntN (fun n => lT l n == 1) (tot g)) + 1))) 69 ((nI c).toNatClampNeg) (nI n)) 68 1 (nI (c + 1))) Q from ?_)
        rw [show (rI h 31 15 : Int32) = oI (sO g) from cs_O cs]
        refine exf_go 1 (show (¬ (nI n) = (oI (sO g)) → Go (d + 3) true 34 89 [.ref 39, .ref 31, .int (nI n), .ref 68] [] (uI (uI (uI (uI (uI (uI h 39 4 (tryX g l n)) 39 3 (nI n)) 40 ((nI n).toNatClampNeg) (nI (cel g l n + 256))) 39 6 (nI ((cntN (fun n => lT l n == 1) (tot g)) + 1))) 69 ((nI c).toNatClampNeg) (nI n)) 68 1 (nI (c + 1))) Q) ∧ (¬ (¬ (nI n) = (oI (sO g))) → Go (d + 3) true 34 83 [.ref 39, .ref 31, .int (nI n), .ref 68] [] (uI (uI (uI (uI (uI (uI h 39 4 (tryX g l n)) 39 3 (nI n)) 40 ((nI n).toNatClampNeg) (nI (cel g l n + 256))) 39 6 (nI ((cntN (fun n => lT l n == 1) (tot g)) + 1))) 69 ((nI c).toNatClampNeg) (nI n)) 68 1 (nI (c + 1))) Q) from ⟨fun c8 => ?_, fun c8 => ?_⟩)
        · skip
          have hso : ¬ sO g = some n := fun q => c8 ((oI_some hob hN.2 hn).mpr q)
          refine exf_go 3 (show Go (d + 3) true 34 94 [.ref 39, .ref 31, .int (nI n), .ref 68] [.int (rI h 39 5), .ref 39] (uI (uI (uI (uI (uI (uI h 39 4 (tryX g l n)) 39 3 (nI n)) 40 ((nI n).toNatClampNeg) (nI (cel g l n + 256))) 39 6 (nI ((cntN (fun n => lT l n == 1) (tot g)) + 1))) 69 ((nI c).toNatClampNeg) (nI n)) 68 1 (nI (c + 1))) Q from ?_)
          rw [show (rI h 39 5 : Int32) = lG l from cl_G cl]
          refine exf_go 5 (show Go (d + 3) true 34 103 [.ref 39, .ref 31, .int (nI n), .ref 68] [.int (rI h 31 10)] (uI (uI (uI (uI (uI (uI (uI h 39 4 (tryX g l n)) 39 3 (nI n)) 40 ((nI n).toNatClampNeg) (nI (cel g l n + 256))) 39 6 (nI ((cntN (fun n => lT l n == 1) (tot g)) + 1))) 69 ((nI c).toNatClampNeg) (nI n)) 68 1 (nI (c + 1))) 39 5 ((lG l) + 1)) Q from ?_)
          rw [show (rI h 31 10 : Int32) = nI (sBA g) from cs_BA cs]
          refine exf_go 1 (show ((nI (sBA g)) ≤ 0 → Go (d + 3) true 34 135 [.ref 39, .ref 31, .int (nI n), .ref 68] [] (uI (uI (uI (uI (uI (uI (uI h 39 4 (tryX g l n)) 39 3 (nI n)) 40 ((nI n).toNatClampNeg) (nI (cel g l n + 256))) 39 6 (nI ((cntN (fun n => lT l n == 1) (tot g)) + 1))) 69 ((nI c).toNatClampNeg) (nI n)) 68 1 (nI (c + 1))) 39 5 ((lG l) + 1)) Q) ∧ (¬ ((nI (sBA g)) ≤ 0) → Go (d + 3) true 34 106 [.ref 39, .ref 31, .int (nI n), .ref 68] [] (uI (uI (uI (uI (uI (uI (uI h 39 4 (tryX g l n)) 39 3 (nI n)) 40 ((nI n).toNatClampNeg) (nI (cel g l n + 256))) 39 6 (nI ((cntN (fun n => lT l n == 1) (tot g)) + 1))) 69 ((nI c).toNatClampNeg) (nI n)) 68 1 (nI (c + 1))) 39 5 ((lG l) + 1)) Q) from ⟨fun c9 => ?_, fun c9 => ?_⟩)
          · skip
            have c9 : (sBA g) ≤ 0 := (nI_leI (a := (sBA g)) (b := 0) (by omega) (by omega)).mp c9
            have htl : tryL g l n = (n, tryX g l n, lG l + 1, lO l, lF l, va_up (lT l) n 1) := by unfold tryL; rw [if_neg hso, if_neg (fun q => by omega)]
            refine exf_go 1 (show Q (mk_) (uI (uI (uI (uI (uI (uI (uI h 39 4 (tryX g l n)) 39 3 (nI n)) 40 ((nI n).toNatClampNeg) (nI (cel g l n + 256))) 39 6 (nI ((cntN (fun n => lT l n == 1) (tot g)) + 1))) 69 ((nI c).toNatClampNeg) (nI n)) 68 1 (nI (c + 1))) 39 5 ((lG l) + 1)) from ?_)
            refine k _ (c + 1) (by omega) (Fq.uI' (Fq.uI' (Fq.uI' (Fq.uI' (Fq.uI' (Fq.uI' (Fq.uI' Fq.rfl' _ _ _ rfl) _ _ _ rfl) _ _ _ rfl) _ _ _ rfl) _ _ _ rfl) _ _ _ rfl) _ _ _ rfl) (cl_try cs.1 cl hn (LkW_try cl.1 hn) (tryL_F g l n) (tryL_T g l n) rfl (by rw [htl]; rfl) (by rw [htl]; rfl) (by rw [htl]; first | rfl | exact hf5) (by rw [htl]; first | rfl | exact hf7) (by rw [if_neg (by omega)]; rfl) rfl (fun m hm q => by show rI (uI h 40 (nI n).toNatClampNeg (nI (cel g l n + 256))) 40 m = rI h 40 m; rw [nI_clamp (by omega), rI_uI_at q]) (by show rI (uI h 40 (nI n).toNatClampNeg (nI (cel g l n + 256))) 40 n = _; rw [nI_clamp (by omega), rI_uI_eq, if_neg (by omega)]) rfl) (mk_new mk hn hc4 (tryL_T g l n) hT (fun j q => by show rI (uI h 68 1 (nI (c + 1))) 68 j = _; exact rI_uI_at q) rfl (fun j q => by show rI (uI h 69 (nI c).toNatClampNeg (nI n)) 69 j = _; rw [nI_clamp (by omega), rI_uI_at q]) (by show rI (uI h 69 (nI c).toNatClampNeg (nI n)) 69 c = _; rw [nI_clamp (by omega), rI_uI_eq]) rfl)
          · skip
            have c9 : ¬ (sBA g) ≤ 0 := fun q => c9 ((nI_leI (a := (sBA g)) (b := 0) (by omega) (by omega)).mpr q)
            refine exf_go 4 (show Go (d + 3) true 34 114 [.ref 39, .ref 31, .int (nI n), .ref 68] [.int (rI h 31 10), .int ((lG l) + 1)] (uI (uI (uI (uI (uI (uI (uI h 39 4 (tryX g l n)) 39 3 (nI n)) 40 ((nI n).toNatClampNeg) (nI (cel g l n + 256))) 39 6 (nI ((cntN (fun n => lT l n == 1) (tot g)) + 1))) 69 ((nI c).toNatClampNeg) (nI n)) 68 1 (nI (c + 1))) 39 5 ((lG l) + 1)) Q from ?_)
            rw [show (rI h 31 10 : Int32) = nI (sBA g) from cs_BA cs]
            refine exf_go 1 (show (((lG l) + 1) < (nI (sBA g)) → Go (d + 3) true 34 135 [.ref 39, .ref 31, .int (nI n), .ref 68] [] (uI (uI (uI (uI (uI (uI (uI h 39 4 (tryX g l n)) 39 3 (nI n)) 40 ((nI n).toNatClampNeg) (nI (cel g l n + 256))) 39 6 (nI ((cntN (fun n => lT l n == 1) (tot g)) + 1))) 69 ((nI c).toNatClampNeg) (nI n)) 68 1 (nI (c + 1))) 39 5 ((lG l) + 1)) Q) ∧ (¬ (((lG l) + 1) < (nI (sBA g))) → Go (d + 3) true 34 117 [.ref 39, .ref 31, .int (nI n), .ref 68] [] (uI (uI (uI (uI (uI (uI (uI h 39 4 (tryX g l n)) 39 3 (nI n)) 40 ((nI n).toNatClampNeg) (nI (cel g l n + 256))) 39 6 (nI ((cntN (fun n => lT l n == 1) (tot g)) + 1))) 69 ((nI c).toNatClampNeg) (nI n)) 68 1 (nI (c + 1))) 39 5 ((lG l) + 1)) Q) from ⟨fun c10 => ?_, fun c10 => ?_⟩)
            · skip
              have htl : tryL g l n = (n, tryX g l n, lG l + 1, lO l, lF l, va_up (lT l) n 1) := by unfold tryL; rw [if_neg hso, if_neg (fun q => Int32.not_le.mpr c10 q.2)]
              refine exf_go 1 (show Q (mk_) (uI (uI (uI (uI (uI (uI (uI h 39 4 (tryX g l n)) 39 3 (nI n)) 40 ((nI n).toNatClampNeg) (nI (cel g l n + 256))) 39 6 (nI ((cntN (fun n => lT l n == 1) (tot g)) + 1))) 69 ((nI c).toNatClampNeg) (nI n)) 68 1 (nI (c + 1))) 39 5 ((lG l) + 1)) from ?_)
              refine k _ (c + 1) (by omega) (Fq.uI' (Fq.uI' (Fq.uI' (Fq.uI' (Fq.uI' (Fq.uI' (Fq.uI' Fq.rfl' _ _ _ rfl) _ _ _ rfl) _ _ _ rfl) _ _ _ rfl) _ _ _ rfl) _ _ _ rfl) _ _ _ rfl) (cl_try cs.1 cl hn (LkW_try cl.1 hn) (tryL_F g l n) (tryL_T g l n) rfl (by rw [htl]; rfl) (by rw [htl]; rfl) (by rw [htl]; first | rfl | exact hf5) (by rw [htl]; first | rfl | exact hf7) (by rw [if_neg (by omega)]; rfl) rfl (fun m hm q => by show rI (uI h 40 (nI n).toNatClampNeg (nI (cel g l n + 256))) 40 m = rI h 40 m; rw [nI_clamp (by omega), rI_uI_at q]) (by show rI (uI h 40 (nI n).toNatClampNeg (nI (cel g l n + 256))) 40 n = _; rw [nI_clamp (by omega), rI_uI_eq, if_neg (by omega)]) rfl) (mk_new mk hn hc4 (tryL_T g l n) hT (fun j q => by show rI (uI h 68 1 (nI (c + 1))) 68 j = _; exact rI_uI_at q) rfl (fun j q => by show rI (uI h 69 (nI c).toNatClampNeg (nI n)) 69 j = _; rw [nI_clamp (by omega), rI_uI_at q]) (by show rI (uI h 69 (nI c).toNatClampNeg (nI n)) 69 c = _; rw [nI_clamp (by omega), rI_uI_eq]) rfl)
            · skip
              have htl : tryL g l n = (n, tryX g l n + nI (sBS g), 0, lO l, lF l, va_up (lT l) n 1) := by unfold tryL; rw [if_neg hso, if_pos ⟨by omega, Int32.not_lt.mp c10⟩]
              refine exf_go 8 (show Go (d + 3) true 34 131 [.ref 39, .ref 31, .int (nI n), .ref 68] [.int (rI h 31 11), .int (tryX g l n), .ref 39] (uI (uI (uI (uI (uI (uI (uI (uI h 39 4 (tryX g l n)) 39 3 (nI n)) 40 ((nI n).toNatClampNeg) (nI (cel g l n + 256))) 39 6 (nI ((cntN (fun n => lT l n == 1) (tot g)) + 1))) 69 ((nI c).toNatClampNeg) (nI n)) 68 1 (nI (c + 1))) 39 5 ((lG l) + 1)) 39 5 0) Q from ?_)
              rw [show (rI h 31 11 : Int32) = nI (sBS g) from cs_BS cs]
              refine exf_go 3 (show Q (mk_) (uI (uI (uI (uI (uI (uI (uI (uI (uI h 39 4 (tryX g l n)) 39 3 (nI n)) 40 ((nI n).toNatClampNeg) (nI (cel g l n + 256))) 39 6 (nI ((cntN (fun n => lT l n == 1) (tot g)) + 1))) 69 ((nI c).toNatClampNeg) (nI n)) 68 1 (nI (c + 1))) 39 5 ((lG l) + 1)) 39 5 0) 39 4 ((tryX g l n) + (nI (sBS g)))) from ?_)
              refine k _ (c + 1) (by omega) (Fq.uI' (Fq.uI' (Fq.uI' (Fq.uI' (Fq.uI' (Fq.uI' (Fq.uI' (Fq.uI' (Fq.uI' Fq.rfl' _ _ _ rfl) _ _ _ rfl) _ _ _ rfl) _ _ _ rfl) _ _ _ rfl) _ _ _ rfl) _ _ _ rfl) _ _ _ rfl) _ _ _ rfl) (cl_try cs.1 cl hn (LkW_try cl.1 hn) (tryL_F g l n) (tryL_T g l n) rfl (by rw [htl]; rfl) (by rw [htl]; rfl) (by rw [htl]; first | rfl | exact hf5) (by rw [htl]; first | rfl | exact hf7) (by rw [if_neg (by omega)]; rfl) rfl (fun m hm q => by show rI (uI h 40 (nI n).toNatClampNeg (nI (cel g l n + 256))) 40 m = rI h 40 m; rw [nI_clamp (by omega), rI_uI_at q]) (by show rI (uI h 40 (nI n).toNatClampNeg (nI (cel g l n + 256))) 40 n = _; rw [nI_clamp (by omega), rI_uI_eq, if_neg (by omega)]) rfl) (mk_new mk hn hc4 (tryL_T g l n) hT (fun j q => by show rI (uI h 68 1 (nI (c + 1))) 68 j = _; exact rI_uI_at q) rfl (fun j q => by show rI (uI h 69 (nI c).toNatClampNeg (nI n)) 69 j = _; rw [nI_clamp (by omega), rI_uI_at q]) (by show rI (uI h 69 (nI c).toNatClampNeg (nI n)) 69 c = _; rw [nI_clamp (by omega), rI_uI_eq]) rfl)
        · skip
          have hso : sO g = some n := (oI_some hob hN.2 hn).mp (Classical.not_not.mp c8)
          have htl : tryL g l n = (n, tryX g l n, lG l, 1, lF l, va_up (lT l) n 1) := by unfold tryL; rw [if_pos hso]
          refine exf_go 4 (show ((1 : Int32) = 0 ∨ (1 : Int32) = 1) ∧ Q (mk_) (uI (uI (uI (uI (uI (uI (uI h 39 4 (tryX g l n)) 39 3 (nI n)) 40 ((nI n).toNatClampNeg) (nI (cel g l n + 256))) 39 6 (nI ((cntN (fun n => lT l n == 1) (tot g)) + 1))) 69 ((nI c).toNatClampNeg) (nI n)) 68 1 (nI (c + 1))) 39 7 1) from ⟨(by first | exact Or.inl rfl | exact Or.inr rfl | assumption), ?_⟩)
          refine k _ (c + 1) (by omega) (Fq.uI' (Fq.uI' (Fq.uI' (Fq.uI' (Fq.uI' (Fq.uI' (Fq.uI' Fq.rfl' _ _ _ rfl) _ _ _ rfl) _ _ _ rfl) _ _ _ rfl) _ _ _ rfl) _ _ _ rfl) _ _ _ rfl) (cl_try cs.1 cl hn (LkW_try cl.1 hn) (tryL_F g l n) (tryL_T g l n) rfl (by rw [htl]; rfl) (by rw [htl]; rfl) (by rw [htl]; first | rfl | exact hf5) (by rw [htl]; first | rfl | exact hf7) (by rw [if_neg (by omega)]; rfl) rfl (fun m hm q => by show rI (uI h 40 (nI n).toNatClampNeg (nI (cel g l n + 256))) 40 m = rI h 40 m; rw [nI_clamp (by omega), rI_uI_at q]) (by show rI (uI h 40 (nI n).toNatClampNeg (nI (cel g l n + 256))) 40 n = _; rw [nI_clamp (by omega), rI_uI_eq, if_neg (by omega)]) rfl) (mk_new mk hn hc4 (tryL_T g l n) hT (fun j q => by show rI (uI h 68 1 (nI (c + 1))) 68 j = _; exact rI_uI_at q) rfl (fun j q => by show rI (uI h 69 (nI c).toNatClampNeg (nI n)) 69 j = _; rw [nI_clamp (by omega), rI_uI_at q]) (by show rI (uI h 69 (nI c).toNatClampNeg (nI n)) 69 c = _; rw [nI_clamp (by omega), rI_uI_eq]) rfl)
  · skip
    exact absurd (by decide) c1
theorem c_attempt {d : Nat} {h : Hp} {g : ShG} {l l0 : LkG} {n c : Nat} {Q : Po} (i : Nat) (hi : i < 9) (cs : CS 31 g h) (cl : CL 39 g l h) (mk : CMK g i l0 l c h) (hn : n < tot g) (hc4 : c < 40) (k : ∀ h1 c1, c1 ≤ c + 1 → Fq (sLm i) h h1 → CL 39 g (tryL g l n) h1 → CMK g i l0 (tryL g l n) c1 h1 → Q mk_ h1) : wpC (d + 4) true 34 [.ref 39, .ref 31, .int (nI n), .ref (44 + 3 * i)] h Q := by
  rcases (show i = 0 ∨ i = 1 ∨ i = 2 ∨ i = 3 ∨ i = 4 ∨ i = 5 ∨ i = 6 ∨ i = 7 ∨ i = 8 by omega) with e | e | e | e | e | e | e | e | e <;> subst e
  · exact c_att0 cs cl mk hn hc4 k
  · exact c_att1 cs cl mk hn hc4 k
  · exact c_att2 cs cl mk hn hc4 k
  · exact c_att3 cs cl mk hn hc4 k
  · exact c_att4 cs cl mk hn hc4 k
  · exact c_att5 cs cl mk hn hc4 k
  · exact c_att6 cs cl mk hn hc4 k
  · exact c_att7 cs cl mk hn hc4 k
  · exact c_att8 cs cl mk hn hc4 k
