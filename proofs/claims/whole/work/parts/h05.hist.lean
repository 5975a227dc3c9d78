/-! New objects: the history. -/
def stg1 (h : Hp) : Hp := nwH (uN (nwH h 43 9) 42 0 true) 44 7
theorem bstg1 {c m : Nat} {h : Hp} (b : LB c m h) : LB (c + 2) (m + 16) (stg1 h) := lb_ok (show LB _ _ (stg1 h) from (lb_nw (lb_uN (lb_nw b 43 9 (by decide) (by decide)) 42 0) 44 7 (by decide) (by decide))) (by omega) (by omega)
theorem dstg1 {h : Hp} {b : Nat} (hb : (b < 43 ∨ 44 < b)) : rD (stg1 h) b = rD h b := show rD (nwH (uN (nwH h 43 9) 42 0 true) 44 7) b = rD h b from ((nw_D (by omega)).trans (Eq.trans uN_D ((nw_D (by omega)).trans rfl)))
def stg2 (h : Hp) : Hp := nwH (uN (hI44 (stg1 h)) 43 0 true) 47 7
theorem bstg2 {c m : Nat} {h : Hp} (b : LB c m h) : LB (c + 5) (m + 67) (stg2 h) := lb_ok (show LB _ _ (stg2 h) from (lb_nw (lb_uN (bhI44 (bstg1 b)) 43 0) 47 7 (by decide) (by decide))) (by omega) (by omega)
theorem dstg2 {h : Hp} {b : Nat} (hb : (b < 43 ∨ 47 < b)) : rD (stg2 h) b = rD h b := show rD (nwH (uN (hI44 (stg1 h)) 43 0 true) 47 7) b = rD h b from ((nw_D (by omega)).trans (Eq.trans uN_D ((dhI44 (by omega)).trans (dstg1 (by omega)))))
def stg3 (h : Hp) : Hp := nwH (uN (hI47 (stg2 h)) 43 1 true) 50 7
theorem bstg3 {c m : Nat} {h : Hp} (b : LB c m h) : LB (c + 8) (m + 118) (stg3 h) := lb_ok (show LB _ _ (stg3 h) from (lb_nw (lb_uN (bhI47 (bstg2 b)) 43 1) 50 7 (by decide) (by decide))) (by omega) (by omega)
theorem dstg3 {h : Hp} {b : Nat} (hb : (b < 43 ∨ 50 < b)) : rD (stg3 h) b = rD h b := show rD (nwH (uN (hI47 (stg2 h)) 43 1 true) 50 7) b = rD h b from ((nw_D (by omega)).trans (Eq.trans uN_D ((dhI47 (by omega)).trans (dstg2 (by omega)))))
def stg4 (h : Hp) : Hp := nwH (uN (hI50 (stg3 h)) 43 2 true) 53 7
theorem bstg4 {c m : Nat} {h : Hp} (b : LB c m h) : LB (c + 11) (m + 169) (stg4 h) := lb_ok (show LB _ _ (stg4 h) from (lb_nw (lb_uN (bhI50 (bstg3 b)) 43 2) 53 7 (by decide) (by decide))) (by omega) (by omega)
theorem dstg4 {h : Hp} {b : Nat} (hb : (b < 43 ∨ 53 < b)) : rD (stg4 h) b = rD h b := show rD (nwH (uN (hI50 (stg3 h)) 43 2 true) 53 7) b = rD h b from ((nw_D (by omega)).trans (Eq.trans uN_D ((dhI50 (by omega)).trans (dstg3 (by omega)))))
def stg5 (h : Hp) : Hp := nwH (uN (hI53 (stg4 h)) 43 3 true) 56 7
theorem bstg5 {c m : Nat} {h : Hp} (b : LB c m h) : LB (c + 14) (m + 220) (stg5 h) := lb_ok (show LB _ _ (stg5 h) from (lb_nw (lb_uN (bhI53 (bstg4 b)) 43 3) 56 7 (by decide) (by decide))) (by omega) (by omega)
theorem dstg5 {h : Hp} {b : Nat} (hb : (b < 43 ∨ 56 < b)) : rD (stg5 h) b = rD h b := show rD (nwH (uN (hI53 (stg4 h)) 43 3 true) 56 7) b = rD h b from ((nw_D (by omega)).trans (Eq.trans uN_D ((dhI53 (by omega)).trans (dstg4 (by omega)))))
def stg6 (h : Hp) : Hp := nwH (uN (hI56 (stg5 h)) 43 4 true) 59 7
theorem bstg6 {c m : Nat} {h : Hp} (b : LB c m h) : LB (c + 17) (m + 271) (stg6 h) := lb_ok (show LB _ _ (stg6 h) from (lb_nw (lb_uN (bhI56 (bstg5 b)) 43 4) 59 7 (by decide) (by decide))) (by omega) (by omega)
theorem dstg6 {h : Hp} {b : Nat} (hb : (b < 43 ∨ 59 < b)) : rD (stg6 h) b = rD h b := show rD (nwH (uN (hI56 (stg5 h)) 43 4 true) 59 7) b = rD h b from ((nw_D (by omega)).trans (Eq.trans uN_D ((dhI56 (by omega)).trans (dstg5 (by omega)))))
def stg7 (h : Hp) : Hp := nwH (uN (hI59 (stg6 h)) 43 5 true) 62 7
theorem bstg7 {c m : Nat} {h : Hp} (b : LB c m h) : LB (c + 20) (m + 322) (stg7 h) := lb_ok (show LB _ _ (stg7 h) from (lb_nw (lb_uN (bhI59 (bstg6 b)) 43 5) 62 7 (by decide) (by decide))) (by omega) (by omega)
theorem dstg7 {h : Hp} {b : Nat} (hb : (b < 43 ∨ 62 < b)) : rD (stg7 h) b = rD h b := show rD (nwH (uN (hI59 (stg6 h)) 43 5 true) 62 7) b = rD h b from ((nw_D (by omega)).trans (Eq.trans uN_D ((dhI59 (by omega)).trans (dstg6 (by omega)))))
def stg8 (h : Hp) : Hp := nwH (uN (hI62 (stg7 h)) 43 6 true) 65 7
theorem bstg8 {c m : Nat} {h : Hp} (b : LB c m h) : LB (c + 23) (m + 373) (stg8 h) := lb_ok (show LB _ _ (stg8 h) from (lb_nw (lb_uN (bhI62 (bstg7 b)) 43 6) 65 7 (by decide) (by decide))) (by omega) (by omega)
theorem dstg8 {h : Hp} {b : Nat} (hb : (b < 43 ∨ 65 < b)) : rD (stg8 h) b = rD h b := show rD (nwH (uN (hI62 (stg7 h)) 43 6 true) 65 7) b = rD h b from ((nw_D (by omega)).trans (Eq.trans uN_D ((dhI62 (by omega)).trans (dstg7 (by omega)))))
def stg9 (h : Hp) : Hp := nwH (uN (hI65 (stg8 h)) 43 7 true) 68 7
theorem bstg9 {c m : Nat} {h : Hp} (b : LB c m h) : LB (c + 26) (m + 424) (stg9 h) := lb_ok (show LB _ _ (stg9 h) from (lb_nw (lb_uN (bhI65 (bstg8 b)) 43 7) 68 7 (by decide) (by decide))) (by omega) (by omega)
theorem dstg9 {h : Hp} {b : Nat} (hb : (b < 43 ∨ 68 < b)) : rD (stg9 h) b = rD h b := show rD (nwH (uN (hI65 (stg8 h)) 43 7 true) 68 7) b = rD h b from ((nw_D (by omega)).trans (Eq.trans uN_D ((dhI65 (by omega)).trans (dstg8 (by omega)))))
def hI42 (h : Hp) : Hp := uN (hI68 (stg9 h)) 43 8 true
theorem bhI42 {c m : Nat} {h : Hp} (b : LB c m h) : LB (c + 28) (m + 468) (hI42 h) := lb_ok (show LB _ _ (hI42 h) from (lb_uN (bhI68 (bstg9 b)) 43 8)) (by omega) (by omega)
theorem dhI42 {h : Hp} {b : Nat} (hb : (b < 43 ∨ 70 < b)) : rD (hI42 h) b = rD h b := show rD (uN (hI68 (stg9 h)) 43 8 true) b = rD h b from (Eq.trans uN_D ((dhI68 (by omega)).trans (dstg9 (by omega))))
theorem c_i42 {d : Nat} {h : Hp} {Q : Po} (hd : ∀ b, 43 ≤ b → b ≤ 70 → rD h b = false) (k : Q mk_ (hI42 h)) : wpC (d + 2) false 12 [.ref 42] h Q := by
  refine go_in rfl ?_
  refine exf_go 5 (show ∃ a_, K0 a_ = 24 ∧ rD h a_ = false ∧ ¬ (9 : Int32) < 0 ∧ (L0 a_ = 0 ∨ L0 a_ = (9 : Int32).toNatClampNeg) ∧ (9 : Int32).toNatClampNeg ≤ 1000000 ∧ Go (d + 1) false 12 10 [.ref 42, mk_] [.ref a_, .ref 42] (nwH h a_ 9) Q from ⟨43, rfl, (Eq.trans rfl (hd 43 (by decide) (by decide))), by decide, by decide, by decide, ?_⟩)
  show Go (d + 1) false 12 10 [.ref 42, mk_] [.ref 43, .ref 42] (nwH h 43 9) Q
  refine exf_go 6 (show (9 ≤ (0 : Int32) → Go (d + 1) false 12 40 [.ref 42, .int 0] [] (uN (nwH h 43 9) 42 0 true) Q) ∧ (¬ (9 ≤ (0 : Int32)) → Go (d + 1) false 12 21 [.ref 42, .int 0] [] (uN (nwH h 43 9) 42 0 true) Q) from ⟨fun c1 => ?_, fun c1 => ?_⟩)
  · skip
    exact absurd c1 (by decide)
  · skip
    refine exf_go 4 (show rN (uN (nwH h 43 9) 42 0 true) 42 0 = true ∧ (∃ a_, K0 a_ = 4 ∧ rD (uN (nwH h 43 9) 42 0 true) a_ = false ∧ Go (d + 1) false 12 29 [.ref 42, .int 0] [.ref a_, .int 0, .ref 43] (nwH (uN (nwH h 43 9) 42 0 true) a_ 7) Q) from ⟨rfl, ⟨44, rfl, (Eq.trans (Eq.trans uN_D ((nw_D (by omega)).trans rfl)) (hd 44 (by decide) (by decide))), ?_⟩⟩)
    show Go (d + 1) false 12 29 [.ref 42, .int 0] [.ref 44, .int 0, .ref 43] (nwH (uN (nwH h 43 9) 42 0 true) 44 7) Q
    refine exf_go 2 (show wpC (d + 1) false 38 [.ref 44] (nwH (uN (nwH h 43 9) 42 0 true) 44 7) (fun _ h' => Go (d + 1) false 12 33 [.ref 42, .int 0] [.ref 44, .int 0, .ref 43] h' Q) from ?_)
    refine c_i44 (h := stg1 h) (fun b u v => (dstg1 (by omega)).trans (hd b (by omega) (by omega))) ?_
    show Go (d + 1) false 12 33 [.ref 42, .int 0] [.ref 44, .int 0, .ref 43] (hI44 (stg1 h)) Q
    refine exf_go 2 (show vp_in 0 9 ∧ 44 = R0 43 0 ∧ (Go (d + 1) false 12 37 [.ref 42, .int (0 + 1)] [] (uN (hI44 (stg1 h)) 43 0 true) Q) from ⟨(vp_in_nI (n := 0) (by decide) (by decide)), rfl, ?_⟩)
    rw [show (0 + 1 : Int32) = 1 from by decide]
    refine exf_go 4 (show (9 ≤ (1 : Int32) → Go (d + 1) false 12 40 [.ref 42, .int 1] [] (uN (hI44 (stg1 h)) 43 0 true) Q) ∧ (¬ (9 ≤ (1 : Int32)) → Go (d + 1) false 12 21 [.ref 42, .int 1] [] (uN (hI44 (stg1 h)) 43 0 true) Q) from ⟨fun c2 => ?_, fun c2 => ?_⟩)
    · skip
      exact absurd c2 (by decide)
    · skip
      refine exf_go 4 (show rN (uN (hI44 (stg1 h)) 43 0 true) 42 0 = true ∧ (∃ a_, K0 a_ = 4 ∧ rD (uN (hI44 (stg1 h)) 43 0 true) a_ = false ∧ Go (d + 1) false 12 29 [.ref 42, .int 1] [.ref a_, .int 1, .ref 43] (nwH (uN (hI44 (stg1 h)) 43 0 true) a_ 7) Q) from ⟨rfl, ⟨47, rfl, (Eq.trans (Eq.trans uN_D ((dhI44 (by omega)).trans (dstg1 (by omega)))) (hd 47 (by decide) (by decide))), ?_⟩⟩)
      show Go (d + 1) false 12 29 [.ref 42, .int 1] [.ref 47, .int 1, .ref 43] (nwH (uN (hI44 (stg1 h)) 43 0 true) 47 7) Q
      refine exf_go 2 (show wpC (d + 1) false 38 [.ref 47] (nwH (uN (hI44 (stg1 h)) 43 0 true) 47 7) (fun _ h' => Go (d + 1) false 12 33 [.ref 42, .int 1] [.ref 47, .int 1, .ref 43] h' Q) from ?_)
      refine c_i47 (h := stg2 h) (fun b u v => (dstg2 (by omega)).trans (hd b (by omega) (by omega))) ?_
      show Go (d + 1) false 12 33 [.ref 42, .int 1] [.ref 47, .int 1, .ref 43] (hI47 (stg2 h)) Q
      refine exf_go 2 (show vp_in 1 9 ∧ 47 = R0 43 1 ∧ (Go (d + 1) false 12 37 [.ref 42, .int (1 + 1)] [] (uN (hI47 (stg2 h)) 43 1 true) Q) from ⟨(vp_in_nI (n := 1) (by decide) (by decide)), rfl, ?_⟩)
      rw [show (1 + 1 : Int32) = 2 from by decide]
      refine exf_go 4 (show (9 ≤ (2 : Int32) → Go (d + 1) false 12 40 [.ref 42, .int 2] [] (uN (hI47 (stg2 h)) 43 1 true) Q) ∧ (¬ (9 ≤ (2 : Int32)) → Go (d + 1) false 12 21 [.ref 42, .int 2] [] (uN (hI47 (stg2 h)) 43 1 true) Q) from ⟨fun c3 => ?_, fun c3 => ?_⟩)
      · skip
        exact absurd c3 (by decide)
      · skip
        refine exf_go 4 (show rN (uN (hI47 (stg2 h)) 43 1 true) 42 0 = true ∧ (∃ a_, K0 a_ = 4 ∧ rD (uN (hI47 (stg2 h)) 43 1 true) a_ = false ∧ Go (d + 1) false 12 29 [.ref 42, .int 2] [.ref a_, .int 2, .ref 43] (nwH (uN (hI47 (stg2 h)) 43 1 true) a_ 7) Q) from ⟨rfl, ⟨50, rfl, (Eq.trans (Eq.trans uN_D ((dhI47 (by omega)).trans (dstg2 (by omega)))) (hd 50 (by decide) (by decide))), ?_⟩⟩)
        show Go (d + 1) false 12 29 [.ref 42, .int 2] [.ref 50, .int 2, .ref 43] (nwH (uN (hI47 (stg2 h)) 43 1 true) 50 7) Q
        refine exf_go 2 (show wpC (d + 1) false 38 [.ref 50] (nwH (uN (hI47 (stg2 h)) 43 1 true) 50 7) (fun _ h' => Go (d + 1) false 12 33 [.ref 42, .int 2] [.ref 50, .int 2, .ref 43] h' Q) from ?_)
        refine c_i50 (h := stg3 h) (fun b u v => (dstg3 (by omega)).trans (hd b (by omega) (by omega))) ?_
        show Go (d + 1) false 12 33 [.ref 42, .int 2] [.ref 50, .int 2, .ref 43] (hI50 (stg3 h)) Q
        refine exf_go 2 (show vp_in 2 9 ∧ 50 = R0 43 2 ∧ (Go (d + 1) false 12 37 [.ref 42, .int (2 + 1)] [] (uN (hI50 (stg3 h)) 43 2 true) Q) from ⟨(vp_in_nI (n := 2) (by decide) (by decide)), rfl, ?_⟩)
        rw [show (2 + 1 : Int32) = 3 from by decide]
        refine exf_go 4 (show (9 ≤ (3 : Int32) → Go (d + 1) false 12 40 [.ref 42, .int 3] [] (uN (hI50 (stg3 h)) 43 2 true) Q) ∧ (¬ (9 ≤ (3 : Int32)) → Go (d + 1) false 12 21 [.ref 42, .int 3] [] (uN (hI50 (stg3 h)) 43 2 true) Q) from ⟨fun c4 => ?_, fun c4 => ?_⟩)
        · skip
          exact absurd c4 (by decide)
        · skip
          refine exf_go 4 (show rN (uN (hI50 (stg3 h)) 43 2 true) 42 0 = true ∧ (∃ a_, K0 a_ = 4 ∧ rD (uN (hI50 (stg3 h)) 43 2 true) a_ = false ∧ Go (d + 1) false 12 29 [.ref 42, .int 3] [.ref a_, .int 3, .ref 43] (nwH (uN (hI50 (stg3 h)) 43 2 true) a_ 7) Q) from ⟨rfl, ⟨53, rfl, (Eq.trans (Eq.trans uN_D ((dhI50 (by omega)).trans (dstg3 (by omega)))) (hd 53 (by decide) (by decide))), ?_⟩⟩)
          show Go (d + 1) false 12 29 [.ref 42, .int 3] [.ref 53, .int 3, .ref 43] (nwH (uN (hI50 (stg3 h)) 43 2 true) 53 7) Q
          refine exf_go 2 (show wpC (d + 1) false 38 [.ref 53] (nwH (uN (hI50 (stg3 h)) 43 2 true) 53 7) (fun _ h' => Go (d + 1) false 12 33 [.ref 42, .int 3] [.ref 53, .int 3, .ref 43] h' Q) from ?_)
          refine c_i53 (h := stg4 h) (fun b u v => (dstg4 (by omega)).trans (hd b (by omega) (by omega))) ?_
          show Go (d + 1) false 12 33 [.ref 42, .int 3] [.ref 53, .int 3, .ref 43] (hI53 (stg4 h)) Q
          refine exf_go 2 (show vp_in 3 9 ∧ 53 = R0 43 3 ∧ (Go (d + 1) false 12 37 [.ref 42, .int (3 + 1)] [] (uN (hI53 (stg4 h)) 43 3 true) Q) from ⟨(vp_in_nI (n := 3) (by decide) (by decide)), rfl, ?_⟩)
          rw [show (3 + 1 : Int32) = 4 from by decide]
          refine exf_go 4 (show (9 ≤ (4 : Int32) → Go (d + 1) false 12 40 [.ref 42, .int 4] [] (uN (hI53 (stg4 h)) 43 3 true) Q) ∧ (¬ (9 ≤ (4 : Int32)) → Go (d + 1) false 12 21 [.ref 42, .int 4] [] (uN (hI53 (stg4 h)) 43 3 true) Q) from ⟨fun c5 => ?_, fun c5 => ?_⟩)
          · skip
            exact absurd c5 (by decide)
          · skip
            refine exf_go 4 (show rN (uN (hI53 (stg4 h)) 43 3 true) 42 0 = true ∧ (∃ a_, K0 a_ = 4 ∧ rD (uN (hI53 (stg4 h)) 43 3 true) a_ = false ∧ Go (d + 1) false 12 29 [.ref 42, .int 4] [.ref a_, .int 4, .ref 43] (nwH (uN (hI53 (stg4 h)) 43 3 true) a_ 7) Q) from ⟨rfl, ⟨56, rfl, (Eq.trans (Eq.trans uN_D ((dhI53 (by omega)).trans (dstg4 (by omega)))) (hd 56 (by decide) (by decide))), ?_⟩⟩)
            show Go (d + 1) false 12 29 [.ref 42, .int 4] [.ref 56, .int 4, .ref 43] (nwH (uN (hI53 (stg4 h)) 43 3 true) 56 7) Q
            refine exf_go 2 (show wpC (d + 1) false 38 [.ref 56] (nwH (uN (hI53 (stg4 h)) 43 3 true) 56 7) (fun _ h' => Go (d + 1) false 12 33 [.ref 42, .int 4] [.ref 56, .int 4, .ref 43] h' Q) from ?_)
            refine c_i56 (h := stg5 h) (fun b u v => (dstg5 (by omega)).trans (hd b (by omega) (by omega))) ?_
            show Go (d + 1) false 12 33 [.ref 42, .int 4] [.ref 56, .int 4, .ref 43] (hI56 (stg5 h)) Q
            refine exf_go 2 (show vp_in 4 9 ∧ 56 = R0 43 4 ∧ (Go (d + 1) false 12 37 [.ref 42, .int (4 + 1)] [] (uN (hI56 (stg5 h)) 43 4 true) Q) from ⟨(vp_in_nI (n := 4) (by decide) (by decide)), rfl, ?_⟩)
            rw [show (4 + 1 : Int32) = 5 from by decide]
            refine exf_go 4 (show (9 ≤ (5 : Int32) → Go (d + 1) false 12 40 [.ref 42, .int 5] [] (uN (hI56 (stg5 h)) 43 4 true) Q) ∧ (¬ (9 ≤ (5 : Int32)) → Go (d + 1) false 12 21 [.ref 42, .int 5] [] (uN (hI56 (stg5 h)) 43 4 true) Q) from ⟨fun c6 => ?_, fun c6 => ?_⟩)
            · skip
              exact absurd c6 (by decide)
            · skip
              refine exf_go 4 (show rN (uN (hI56 (stg5 h)) 43 4 true) 42 0 = true ∧ (∃ a_, K0 a_ = 4 ∧ rD (uN (hI56 (stg5 h)) 43 4 true) a_ = false ∧ Go (d + 1) false 12 29 [.ref 42, .int 5] [.ref a_, .int 5, .ref 43] (nwH (uN (hI56 (stg5 h)) 43 4 true) a_ 7) Q) from ⟨rfl, ⟨59, rfl, (Eq.trans (Eq.trans uN_D ((dhI56 (by omega)).trans (dstg5 (by omega)))) (hd 59 (by decide) (by decide))), ?_⟩⟩)
              show Go (d + 1) false 12 29 [.ref 42, .int 5] [.ref 59, .int 5, .ref 43] (nwH (uN (hI56 (stg5 h)) 43 4 true) 59 7) Q
              refine exf_go 2 (show wpC (d + 1) false 38 [.ref 59] (nwH (uN (hI56 (stg5 h)) 43 4 true) 59 7) (fun _ h' => Go (d + 1) false 12 33 [.ref 42, .int 5] [.ref 59, .int 5, .ref 43] h' Q) from ?_)
              refine c_i59 (h := stg6 h) (fun b u v => (dstg6 (by omega)).trans (hd b (by omega) (by omega))) ?_
              show Go (d + 1) false 12 33 [.ref 42, .int 5] [.ref 59, .int 5, .ref 43] (hI59 (stg6 h)) Q
              refine exf_go 2 (show vp_in 5 9 ∧ 59 = R0 43 5 ∧ (Go (d + 1) false 12 37 [.ref 42, .int (5 + 1)] [] (uN (hI59 (stg6 h)) 43 5 true) Q) from ⟨(vp_in_nI (n := 5) (by decide) (by decide)), rfl, ?_⟩)
              rw [show (5 + 1 : Int32) = 6 from by decide]
              refine exf_go 4 (show (9 ≤ (6 : Int32) → Go (d + 1) false 12 40 [.ref 42, .int 6] [] (uN (hI59 (stg6 h)) 43 5 true) Q) ∧ (¬ (9 ≤ (6 : Int32)) → Go (d + 1) false 12 21 [.ref 42, .int 6] [] (uN (hI59 (stg6 h)) 43 5 true) Q) from ⟨fun c7 => ?_, fun c7 => ?_⟩)
              · skip
                exact absurd c7 (by decide)
              · skip
                refine exf_go 4 (show rN (uN (hI59 (stg6 h)) 43 5 true) 42 0 = true ∧ (∃ a_, K0 a_ = 4 ∧ rD (uN (hI59 (stg6 h)) 43 5 true) a_ = false ∧ Go (d + 1) false 12 29 [.ref 42, .int 6] [.ref a_, .int 6, .ref 43] (nwH (uN (hI59 (stg6 h)) 43 5 true) a_ 7) Q) from ⟨rfl, ⟨62, rfl, (Eq.trans (Eq.trans uN_D ((dhI59 (by omega)).trans (dstg6 (by omega)))) (hd 62 (by decide) (by decide))), ?_⟩⟩)
                show Go (d + 1) false 12 29 [.ref 42, .int 6] [.ref 62, .int 6, .ref 43] (nwH (uN (hI59 (stg6 h)) 43 5 true) 62 7) Q
                refine exf_go 2 (show wpC (d + 1) false 38 [.ref 62] (nwH (uN (hI59 (stg6 h)) 43 5 true) 62 7) (fun _ h' => Go (d + 1) false 12 33 [.ref 42, .int 6] [.ref 62, .int 6, .ref 43] h' Q) from ?_)
                refine c_i62 (h := stg7 h) (fun b u v => (dstg7 (by omega)).trans (hd b (by omega) (by omega))) ?_
                show Go (d + 1) false 12 33 [.ref 42, .int 6] [.ref 62, .int 6, .ref 43] (hI62 (stg7 h)) Q
                refine exf_go 2 (show vp_in 6 9 ∧ 62 = R0 43 6 ∧ (Go (d + 1) false 12 37 [.ref 42, .int (6 + 1)] [] (uN (hI62 (stg7 h)) 43 6 true) Q) from ⟨(vp_in_nI (n := 6) (by decide) (by decide)), rfl, ?_⟩)
                rw [show (6 + 1 : Int32) = 7 from by decide]
                refine exf_go 4 (show (9 ≤ (7 : Int32) → Go (d + 1) false 12 40 [.ref 42, .int 7] [] (uN (hI62 (stg7 h)) 43 6 true) Q) ∧ (¬ (9 ≤ (7 : Int32)) → Go (d + 1) false 12 21 [.ref 42, .int 7] [] (uN (hI62 (stg7 h)) 43 6 true) Q) from ⟨fun c8 => ?_, fun c8 => ?_⟩)
                · skip
                  exact absurd c8 (by decide)
                · skip
                  refine exf_go 4 (show rN (uN (hI62 (stg7 h)) 43 6 true) 42 0 = true ∧ (∃ a_, K0 a_ = 4 ∧ rD (uN (hI62 (stg7 h)) 43 6 true) a_ = false ∧ Go (d + 1) false 12 29 [.ref 42, .int 7] [.ref a_, .int 7, .ref 43] (nwH (uN (hI62 (stg7 h)) 43 6 true) a_ 7) Q) from ⟨rfl, ⟨65, rfl, (Eq.trans (Eq.trans uN_D ((dhI62 (by omega)).trans (dstg7 (by omega)))) (hd 65 (by decide) (by decide))), ?_⟩⟩)
                  show Go (d + 1) false 12 29 [.ref 42, .int 7] [.ref 65, .int 7, .ref 43] (nwH (uN (hI62 (stg7 h)) 43 6 true) 65 7) Q
                  refine exf_go 2 (show wpC (d + 1) false 38 [.ref 65] (nwH (uN (hI62 (stg7 h)) 43 6 true) 65 7) (fun _ h' => Go (d + 1) false 12 33 [.ref 42, .int 7] [.ref 65, .int 7, .ref 43] h' Q) from ?_)
                  refine c_i65 (h := stg8 h) (fun b u v => (dstg8 (by omega)).trans (hd b (by omega) (by omega))) ?_
                  show Go (d + 1) false 12 33 [.ref 42, .int 7] [.ref 65, .int 7, .ref 43] (hI65 (stg8 h)) Q
                  refine exf_go 2 (show vp_in 7 9 ∧ 65 = R0 43 7 ∧ (Go (d + 1) false 12 37 [.ref 42, .int (7 + 1)] [] (uN (hI65 (stg8 h)) 43 7 true) Q) from ⟨(vp_in_nI (n := 7) (by decide) (by decide)), rfl, ?_⟩)
                  rw [show (7 + 1 : Int32) = 8 from by decide]
                  refine exf_go 4 (show (9 ≤ (8 : Int32) → Go (d + 1) false 12 40 [.ref 42, .int 8] [] (uN (hI65 (stg8 h)) 43 7 true) Q) ∧ (¬ (9 ≤ (8 : Int32)) → Go (d + 1) false 12 21 [.ref 42, .int 8] [] (uN (hI65 (stg8 h)) 43 7 true) Q) from ⟨fun c9 => ?_, fun c9 => ?_⟩)
                  · skip
                    exact absurd c9 (by decide)
                  · skip
                    refine exf_go 4 (show rN (uN (hI65 (stg8 h)) 43 7 true) 42 0 = true ∧ (∃ a_, K0 a_ = 4 ∧ rD (uN (hI65 (stg8 h)) 43 7 true) a_ = false ∧ Go (d + 1) false 12 29 [.ref 42, .int 8] [.ref a_, .int 8, .ref 43] (nwH (uN (hI65 (stg8 h)) 43 7 true) a_ 7) Q) from ⟨rfl, ⟨68, rfl, (Eq.trans (Eq.trans uN_D ((dhI65 (by omega)).trans (dstg8 (by omega)))) (hd 68 (by decide) (by decide))), ?_⟩⟩)
                    show Go (d + 1) false 12 29 [.ref 42, .int 8] [.ref 68, .int 8, .ref 43] (nwH (uN (hI65 (stg8 h)) 43 7 true) 68 7) Q
                    refine exf_go 2 (show wpC (d + 1) false 38 [.ref 68] (nwH (uN (hI65 (stg8 h)) 43 7 true) 68 7) (fun _ h' => Go (d + 1) false 12 33 [.ref 42, .int 8] [.ref 68, .int 8, .ref 43] h' Q) from ?_)
                    refine c_i68 (h := stg9 h) (fun b u v => (dstg9 (by omega)).trans (hd b (by omega) (by omega))) ?_
                    show Go (d + 1) false 12 33 [.ref 42, .int 8] [.ref 68, .int 8, .ref 43] (hI68 (stg9 h)) Q
                    refine exf_go 2 (show vp_in 8 9 ∧ 68 = R0 43 8 ∧ (Go (d + 1) false 12 37 [.ref 42, .int (8 + 1)] [] (uN (hI68 (stg9 h)) 43 8 true) Q) from ⟨(vp_in_nI (n := 8) (by decide) (by decide)), rfl, ?_⟩)
                    rw [show (8 + 1 : Int32) = 9 from by decide]
                    refine exf_go 4 (show (9 ≤ (9 : Int32) → Go (d + 1) false 12 40 [.ref 42, .int 9] [] (uN (hI68 (stg9 h)) 43 8 true) Q) ∧ (¬ (9 ≤ (9 : Int32)) → Go (d + 1) false 12 21 [.ref 42, .int 9] [] (uN (hI68 (stg9 h)) 43 8 true) Q) from ⟨fun c10 => ?_, fun c10 => ?_⟩)
                    · skip
                      refine exf_go 1 (show Q (mk_) (uN (hI68 (stg9 h)) 43 8 true) from ?_)
                      exact k
                    · skip
                      exact absurd (by decide) c10
