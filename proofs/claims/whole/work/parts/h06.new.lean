/-! New objects: the class. -/
def stg10 (h : Hp) : Hp := nwH (uN (nwH h 11 900) 10 0 true) 12 4
theorem bstg10 {c m : Nat} {h : Hp} (b : LB c m h) : LB (c + 2) (m + 904) (stg10 h) := lb_ok (show LB _ _ (stg10 h) from (lb_nw (lb_uN (lb_nw b 11 900 (by decide) (by decide)) 10 0) 12 4 (by decide) (by decide))) (by omega) (by omega)
theorem dstg10 {h : Hp} {b : Nat} (hb : (b < 11 ∨ 12 < b)) : rD (stg10 h) b = rD h b := show rD (nwH (uN (nwH h 11 900) 10 0 true) 12 4) b = rD h b from ((nw_D (by omega)).trans (Eq.trans uN_D ((nw_D (by omega)).trans rfl)))
def stg11 (h : Hp) : Hp := nwH (uN (hI12 (stg10 h)) 10 2 true) 16 7
theorem bstg11 {c m : Nat} {h : Hp} (b : LB c m h) : LB (c + 6) (m + 3614) (stg11 h) := lb_ok (show LB _ _ (stg11 h) from (lb_nw (lb_uN (bhI12 (bstg10 b)) 10 2) 16 7 (by decide) (by decide))) (by omega) (by omega)
theorem dstg11 {h : Hp} {b : Nat} (hb : (b < 11 ∨ 16 < b)) : rD (stg11 h) b = rD h b := show rD (nwH (uN (hI12 (stg10 h)) 10 2 true) 16 7) b = rD h b from ((nw_D (by omega)).trans (Eq.trans uN_D ((dhI12 (by omega)).trans (dstg10 (by omega)))))
def stg12 (h : Hp) : Hp := nwH (uN (hI16 (stg11 h)) 10 3 true) 17 12
theorem bstg12 {c m : Nat} {h : Hp} (b : LB c m h) : LB (c + 7) (m + 3626) (stg12 h) := lb_ok (show LB _ _ (stg12 h) from (lb_nw (lb_uN (bhI16 (bstg11 b)) 10 3) 17 12 (by decide) (by decide))) (by omega) (by omega)
theorem dstg12 {h : Hp} {b : Nat} (hb : (b < 11 ∨ 17 < b)) : rD (stg12 h) b = rD h b := show rD (nwH (uN (hI16 (stg11 h)) 10 3 true) 17 12) b = rD h b from ((nw_D (by omega)).trans (Eq.trans uN_D ((dhI16 trivial).trans (dstg11 (by omega)))))
def stg13 (h : Hp) : Hp := nwH (uN (hI17 (stg12 h)) 10 4 true) 23 18
theorem bstg13 {c m : Nat} {h : Hp} (b : LB c m h) : LB (c + 13) (m + 5520) (stg13 h) := lb_ok (show LB _ _ (stg13 h) from (lb_nw (lb_uN (bhI17 (bstg12 b)) 10 4) 23 18 (by decide) (by decide))) (by omega) (by omega)
theorem dstg13 {h : Hp} {b : Nat} (hb : (b < 11 ∨ 23 < b)) : rD (stg13 h) b = rD h b := show rD (nwH (uN (hI17 (stg12 h)) 10 4 true) 23 18) b = rD h b from ((nw_D (by omega)).trans (Eq.trans uN_D ((dhI17 (by omega)).trans (dstg12 (by omega)))))
def stg14 (h : Hp) : Hp := nwH (uN (hI23 (stg13 h)) 10 5 true) 31 18
theorem bstg14 {c m : Nat} {h : Hp} (b : LB c m h) : LB (c + 21) (m + 5822) (stg14 h) := lb_ok (show LB _ _ (stg14 h) from (lb_nw (lb_uN (bhI23 (bstg13 b)) 10 5) 31 18 (by decide) (by decide))) (by omega) (by omega)
theorem dstg14 {h : Hp} {b : Nat} (hb : (b < 11 ∨ 31 < b)) : rD (stg14 h) b = rD h b := show rD (nwH (uN (hI23 (stg13 h)) 10 5 true) 31 18) b = rD h b from ((nw_D (by omega)).trans (Eq.trans uN_D ((dhI23 (by omega)).trans (dstg13 (by omega)))))
def stg15 (h : Hp) : Hp := nwH (uN (hI31 (stg14 h)) 10 6 true) 39 8
theorem bstg15 {c m : Nat} {h : Hp} (b : LB c m h) : LB (c + 29) (m + 6114) (stg15 h) := lb_ok (show LB _ _ (stg15 h) from (lb_nw (lb_uN (bhI31 (bstg14 b)) 10 6) 39 8 (by decide) (by decide))) (by omega) (by omega)
theorem dstg15 {h : Hp} {b : Nat} (hb : (b < 11 ∨ 39 < b)) : rD (stg15 h) b = rD h b := show rD (nwH (uN (hI31 (stg14 h)) 10 6 true) 39 8) b = rD h b from ((nw_D (by omega)).trans (Eq.trans uN_D ((dhI31 (by omega)).trans (dstg14 (by omega)))))
def stg16 (h : Hp) : Hp := nwH (uN (hI39 (stg15 h)) 10 7 true) 42 3
theorem bstg16 {c m : Nat} {h : Hp} (b : LB c m h) : LB (c + 32) (m + 6122) (stg16 h) := lb_ok (show LB _ _ (stg16 h) from (lb_nw (lb_uN (bhI39 (bstg15 b)) 10 7) 42 3 (by decide) (by decide))) (by omega) (by omega)
theorem dstg16 {h : Hp} {b : Nat} (hb : (b < 11 ∨ 42 < b)) : rD (stg16 h) b = rD h b := show rD (nwH (uN (hI39 (stg15 h)) 10 7 true) 42 3) b = rD h b from ((nw_D (by omega)).trans (Eq.trans uN_D ((dhI39 (by omega)).trans (dstg15 (by omega)))))
def stg17 (h : Hp) : Hp := nwH (uN (hI42 (stg16 h)) 10 8 true) 71 6
theorem bstg17 {c m : Nat} {h : Hp} (b : LB c m h) : LB (c + 61) (m + 6596) (stg17 h) := lb_ok (show LB _ _ (stg17 h) from (lb_nw (lb_uN (bhI42 (bstg16 b)) 10 8) 71 6 (by decide) (by decide))) (by omega) (by omega)
theorem dstg17 {h : Hp} {b : Nat} (hb : (b < 11 ∨ 71 < b)) : rD (stg17 h) b = rD h b := show rD (nwH (uN (hI42 (stg16 h)) 10 8 true) 71 6) b = rD h b from ((nw_D (by omega)).trans (Eq.trans uN_D ((dhI42 (by omega)).trans (dstg16 (by omega)))))
def stg18 (h : Hp) : Hp := nwH (uN (nwH (uN (hI71 (stg17 h)) 10 9 true) 77 256) 10 10 true) 78 8
theorem bstg18 {c m : Nat} {h : Hp} (b : LB c m h) : LB (c + 68) (m + 7885) (stg18 h) := lb_ok (show LB _ _ (stg18 h) from (lb_nw (lb_uN (lb_nw (lb_uN (bhI71 (bstg17 b)) 10 9) 77 256 (by decide) (by decide)) 10 10) 78 8 (by decide) (by decide))) (by omega) (by omega)
theorem dstg18 {h : Hp} {b : Nat} (hb : (b < 11 ∨ 78 < b)) : rD (stg18 h) b = rD h b := show rD (nwH (uN (nwH (uN (hI71 (stg17 h)) 10 9 true) 77 256) 10 10 true) 78 8) b = rD h b from ((nw_D (by omega)).trans (Eq.trans uN_D ((nw_D (by omega)).trans (Eq.trans uN_D ((dhI71 (by omega)).trans (dstg17 (by omega)))))))
def stg19 (h : Hp) : Hp := nwH (uN (hI78 (stg18 h)) 10 11 true) 85 1
theorem bstg19 {c m : Nat} {h : Hp} (b : LB c m h) : LB (c + 75) (m + 10278) (stg19 h) := lb_ok (show LB _ _ (stg19 h) from (lb_nw (lb_uN (bhI78 (bstg18 b)) 10 11) 85 1 (by decide) (by decide))) (by omega) (by omega)
theorem dstg19 {h : Hp} {b : Nat} (hb : (b < 11 ∨ 85 < b)) : rD (stg19 h) b = rD h b := show rD (nwH (uN (hI78 (stg18 h)) 10 11 true) 85 1) b = rD h b from ((nw_D (by omega)).trans (Eq.trans uN_D ((dhI78 (by omega)).trans (dstg18 (by omega)))))
def stg20 (h : Hp) : Hp := nwH (uN (nwH (uN (nwH (uN (nwH (uN (nwH (uN (hI85 (stg19 h)) 10 12 true) 87 4) 10 13 true) 96 2) 10 14 true) 97 2) 10 15 true) 98 1) 10 16 true) 88 3
theorem bstg20 {c m : Nat} {h : Hp} (b : LB c m h) : LB (c + 81) (m + 10291) (stg20 h) := lb_ok (show LB _ _ (stg20 h) from (lb_nw (lb_uN (lb_nw (lb_uN (lb_nw (lb_uN (lb_nw (lb_uN (lb_nw (lb_uN (bhI85 (bstg19 b)) 10 12) 87 4 (by decide) (by decide)) 10 13) 96 2 (by decide) (by decide)) 10 14) 97 2 (by decide) (by decide)) 10 15) 98 1 (by decide) (by decide)) 10 16) 88 3 (by decide) (by decide))) (by omega) (by omega)
theorem dstg20 {h : Hp} {b : Nat} (hb : (b < 11 ∨ 88 < b) ∧ (b < 96 ∨ 98 < b)) : rD (stg20 h) b = rD h b := show rD (nwH (uN (nwH (uN (nwH (uN (nwH (uN (nwH (uN (hI85 (stg19 h)) 10 12 true) 87 4) 10 13 true) 96 2) 10 14 true) 97 2) 10 15 true) 98 1) 10 16 true) 88 3) b = rD h b from ((nw_D (by omega)).trans (Eq.trans uN_D ((nw_D (by omega)).trans (Eq.trans uN_D ((nw_D (by omega)).trans (Eq.trans uN_D ((nw_D (by omega)).trans (Eq.trans uN_D ((nw_D (by omega)).trans (Eq.trans uN_D ((dhI85 (by omega)).trans (dstg19 (by omega)))))))))))))
def stg21 (h : Hp) : Hp := nwH (uN (hI88 (stg20 h)) 87 0 true) 90 3
theorem bstg21 {c m : Nat} {h : Hp} (b : LB c m h) : LB (c + 83) (m + 10334) (stg21 h) := lb_ok (show LB _ _ (stg21 h) from (lb_nw (lb_uN (bhI88 (bstg20 b)) 87 0) 90 3 (by decide) (by decide))) (by omega) (by omega)
theorem dstg21 {h : Hp} {b : Nat} (hb : (b < 11 ∨ 90 < b) ∧ (b < 96 ∨ 98 < b)) : rD (stg21 h) b = rD h b := show rD (nwH (uN (hI88 (stg20 h)) 87 0 true) 90 3) b = rD h b from ((nw_D (by omega)).trans (Eq.trans uN_D ((dhI88 (by omega)).trans (dstg20 (by omega)))))
def stg22 (h : Hp) : Hp := nwH (uN (hI90 (stg21 h)) 87 1 true) 92 3
theorem bstg22 {c m : Nat} {h : Hp} (b : LB c m h) : LB (c + 85) (m + 10377) (stg22 h) := lb_ok (show LB _ _ (stg22 h) from (lb_nw (lb_uN (bhI90 (bstg21 b)) 87 1) 92 3 (by decide) (by decide))) (by omega) (by omega)
theorem dstg22 {h : Hp} {b : Nat} (hb : (b < 11 ∨ 92 < b) ∧ (b < 96 ∨ 98 < b)) : rD (stg22 h) b = rD h b := show rD (nwH (uN (hI90 (stg21 h)) 87 1 true) 92 3) b = rD h b from ((nw_D (by omega)).trans (Eq.trans uN_D ((dhI90 (by omega)).trans (dstg21 (by omega)))))
def stg23 (h : Hp) : Hp := nwH (uN (hI92 (stg22 h)) 87 2 true) 94 3
theorem bstg23 {c m : Nat} {h : Hp} (b : LB c m h) : LB (c + 87) (m + 10420) (stg23 h) := lb_ok (show LB _ _ (stg23 h) from (lb_nw (lb_uN (bhI92 (bstg22 b)) 87 2) 94 3 (by decide) (by decide))) (by omega) (by omega)
theorem dstg23 {h : Hp} {b : Nat} (hb : (b < 11 ∨ 94 < b) ∧ (b < 96 ∨ 98 < b)) : rD (stg23 h) b = rD h b := show rD (nwH (uN (hI92 (stg22 h)) 87 2 true) 94 3) b = rD h b from ((nw_D (by omega)).trans (Eq.trans uN_D ((dhI92 (by omega)).trans (dstg22 (by omega)))))
def hI10 (h : Hp) : Hp := uN (hI94 (stg23 h)) 87 3 true
theorem bhI10 {c m : Nat} {h : Hp} (b : LB c m h) : LB (c + 88) (m + 10460) (hI10 h) := lb_ok (show LB _ _ (hI10 h) from (lb_uN (bhI94 (bstg23 b)) 87 3)) (by omega) (by omega)
theorem dhI10 {h : Hp} {b : Nat} (hb : (b < 11 ∨ 98 < b)) : rD (hI10 h) b = rD h b := show rD (uN (hI94 (stg23 h)) 87 3 true) b = rD h b from (Eq.trans uN_D ((dhI94 (by omega)).trans (dstg23 (by omega))))
theorem c_i10 {d : Nat} {h : Hp} {Q : Po} (hd : ∀ b, 11 ≤ b → b ≤ 98 → rD h b = false) (k : Q mk_ (hI10 h)) : wpC (d + 3) false 111 [.ref 10] h Q := by
  refine go_in rfl ?_
  refine exf_go 5 (show ∃ a_, K0 a_ = 22 ∧ rD h a_ = false ∧ ¬ (900 : Int32) < 0 ∧ (L0 a_ = 0 ∨ L0 a_ = (900 : Int32).toNatClampNeg) ∧ (900 : Int32).toNatClampNeg ≤ 1000000 ∧ Go (d + 2) false 111 10 [.ref 10, mk_] [.ref a_, .ref 10] (nwH h a_ 900) Q from ⟨11, rfl, (Eq.trans rfl (hd 11 (by decide) (by decide))), by decide, by decide, by decide, ?_⟩)
  show Go (d + 2) false 111 10 [.ref 10, mk_] [.ref 11, .ref 10] (nwH h 11 900) Q
  refine exf_go 3 (show ∃ a_, K0 a_ = 9 ∧ rD (uN (nwH h 11 900) 10 0 true) a_ = false ∧ Go (d + 2) false 111 17 [.ref 10, mk_] [.ref a_, .ref 10] (nwH (uN (nwH h 11 900) 10 0 true) a_ 4) Q from ⟨12, rfl, (Eq.trans (Eq.trans uN_D ((nw_D (by omega)).trans rfl)) (hd 12 (by decide) (by decide))), ?_⟩)
  show Go (d + 2) false 111 17 [.ref 10, mk_] [.ref 12, .ref 10] (nwH (uN (nwH h 11 900) 10 0 true) 12 4) Q
  refine exf_go 2 (show wpC (d + 2) false 88 [.ref 12] (nwH (uN (nwH h 11 900) 10 0 true) 12 4) (fun _ h' => Go (d + 2) false 111 21 [.ref 10, mk_] [.ref 12, .ref 10] h' Q) from ?_)
  refine c_i12 (h := stg10 h) (fun b u v => (dstg10 (by omega)).trans (hd b (by omega) (by omega))) ?_
  show Go (d + 2) false 111 21 [.ref 10, mk_] [.ref 12, .ref 10] (hI12 (stg10 h)) Q
  refine exf_go 3 (show ∃ a_, K0 a_ = 7 ∧ rD (uN (hI12 (stg10 h)) 10 2 true) a_ = false ∧ Go (d + 2) false 111 28 [.ref 10, mk_] [.ref a_, .ref 10] (nwH (uN (hI12 (stg10 h)) 10 2 true) a_ 7) Q from ⟨16, rfl, (Eq.trans (Eq.trans uN_D ((dhI12 (by omega)).trans (dstg10 (by omega)))) (hd 16 (by decide) (by decide))), ?_⟩)
  show Go (d + 2) false 111 28 [.ref 10, mk_] [.ref 16, .ref 10] (nwH (uN (hI12 (stg10 h)) 10 2 true) 16 7) Q
  refine exf_go 2 (show wpC (d + 2) false 53 [.ref 16] (nwH (uN (hI12 (stg10 h)) 10 2 true) 16 7) (fun _ h' => Go (d + 2) false 111 32 [.ref 10, mk_] [.ref 16, .ref 10] h' Q) from ?_)
  refine c_i16 (h := stg11 h) ?_
  show Go (d + 2) false 111 32 [.ref 10, mk_] [.ref 16, .ref 10] (hI16 (stg11 h)) Q
  refine exf_go 3 (show ∃ a_, K0 a_ = 0 ∧ rD (uN (hI16 (stg11 h)) 10 3 true) a_ = false ∧ Go (d + 2) false 111 39 [.ref 10, mk_] [.ref a_, .ref 10] (nwH (uN (hI16 (stg11 h)) 10 3 true) a_ 12) Q from ⟨17, rfl, (Eq.trans (Eq.trans uN_D ((dhI16 trivial).trans (dstg11 (by omega)))) (hd 17 (by decide) (by decide))), ?_⟩)
  show Go (d + 2) false 111 39 [.ref 10, mk_] [.ref 17, .ref 10] (nwH (uN (hI16 (stg11 h)) 10 3 true) 17 12) Q
  refine exf_go 2 (show wpC (d + 2) false 1 [.ref 17] (nwH (uN (hI16 (stg11 h)) 10 3 true) 17 12) (fun _ h' => Go (d + 2) false 111 43 [.ref 10, mk_] [.ref 17, .ref 10] h' Q) from ?_)
  refine c_i17 (h := stg12 h) (fun b u v => (dstg12 (by omega)).trans (hd b (by omega) (by omega))) ?_
  show Go (d + 2) false 111 43 [.ref 10, mk_] [.ref 17, .ref 10] (hI17 (stg12 h)) Q
  refine exf_go 3 (show ∃ a_, K0 a_ = 8 ∧ rD (uN (hI17 (stg12 h)) 10 4 true) a_ = false ∧ Go (d + 2) false 111 50 [.ref 10, mk_] [.ref a_, .ref 10] (nwH (uN (hI17 (stg12 h)) 10 4 true) a_ 18) Q from ⟨23, rfl, (Eq.trans (Eq.trans uN_D ((dhI17 (by omega)).trans (dstg12 (by omega)))) (hd 23 (by decide) (by decide))), ?_⟩)
  show Go (d + 2) false 111 50 [.ref 10, mk_] [.ref 23, .ref 10] (nwH (uN (hI17 (stg12 h)) 10 4 true) 23 18) Q
  refine exf_go 2 (show wpC (d + 2) false 75 [.ref 23] (nwH (uN (hI17 (stg12 h)) 10 4 true) 23 18) (fun _ h' => Go (d + 2) false 111 54 [.ref 10, mk_] [.ref 23, .ref 10] h' Q) from ?_)
  refine c_i23 (h := stg13 h) (fun b u v => (dstg13 (by omega)).trans (hd b (by omega) (by omega))) ?_
  show Go (d + 2) false 111 54 [.ref 10, mk_] [.ref 23, .ref 10] (hI23 (stg13 h)) Q
  refine exf_go 3 (show ∃ a_, K0 a_ = 8 ∧ rD (uN (hI23 (stg13 h)) 10 5 true) a_ = false ∧ Go (d + 2) false 111 61 [.ref 10, mk_] [.ref a_, .ref 10] (nwH (uN (hI23 (stg13 h)) 10 5 true) a_ 18) Q from ⟨31, rfl, (Eq.trans (Eq.trans uN_D ((dhI23 (by omega)).trans (dstg13 (by omega)))) (hd 31 (by decide) (by decide))), ?_⟩)
  show Go (d + 2) false 111 61 [.ref 10, mk_] [.ref 31, .ref 10] (nwH (uN (hI23 (stg13 h)) 10 5 true) 31 18) Q
  refine exf_go 2 (show wpC (d + 2) false 75 [.ref 31] (nwH (uN (hI23 (stg13 h)) 10 5 true) 31 18) (fun _ h' => Go (d + 2) false 111 65 [.ref 10, mk_] [.ref 31, .ref 10] h' Q) from ?_)
  refine c_i31 (h := stg14 h) (fun b u v => (dstg14 (by omega)).trans (hd b (by omega) (by omega))) ?_
  show Go (d + 2) false 111 65 [.ref 10, mk_] [.ref 31, .ref 10] (hI31 (stg14 h)) Q
  refine exf_go 3 (show ∃ a_, K0 a_ = 3 ∧ rD (uN (hI31 (stg14 h)) 10 6 true) a_ = false ∧ Go (d + 2) false 111 72 [.ref 10, mk_] [.ref a_, .ref 10] (nwH (uN (hI31 (stg14 h)) 10 6 true) a_ 8) Q from ⟨39, rfl, (Eq.trans (Eq.trans uN_D ((dhI31 (by omega)).trans (dstg14 (by omega)))) (hd 39 (by decide) (by decide))), ?_⟩)
  show Go (d + 2) false 111 72 [.ref 10, mk_] [.ref 39, .ref 10] (nwH (uN (hI31 (stg14 h)) 10 6 true) 39 8) Q
  refine exf_go 2 (show wpC (d + 2) false 26 [.ref 39] (nwH (uN (hI31 (stg14 h)) 10 6 true) 39 8) (fun _ h' => Go (d + 2) false 111 76 [.ref 10, mk_] [.ref 39, .ref 10] h' Q) from ?_)
  refine c_i39 (h := stg15 h) (fun b u v => (dstg15 (by omega)).trans (hd b (by omega) (by omega))) ?_
  show Go (d + 2) false 111 76 [.ref 10, mk_] [.ref 39, .ref 10] (hI39 (stg15 h)) Q
  refine exf_go 3 (show ∃ a_, K0 a_ = 1 ∧ rD (uN (hI39 (stg15 h)) 10 7 true) a_ = false ∧ Go (d + 2) false 111 83 [.ref 10, mk_] [.ref a_, .ref 10] (nwH (uN (hI39 (stg15 h)) 10 7 true) a_ 3) Q from ⟨42, rfl, (Eq.trans (Eq.trans uN_D ((dhI39 (by omega)).trans (dstg15 (by omega)))) (hd 42 (by decide) (by decide))), ?_⟩)
  show Go (d + 2) false 111 83 [.ref 10, mk_] [.ref 42, .ref 10] (nwH (uN (hI39 (stg15 h)) 10 7 true) 42 3) Q
  refine exf_go 2 (show wpC (d + 2) false 12 [.ref 42] (nwH (uN (hI39 (stg15 h)) 10 7 true) 42 3) (fun _ h' => Go (d + 2) false 111 87 [.ref 10, mk_] [.ref 42, .ref 10] h' Q) from ?_)
  refine c_i42 (h := stg16 h) (fun b u v => (dstg16 (by omega)).trans (hd b (by omega) (by omega))) ?_
  show Go (d + 2) false 111 87 [.ref 10, mk_] [.ref 42, .ref 10] (hI42 (stg16 h)) Q
  refine exf_go 3 (show ∃ a_, K0 a_ = 6 ∧ rD (uN (hI42 (stg16 h)) 10 8 true) a_ = false ∧ Go (d + 2) false 111 94 [.ref 10, mk_] [.ref a_, .ref 10] (nwH (uN (hI42 (stg16 h)) 10 8 true) a_ 6) Q from ⟨71, rfl, (Eq.trans (Eq.trans uN_D ((dhI42 (by omega)).trans (dstg16 (by omega)))) (hd 71 (by decide) (by decide))), ?_⟩)
  show Go (d + 2) false 111 94 [.ref 10, mk_] [.ref 71, .ref 10] (nwH (uN (hI42 (stg16 h)) 10 8 true) 71 6) Q
  refine exf_go 2 (show wpC (d + 2) false 47 [.ref 71] (nwH (uN (hI42 (stg16 h)) 10 8 true) 71 6) (fun _ h' => Go (d + 2) false 111 98 [.ref 10, mk_] [.ref 71, .ref 10] h' Q) from ?_)
  refine c_i71 (h := stg17 h) (fun b u v => (dstg17 (by omega)).trans (hd b (by omega) (by omega))) ?_
  show Go (d + 2) false 111 98 [.ref 10, mk_] [.ref 71, .ref 10] (hI71 (stg17 h)) Q
  refine exf_go 4 (show ∃ a_, K0 a_ = 20 ∧ rD (uN (hI71 (stg17 h)) 10 9 true) a_ = false ∧ ¬ (256 : Int32) < 0 ∧ (L0 a_ = 0 ∨ L0 a_ = (256 : Int32).toNatClampNeg) ∧ (256 : Int32).toNatClampNeg ≤ 1000000 ∧ Go (d + 2) false 111 107 [.ref 10, mk_] [.ref a_, .ref 10] (nwH (uN (hI71 (stg17 h)) 10 9 true) a_ 256) Q from ⟨77, rfl, (Eq.trans (Eq.trans uN_D ((dhI71 (by omega)).trans (dstg17 (by omega)))) (hd 77 (by decide) (by decide))), by decide, by decide, by decide, ?_⟩)
  show Go (d + 2) false 111 107 [.ref 10, mk_] [.ref 77, .ref 10] (nwH (uN (hI71 (stg17 h)) 10 9 true) 77 256) Q
  refine exf_go 3 (show ∃ a_, K0 a_ = 2 ∧ rD (uN (nwH (uN (hI71 (stg17 h)) 10 9 true) 77 256) 10 10 true) a_ = false ∧ Go (d + 2) false 111 114 [.ref 10, mk_] [.ref a_, .ref 10] (nwH (uN (nwH (uN (hI71 (stg17 h)) 10 9 true) 77 256) 10 10 true) a_ 8) Q from ⟨78, rfl, (Eq.trans (Eq.trans uN_D ((nw_D (by omega)).trans (Eq.trans uN_D ((dhI71 (by omega)).trans (dstg17 (by omega)))))) (hd 78 (by decide) (by decide))), ?_⟩)
  show Go (d + 2) false 111 114 [.ref 10, mk_] [.ref 78, .ref 10] (nwH (uN (nwH (uN (hI71 (stg17 h)) 10 9 true) 77 256) 10 10 true) 78 8) Q
  refine exf_go 2 (show wpC (d + 2) false 17 [.ref 78] (nwH (uN (nwH (uN (hI71 (stg17 h)) 10 9 true) 77 256) 10 10 true) 78 8) (fun _ h' => Go (d + 2) false 111 118 [.ref 10, mk_] [.ref 78, .ref 10] h' Q) from ?_)
  refine c_i78 (h := stg18 h) (fun b u v => (dstg18 (by omega)).trans (hd b (by omega) (by omega))) ?_
  show Go (d + 2) false 111 118 [.ref 10, mk_] [.ref 78, .ref 10] (hI78 (stg18 h)) Q
  refine exf_go 3 (show ∃ a_, K0 a_ = 5 ∧ rD (uN (hI78 (stg18 h)) 10 11 true) a_ = false ∧ Go (d + 2) false 111 125 [.ref 10, mk_] [.ref a_, .ref 10] (nwH (uN (hI78 (stg18 h)) 10 11 true) a_ 1) Q from ⟨85, rfl, (Eq.trans (Eq.trans uN_D ((dhI78 (by omega)).trans (dstg18 (by omega)))) (hd 85 (by decide) (by decide))), ?_⟩)
  show Go (d + 2) false 111 125 [.ref 10, mk_] [.ref 85, .ref 10] (nwH (uN (hI78 (stg18 h)) 10 11 true) 85 1) Q
  refine exf_go 2 (show wpC (d + 2) false 41 [.ref 85] (nwH (uN (hI78 (stg18 h)) 10 11 true) 85 1) (fun _ h' => Go (d + 2) false 111 129 [.ref 10, mk_] [.ref 85, .ref 10] h' Q) from ?_)
  refine c_i85 (h := stg19 h) (fun b u v => (dstg19 (by omega)).trans (hd b (by omega) (by omega))) ?_
  show Go (d + 2) false 111 129 [.ref 10, mk_] [.ref 85, .ref 10] (hI85 (stg19 h)) Q
  refine exf_go 4 (show ∃ a_, K0 a_ = 25 ∧ rD (uN (hI85 (stg19 h)) 10 12 true) a_ = false ∧ ¬ (4 : Int32) < 0 ∧ (L0 a_ = 0 ∨ L0 a_ = (4 : Int32).toNatClampNeg) ∧ (4 : Int32).toNatClampNeg ≤ 1000000 ∧ Go (d + 2) false 111 137 [.ref 10, mk_] [.ref a_, .ref 10] (nwH (uN (hI85 (stg19 h)) 10 12 true) a_ 4) Q from ⟨87, rfl, (Eq.trans (Eq.trans uN_D ((dhI85 (by omega)).trans (dstg19 (by omega)))) (hd 87 (by decide) (by decide))), by decide, by decide, by decide, ?_⟩)
  show Go (d + 2) false 111 137 [.ref 10, mk_] [.ref 87, .ref 10] (nwH (uN (hI85 (stg19 h)) 10 12 true) 87 4) Q
  refine exf_go 4 (show ∃ a_, K0 a_ = 26 ∧ rD (uN (nwH (uN (hI85 (stg19 h)) 10 12 true) 87 4) 10 13 true) a_ = false ∧ ¬ (2 : Int32) < 0 ∧ (L0 a_ = 0 ∨ L0 a_ = (2 : Int32).toNatClampNeg) ∧ (2 : Int32).toNatClampNeg ≤ 1000000 ∧ Go (d + 2) false 111 145 [.ref 10, mk_] [.ref a_, .ref 10] (nwH (uN (nwH (uN (hI85 (stg19 h)) 10 12 true) 87 4) 10 13 true) a_ 2) Q from ⟨96, rfl, (Eq.trans (Eq.trans uN_D ((nw_D (by omega)).trans (Eq.trans uN_D ((dhI85 (by omega)).trans (dstg19 (by omega)))))) (hd 96 (by decide) (by decide))), by decide, by decide, by decide, ?_⟩)
  show Go (d + 2) false 111 145 [.ref 10, mk_] [.ref 96, .ref 10] (nwH (uN (nwH (uN (hI85 (stg19 h)) 10 12 true) 87 4) 10 13 true) 96 2) Q
  refine exf_go 4 (show ∃ a_, K0 a_ = 27 ∧ rD (uN (nwH (uN (nwH (uN (hI85 (stg19 h)) 10 12 true) 87 4) 10 13 true) 96 2) 10 14 true) a_ = false ∧ ¬ (2 : Int32) < 0 ∧ (L0 a_ = 0 ∨ L0 a_ = (2 : Int32).toNatClampNeg) ∧ (2 : Int32).toNatClampNeg ≤ 1000000 ∧ Go (d + 2) false 111 153 [.ref 10, mk_] [.ref a_, .ref 10] (nwH (uN (nwH (uN (nwH (uN (hI85 (stg19 h)) 10 12 true) 87 4) 10 13 true) 96 2) 10 14 true) a_ 2) Q from ⟨97, rfl, (Eq.trans (Eq.trans uN_D ((nw_D (by omega)).trans (Eq.trans uN_D ((nw_D (by omega)).trans (Eq.trans uN_D ((dhI85 (by omega)).trans (dstg19 (by omega)))))))) (hd 97 (by decide) (by decide))), by decide, by decide, by decide, ?_⟩)
  show Go (d + 2) false 111 153 [.ref 10, mk_] [.ref 97, .ref 10] (nwH (uN (nwH (uN (nwH (uN (hI85 (stg19 h)) 10 12 true) 87 4) 10 13 true) 96 2) 10 14 true) 97 2) Q
  refine exf_go 4 (show ∃ a_, K0 a_ = 20 ∧ rD (uN (nwH (uN (nwH (uN (nwH (uN (hI85 (stg19 h)) 10 12 true) 87 4) 10 13 true) 96 2) 10 14 true) 97 2) 10 15 true) a_ = false ∧ ¬ (1 : Int32) < 0 ∧ (L0 a_ = 0 ∨ L0 a_ = (1 : Int32).toNatClampNeg) ∧ (1 : Int32).toNatClampNeg ≤ 1000000 ∧ Go (d + 2) false 111 160 [.ref 10, mk_] [.ref a_, .ref 10] (nwH (uN (nwH (uN (nwH (uN (nwH (uN (hI85 (stg19 h)) 10 12 true) 87 4) 10 13 true) 96 2) 10 14 true) 97 2) 10 15 true) a_ 1) Q from ⟨98, rfl, (Eq.trans (Eq.trans uN_D ((nw_D (by omega)).trans (Eq.trans uN_D ((nw_D (by omega)).trans (Eq.trans uN_D ((nw_D (by omega)).trans (Eq.trans uN_D ((dhI85 (by omega)).trans (dstg19 (by omega)))))))))) (hd 98 (by decide) (by decide))), by decide, by decide, by decide, ?_⟩)
  show Go (d + 2) false 111 160 [.ref 10, mk_] [.ref 98, .ref 10] (nwH (uN (nwH (uN (nwH (uN (nwH (uN (hI85 (stg19 h)) 10 12 true) 87 4) 10 13 true) 96 2) 10 14 true) 97 2) 10 15 true) 98 1) Q
  refine exf_go 6 (show (4 ≤ (0 : Int32) → Go (d + 2) false 111 189 [.ref 10, .int 0] [] (uN (nwH (uN (nwH (uN (nwH (uN (nwH (uN (hI85 (stg19 h)) 10 12 true) 87 4) 10 13 true) 96 2) 10 14 true) 97 2) 10 15 true) 98 1) 10 16 true) Q) ∧ (¬ (4 ≤ (0 : Int32)) → Go (d + 2) false 111 170 [.ref 10, .int 0] [] (uN (nwH (uN (nwH (uN (nwH (uN (nwH (uN (hI85 (stg19 h)) 10 12 true) 87 4) 10 13 true) 96 2) 10 14 true) 97 2) 10 15 true) 98 1) 10 16 true) Q) from ⟨fun c1 => ?_, fun c1 => ?_⟩)
  · skip
    exact absurd c1 (by decide)
  · skip
    refine exf_go 4 (show rN (uN (nwH (uN (nwH (uN (nwH (uN (nwH (uN (hI85 (stg19 h)) 10 12 true) 87 4) 10 13 true) 96 2) 10 14 true) 97 2) 10 15 true) 98 1) 10 16 true) 10 13 = true ∧ (∃ a_, K0 a_ = 10 ∧ rD (uN (nwH (uN (nwH (uN (nwH (uN (nwH (uN (hI85 (stg19 h)) 10 12 true) 87 4) 10 13 true) 96 2) 10 14 true) 97 2) 10 15 true) 98 1) 10 16 true) a_ = false ∧ Go (d + 2) false 111 178 [.ref 10, .int 0] [.ref a_, .int 0, .ref 87] (nwH (uN (nwH (uN (nwH (uN (nwH (uN (nwH (uN (hI85 (stg19 h)) 10 12 true) 87 4) 10 13 true) 96 2) 10 14 true) 97 2) 10 15 true) 98 1) 10 16 true) a_ 3) Q) from ⟨rfl, ⟨88, rfl, (Eq.trans (Eq.trans uN_D ((nw_D (by omega)).trans (Eq.trans uN_D ((nw_D (by omega)).trans (Eq.trans uN_D ((nw_D (by omega)).trans (Eq.trans uN_D ((nw_D (by omega)).trans (Eq.trans uN_D ((dhI85 (by omega)).trans (dstg19 (by omega)))))))))))) (hd 88 (by decide) (by decide))), ?_⟩⟩)
    show Go (d + 2) false 111 178 [.ref 10, .int 0] [.ref 88, .int 0, .ref 87] (nwH (uN (nwH (uN (nwH (uN (nwH (uN (nwH (uN (hI85 (stg19 h)) 10 12 true) 87 4) 10 13 true) 96 2) 10 14 true) 97 2) 10 15 true) 98 1) 10 16 true) 88 3) Q
    refine exf_go 2 (show wpC (d + 2) false 101 [.ref 88] (nwH (uN (nwH (uN (nwH (uN (nwH (uN (nwH (uN (hI85 (stg19 h)) 10 12 true) 87 4) 10 13 true) 96 2) 10 14 true) 97 2) 10 15 true) 98 1) 10 16 true) 88 3) (fun _ h' => Go (d + 2) false 111 182 [.ref 10, .int 0] [.ref 88, .int 0, .ref 87] h' Q) from ?_)
    refine c_i88 (h := stg20 h) (fun b u v => (dstg20 (by omega)).trans (hd b (by omega) (by omega))) ?_
    show Go (d + 2) false 111 182 [.ref 10, .int 0] [.ref 88, .int 0, .ref 87] (hI88 (stg20 h)) Q
    refine exf_go 2 (show vp_in 0 4 ∧ 88 = R0 87 0 ∧ (Go (d + 2) false 111 186 [.ref 10, .int (0 + 1)] [] (uN (hI88 (stg20 h)) 87 0 true) Q) from ⟨(vp_in_nI (n := 0) (by decide) (by decide)), rfl, ?_⟩)
    rw [show (0 + 1 : Int32) = 1 from by decide]
    refine exf_go 4 (show (4 ≤ (1 : Int32) → Go (d + 2) false 111 189 [.ref 10, .int 1] [] (uN (hI88 (stg20 h)) 87 0 true) Q) ∧ (¬ (4 ≤ (1 : Int32)) → Go (d + 2) false 111 170 [.ref 10, .int 1] [] (uN (hI88 (stg20 h)) 87 0 true) Q) from ⟨fun c2 => ?_, fun c2 => ?_⟩)
    · skip
      exact absurd c2 (by decide)
    · skip
      refine exf_go 4 (show rN (uN (hI88 (stg20 h)) 87 0 true) 10 13 = true ∧ (∃ a_, K0 a_ = 10 ∧ rD (uN (hI88 (stg20 h)) 87 0 true) a_ = false ∧ Go (d + 2) false 111 178 [.ref 10, .int 1] [.ref a_, .int 1, .ref 87] (nwH (uN (hI88 (stg20 h)) 87 0 true) a_ 3) Q) from ⟨rfl, ⟨90, rfl, (Eq.trans (Eq.trans uN_D ((dhI88 (by omega)).trans (dstg20 (by omega)))) (hd 90 (by decide) (by decide))), ?_⟩⟩)
      show Go (d + 2) false 111 178 [.ref 10, .int 1] [.ref 90, .int 1, .ref 87] (nwH (uN (hI88 (stg20 h)) 87 0 true) 90 3) Q
      refine exf_go 2 (show wpC (d + 2) false 101 [.ref 90] (nwH (uN (hI88 (stg20 h)) 87 0 true) 90 3) (fun _ h' => Go (d + 2) false 111 182 [.ref 10, .int 1] [.ref 90, .int 1, .ref 87] h' Q) from ?_)
      refine c_i90 (h := stg21 h) (fun b u v => (dstg21 (by omega)).trans (hd b (by omega) (by omega))) ?_
      show Go (d + 2) false 111 182 [.ref 10, .int 1] [.ref 90, .int 1, .ref 87] (hI90 (stg21 h)) Q
      refine exf_go 2 (show vp_in 1 4 ∧ 90 = R0 87 1 ∧ (Go (d + 2) false 111 186 [.ref 10, .int (1 + 1)] [] (uN (hI90 (stg21 h)) 87 1 true) Q) from ⟨(vp_in_nI (n := 1) (by decide) (by decide)), rfl, ?_⟩)
      rw [show (1 + 1 : Int32) = 2 from by decide]
      refine exf_go 4 (show (4 ≤ (2 : Int32) → Go (d + 2) false 111 189 [.ref 10, .int 2] [] (uN (hI90 (stg21 h)) 87 1 true) Q) ∧ (¬ (4 ≤ (2 : Int32)) → Go (d + 2) false 111 170 [.ref 10, .int 2] [] (uN (hI90 (stg21 h)) 87 1 true) Q) from ⟨fun c3 => ?_, fun c3 => ?_⟩)
      · skip
        exact absurd c3 (by decide)
      · skip
        refine exf_go 4 (show rN (uN (hI90 (stg21 h)) 87 1 true) 10 13 = true ∧ (∃ a_, K0 a_ = 10 ∧ rD (uN (hI90 (stg21 h)) 87 1 true) a_ = false ∧ Go (d + 2) false 111 178 [.ref 10, .int 2] [.ref a_, .int 2, .ref 87] (nwH (uN (hI90 (stg21 h)) 87 1 true) a_ 3) Q) from ⟨rfl, ⟨92, rfl, (Eq.trans (Eq.trans uN_D ((dhI90 (by omega)).trans (dstg21 (by omega)))) (hd 92 (by decide) (by decide))), ?_⟩⟩)
        show Go (d + 2) false 111 178 [.ref 10, .int 2] [.ref 92, .int 2, .ref 87] (nwH (uN (hI90 (stg21 h)) 87 1 true) 92 3) Q
        refine exf_go 2 (show wpC (d + 2) false 101 [.ref 92] (nwH (uN (hI90 (stg21 h)) 87 1 true) 92 3) (fun _ h' => Go (d + 2) false 111 182 [.ref 10, .int 2] [.ref 92, .int 2, .ref 87] h' Q) from ?_)
        refine c_i92 (h := stg22 h) (fun b u v => (dstg22 (by omega)).trans (hd b (by omega) (by omega))) ?_
        show Go (d + 2) false 111 182 [.ref 10, .int 2] [.ref 92, .int 2, .ref 87] (hI92 (stg22 h)) Q
        refine exf_go 2 (show vp_in 2 4 ∧ 92 = R0 87 2 ∧ (Go (d + 2) false 111 186 [.ref 10, .int (2 + 1)] [] (uN (hI92 (stg22 h)) 87 2 true) Q) from ⟨(vp_in_nI (n := 2) (by decide) (by decide)), rfl, ?_⟩)
        rw [show (2 + 1 : Int32) = 3 from by decide]
        refine exf_go 4 (show (4 ≤ (3 : Int32) → Go (d + 2) false 111 189 [.ref 10, .int 3] [] (uN (hI92 (stg22 h)) 87 2 true) Q) ∧ (¬ (4 ≤ (3 : Int32)) → Go (d + 2) false 111 170 [.ref 10, .int 3] [] (uN (hI92 (stg22 h)) 87 2 true) Q) from ⟨fun c4 => ?_, fun c4 => ?_⟩)
        · skip
          exact absurd c4 (by decide)
        · skip
          refine exf_go 4 (show rN (uN (hI92 (stg22 h)) 87 2 true) 10 13 = true ∧ (∃ a_, K0 a_ = 10 ∧ rD (uN (hI92 (stg22 h)) 87 2 true) a_ = false ∧ Go (d + 2) false 111 178 [.ref 10, .int 3] [.ref a_, .int 3, .ref 87] (nwH (uN (hI92 (stg22 h)) 87 2 true) a_ 3) Q) from ⟨rfl, ⟨94, rfl, (Eq.trans (Eq.trans uN_D ((dhI92 (by omega)).trans (dstg22 (by omega)))) (hd 94 (by decide) (by decide))), ?_⟩⟩)
          show Go (d + 2) false 111 178 [.ref 10, .int 3] [.ref 94, .int 3, .ref 87] (nwH (uN (hI92 (stg22 h)) 87 2 true) 94 3) Q
          refine exf_go 2 (show wpC (d + 2) false 101 [.ref 94] (nwH (uN (hI92 (stg22 h)) 87 2 true) 94 3) (fun _ h' => Go (d + 2) false 111 182 [.ref 10, .int 3] [.ref 94, .int 3, .ref 87] h' Q) from ?_)
          refine c_i94 (h := stg23 h) (fun b u v => (dstg23 (by omega)).trans (hd b (by omega) (by omega))) ?_
          show Go (d + 2) false 111 182 [.ref 10, .int 3] [.ref 94, .int 3, .ref 87] (hI94 (stg23 h)) Q
          refine exf_go 2 (show vp_in 3 4 ∧ 94 = R0 87 3 ∧ (Go (d + 2) false 111 186 [.ref 10, .int (3 + 1)] [] (uN (hI94 (stg23 h)) 87 3 true) Q) from ⟨(vp_in_nI (n := 3) (by decide) (by decide)), rfl, ?_⟩)
          rw [show (3 + 1 : Int32) = 4 from by decide]
          refine exf_go 4 (show (4 ≤ (4 : Int32) → Go (d + 2) false 111 189 [.ref 10, .int 4] [] (uN (hI94 (stg23 h)) 87 3 true) Q) ∧ (¬ (4 ≤ (4 : Int32)) → Go (d + 2) false 111 170 [.ref 10, .int 4] [] (uN (hI94 (stg23 h)) 87 3 true) Q) from ⟨fun c5 => ?_, fun c5 => ?_⟩)
          · skip
            refine exf_go 1 (show Q (mk_) (uN (hI94 (stg23 h)) 87 3 true) from ?_)
            exact k
          · skip
            exact absurd (by decide) c5
