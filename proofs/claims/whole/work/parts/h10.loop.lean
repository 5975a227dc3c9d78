/-! The law: all calls. -/
def QL : Po := fun r h' => r = .int 1 ∧ rC h' ≤ 600000 ∧ rS h' ≤ 7302250
theorem lw_loop {d : Nat} {xs : Nat → Int32} {L : Nat} (hL : L ≤ 3072) : ∀ (k i : Nat) (s : LwG) (h : Hp), L + 10 - i < k → i < 4000 → IC xs L s h → IMo s h → SB s → Go (d + 150) true 0 18 [.ref 0, .ref 10, .ref 130, .int (nI i)] [] h QL := by
  intro k
  induction k with
  | zero => intro i s h hk; exact absurd hk (Nat.not_lt_zero _)
  | succ k ih =>
    intro i s h hk hi4 ic im sb
    refine exf_go 3 (show Go (d + 150) true 0 21 [.ref 0, .ref 10, .ref 130, .int (nI i)] [.int (nI (al h 0)), .int (nI i)] h QL from ?_)
    rw [show (nI (al h 0) : Int32) = nI L from congrArg nI (show al h 0 = L from ic.1.2.2)]
    refine exf_go 3 (show (((nI L) - 6) < (nI i) → Go (d + 150) true 0 1435 [.ref 0, .ref 10, .ref 130, .int (nI i)] [] h QL) ∧ (¬ (((nI L) - 6) < (nI i)) → Go (d + 150) true 0 27 [.ref 0, .ref 10, .ref 130, .int (nI i)] [] h QL) from ⟨fun c1 => ?_, fun c1 => ?_⟩)
    · skip
      refine exf_go 2 (show ((1 : Int32) = 0 ∨ (1 : Int32) = 1) ∧ QL (.int 1) h from ⟨(by first | exact Or.inl rfl | exact Or.inr rfl | assumption), ?_⟩)
      exact ⟨rfl, by have := ic.2.2.2.2.2.2.2.1; omega, by have := ic.2.2.2.2.2.2.2.2; omega⟩
    · skip
      have hi : i + 6 ≤ L := by
        rcases Nat.lt_or_ge L (i + 6) with z | z
        · exact absurd (show (nI L) - 6 < nI i from by rw [Int32.lt_iff_toInt_lt, show (6 : Int32) = nI 6 from rfl, nI_subi (by omega) (by omega), nI_toInt (by omega)]; omega) c1
        · exact z
      have K : ∀ s2 h2, IC xs L s2 h2 → IMo s2 h2 → SB s2 → Go (d + 150) true 0 1429 [.ref 0, .ref 10, .ref 130, .int (nI i)] [] h2 QL := by
        intro s2 h2 ic2 im2 sb2
        refine exf_go 2 (show Go (d + 150) true 0 18 [.ref 0, .ref 10, .ref 130, .int ((nI i) + 6)] [] h2 QL from ?_)
        rw [show ((nI i) + 6 : Int32) = nI (i + 6) from nI_add i 6]
        exact ih (i + 6) s2 h2 (by omega) (by omega) ic2 im2 sb2
      refine exf_go 3 (show vp_in (nI i) (al h 0) ∧ (Go (d + 150) true 0 30 [.ref 0, .ref 10, .ref 130, .int (nI i)] [.int (rI h 0 ((nI i).toNatClampNeg))] h QL) from ⟨(show vp_in (nI i) (rL h 0) from by rw [ic.1.2.2]; exact vp_in_nI (by omega) (by omega)), ?_⟩)
      rw [show (rI h 0 ((nI i).toNatClampNeg) : Int32) = xs (i) from by rw [nI_clamp (by omega), ic.1.2.1]]
      refine exf_go 3 (show (((xs (i)) &&& 63).toInt < 0 ∨ 42 < ((xs (i)) &&& 63).toInt → Go (d + 150) true 0 1429 [.ref 0, .ref 10, .ref 130, .int (nI i)] [] h QL) ∧ (((xs (i)) &&& 63).toInt = 0 → Go (d + 150) true 0 220 [.ref 0, .ref 10, .ref 130, .int (nI i)] [] h QL) ∧ (((xs (i)) &&& 63).toInt = 1 → Go (d + 150) true 0 283 [.ref 0, .ref 10, .ref 130, .int (nI i)] [] h QL) ∧ (((xs (i)) &&& 63).toInt = 2 → Go (d + 150) true 0 306 [.ref 0, .ref 10, .ref 130, .int (nI i)] [] h QL) ∧ (((xs (i)) &&& 63).toInt = 3 → Go (d + 150) true 0 329 [.ref 0, .ref 10, .ref 130, .int (nI i)] [] h QL) ∧ (((xs (i)) &&& 63).toInt = 4 → Go (d + 150) true 0 362 [.ref 0, .ref 10, .ref 130, .int (nI i)] [] h QL) ∧ (((xs (i)) &&& 63).toInt = 5 → Go (d + 150) true 0 395 [.ref 0, .ref 10, .ref 130, .int (nI i)] [] h QL) ∧ (((xs (i)) &&& 63).toInt = 6 → Go (d + 150) true 0 428 [.ref 0, .ref 10, .ref 130, .int (nI i)] [] h QL) ∧ (((xs (i)) &&& 63).toInt = 7 → Go (d + 150) true 0 452 [.ref 0, .ref 10, .ref 130, .int (nI i)] [] h QL) ∧ (((xs (i)) &&& 63).toInt = 8 → Go (d + 150) true 0 465 [.ref 0, .ref 10, .ref 130, .int (nI i)] [] h QL) ∧ (((xs (i)) &&& 63).toInt = 9 → Go (d + 150) true 0 479 [.ref 0, .ref 10, .ref 130, .int (nI i)] [] h QL) ∧ (((xs (i)) &&& 63).toInt = 10 → Go (d + 150) true 0 502 [.ref 0, .ref 10, .ref 130, .int (nI i)] [] h QL) ∧ (((xs (i)) &&& 63).toInt = 11 → Go (d + 150) true 0 536 [.ref 0, .ref 10, .ref 130, .int (nI i)] [] h QL) ∧ (((xs (i)) &&& 63).toInt = 12 → Go (d + 150) true 0 560 [.ref 0, .ref 10, .ref 130, .int (nI i)] [] h QL) ∧ (((xs (i)) &&& 63).toInt = 13 → Go (d + 150) true 0 594 [.ref 0, .ref 10, .ref 130, .int (nI i)] [] h QL) ∧ (((xs (i)) &&& 63).toInt = 14 → Go (d + 150) true 0 607 [.ref 0, .ref 10, .ref 130, .int (nI i)] [] h QL) ∧ (((xs (i)) &&& 63).toInt = 15 → Go (d + 150) true 0 630 [.ref 0, .ref 10, .ref 130, .int (nI i)] [] h QL) ∧ (((xs (i)) &&& 63).toInt = 16 → Go (d + 150) true 0 653 [.ref 0, .ref 10, .ref 130, .int (nI i)] [] h QL) ∧ (((xs (i)) &&& 63).toInt = 17 → Go (d + 150) true 0 686 [.ref 0, .ref 10, .ref 130, .int (nI i)] [] h QL) ∧ (((xs (i)) &&& 63).toInt = 18 → Go (d + 150) true 0 709 [.ref 0, .ref 10, .ref 130, .int (nI i)] [] h QL) ∧ (((xs (i)) &&& 63).toInt = 19 → Go (d + 150) true 0 742 [.ref 0, .ref 10, .ref 130, .int (nI i)] [] h QL) ∧ (((xs (i)) &&& 63).toInt = 20 → Go (d + 150) true 0 765 [.ref 0, .ref 10, .ref 130, .int (nI i)] [] h QL) ∧ (((xs (i)) &&& 63).toInt = 21 → Go (d + 150) true 0 798 [.ref 0, .ref 10, .ref 130, .int (nI i)] [] h QL) ∧ (((xs (i)) &&& 63).toInt = 22 → Go (d + 150) true 0 831 [.ref 0, .ref 10, .ref 130, .int (nI i)] [] h QL) ∧ (((xs (i)) &&& 63).toInt = 23 → Go (d + 150) true 0 844 [.ref 0, .ref 10, .ref 130, .int (nI i)] [] h QL) ∧ (((xs (i)) &&& 63).toInt = 24 → Go (d + 150) true 0 867 [.ref 0, .ref 10, .ref 130, .int (nI i)] [] h QL) ∧ (((xs (i)) &&& 63).toInt = 25 → Go (d + 150) true 0 890 [.ref 0, .ref 10, .ref 130, .int (nI i)] [] h QL) ∧ (((xs (i)) &&& 63).toInt = 26 → Go (d + 150) true 0 913 [.ref 0, .ref 10, .ref 130, .int (nI i)] [] h QL) ∧ (((xs (i)) &&& 63).toInt = 27 → Go (d + 150) true 0 947 [.ref 0, .ref 10, .ref 130, .int (nI i)] [] h QL) ∧ (((xs (i)) &&& 63).toInt = 28 → Go (d + 150) true 0 980 [.ref 0, .ref 10, .ref 130, .int (nI i)] [] h QL) ∧ (((xs (i)) &&& 63).toInt = 29 → Go (d + 150) true 0 1004 [.ref 0, .ref 10, .ref 130, .int (nI i)] [] h QL) ∧ (((xs (i)) &&& 63).toInt = 30 → Go (d + 150) true 0 1037 [.ref 0, .ref 10, .ref 130, .int (nI i)] [] h QL) ∧ (((xs (i)) &&& 63).toInt = 31 → Go (d + 150) true 0 1081 [.ref 0, .ref 10, .ref 130, .int (nI i)] [] h QL) ∧ (((xs (i)) &&& 63).toInt = 32 → Go (d + 150) true 0 1104 [.ref 0, .ref 10, .ref 130, .int (nI i)] [] h QL) ∧ (((xs (i)) &&& 63).toInt = 33 → Go (d + 150) true 0 1137 [.ref 0, .ref 10, .ref 130, .int (nI i)] [] h QL) ∧ (((xs (i)) &&& 63).toInt = 34 → Go (d + 150) true 0 1150 [.ref 0, .ref 10, .ref 130, .int (nI i)] [] h QL) ∧ (((xs (i)) &&& 63).toInt = 35 → Go (d + 150) true 0 1173 [.ref 0, .ref 10, .ref 130, .int (nI i)] [] h QL) ∧ (((xs (i)) &&& 63).toInt = 36 → Go (d + 150) true 0 1197 [.ref 0, .ref 10, .ref 130, .int (nI i)] [] h QL) ∧ (((xs (i)) &&& 63).toInt = 37 → Go (d + 150) true 0 1220 [.ref 0, .ref 10, .ref 130, .int (nI i)] [] h QL) ∧ (((xs (i)) &&& 63).toInt = 38 → Go (d + 150) true 0 1263 [.ref 0, .ref 10, .ref 130, .int (nI i)] [] h QL) ∧ (((xs (i)) &&& 63).toInt = 39 → Go (d + 150) true 0 1337 [.ref 0, .ref 10, .ref 130, .int (nI i)] [] h QL) ∧ (((xs (i)) &&& 63).toInt = 40 → Go (d + 150) true 0 1360 [.ref 0, .ref 10, .ref 130, .int (nI i)] [] h QL) ∧ (((xs (i)) &&& 63).toInt = 41 → Go (d + 150) true 0 1383 [.ref 0, .ref 10, .ref 130, .int (nI i)] [] h QL) ∧ (((xs (i)) &&& 63).toInt = 42 → Go (d + 150) true 0 1406 [.ref 0, .ref 10, .ref 130, .int (nI i)] [] h QL) ∧ True from ⟨fun c2 => ?_, fun c2 => ?_, fun c2 => ?_, fun c2 => ?_, fun c2 => ?_, fun c2 => ?_, fun c2 => ?_, fun c2 => ?_, fun c2 => ?_, fun c2 => ?_, fun c2 => ?_, fun c2 => ?_, fun c2 => ?_, fun c2 => ?_, fun c2 => ?_, fun c2 => ?_, fun c2 => ?_, fun c2 => ?_, fun c2 => ?_, fun c2 => ?_, fun c2 => ?_, fun c2 => ?_, fun c2 => ?_, fun c2 => ?_, fun c2 => ?_, fun c2 => ?_, fun c2 => ?_, fun c2 => ?_, fun c2 => ?_, fun c2 => ?_, fun c2 => ?_, fun c2 => ?_, fun c2 => ?_, fun c2 => ?_, fun c2 => ?_, fun c2 => ?_, fun c2 => ?_, fun c2 => ?_, fun c2 => ?_, fun c2 => ?_, fun c2 => ?_, fun c2 => ?_, fun c2 => ?_, fun c2 => ?_, trivial⟩)
      · skip
        exact K s h ic im sb
      · skip
        exact lw_feed hL hi ic im sb K
      · skip
        exact lw_shed hL hi ic im sb K
      · skip
        exact lw_fault hL hi ic im sb K
      · skip
        exact lw_wheel hL hi ic im sb K
      · skip
        exact lw_holds hL hi ic im sb K
      · skip
        exact lw_figure hL hi ic im sb K
      · skip
        exact lw_likely hL hi ic im sb K
      · skip
        exact lw_left hL hi ic im sb K
      · skip
        exact lw_all hL hi ic im sb K
      · skip
        exact lw_order hL hi ic im sb K
      · skip
        exact lw_chance hL hi ic im sb K
      · skip
        exact lw_mean hL hi ic im sb K
      · skip
        exact lw_tells hL hi ic im sb K
      · skip
        exact lw_telling hL hi ic im sb K
      · skip
        exact lw_but hL hi ic im sb K
      · skip
        exact lw_tries hL hi ic im sb K
      · skip
        exact lw_feel hL hi ic im sb K
      · skip
        exact lw_undo hL hi ic im sb K
      · skip
        exact lw_judge hL hi ic im sb K
      · skip
        exact lw_perform hL hi ic im sb K
      · skip
        exact lw_year hL hi ic im sb K
      · skip
        exact lw_steps hL hi ic im sb K
      · skip
        exact lw_nearest hL hi ic im sb K
      · skip
        exact lw_through hL hi ic im sb K
      · skip
        exact lw_along hL hi ic im sb K
      · skip
        exact lw_length hL hi ic im sb K
      · skip
        exact lw_best hL hi ic im sb K
      · skip
        exact lw_shortest hL hi ic im sb K
      · skip
        exact lw_saw hL hi ic im sb K
      · skip
        exact lw_mate hL hi ic im sb K
      · skip
        exact lw_guarded hL hi ic im sb K
      · skip
        exact lw_danger hL hi ic im sb K
      · skip
        exact lw_both hL hi ic im sb K
      · skip
        exact lw_hidden hL hi ic im sb K
      · skip
        exact lw_who hL hi ic im sb K
      · skip
        exact lw_rows hL hi ic im sb K
      · skip
        exact lw_near hL hi ic im sb K
      · skip
        exact lw_numbers hL hi ic im sb K
      · skip
        exact lw_write hL hi ic im sb K
      · skip
        exact lw_copy hL hi ic im sb K
      · skip
        exact lw_image hL hi ic im sb K
      · skip
        exact lw_restore hL hi ic im sb K
      · skip
        exact lw_count hL hi ic im sb K
theorem law_am : LawAM 160 := by
  intro xs L hL
  show Go 160 false 0 0 [.ref 0, mk_, mk_, mk_] [] (h00 xs L) QL
  refine exf_go 1 (show ∃ a_, K0 a_ = 11 ∧ rD (h00 xs L) a_ = false ∧ Go 160 false 0 3 [.ref 0, mk_, mk_, mk_] [.ref a_] (nwH (h00 xs L) a_ 18) QL from ⟨10, rfl, rfl, ?_⟩)
  refine exf_go 2 (show wpC 160 false 111 [.ref 10] (nwH (h00 xs L) 10 18) (fun _ h' => Go 160 false 0 7 [.ref 0, mk_, mk_, mk_] [.ref 10] h' QL) from ?_)
  refine c_i10 (d := 157) (h := nwH (h00 xs L) 10 18) (fun b u v => (nw_D (by omega)).trans rfl) ?_
  show Go 160 false 0 7 [.ref 0, mk_, mk_, mk_] [.ref 10] (hI10 (nwH (h00 xs L) 10 18)) QL
  refine exf_go 2 (show ∃ a_, K0 a_ = 12 ∧ rD (hI10 (nwH (h00 xs L) 10 18)) a_ = false ∧ Go 160 false 0 11 [.ref 0, .ref 10, mk_, mk_] [.ref a_] (nwH (hI10 (nwH (h00 xs L) 10 18)) a_ 38) QL from ⟨130, rfl, (dhI10 (by omega)).trans ((nw_D (by omega)).trans rfl), ?_⟩)
  refine exf_go 2 (show wpC 160 false 184 [.ref 130] (nwH (hI10 (nwH (h00 xs L) 10 18)) 130 38) (fun _ h' => Go 160 false 0 15 [.ref 0, .ref 10, mk_, mk_] [.ref 130] h' QL) from ?_)
  refine c_i130 (d := 158) (h := nwH (hI10 (nwH (h00 xs L) 10 18)) 130 38) (fun b u v => (nw_D (by omega)).trans ((dhI10 (by omega)).trans ((nw_D (by omega)).trans rfl))) (fun h1 q1 pl => ?_)
  show Go 160 false 0 15 [.ref 0, .ref 10, mk_, mk_] [.ref 130] h1 QL
  have eN : rN h1 = rN (HH xs L) := congrArg (·.2.1) q1.2
  have eD : rD h1 = rD (HH xs L) := congrArg (·.2.2.1) q1.2
  refine exf_go 2 (show (∀ a k, N0 a k = true → rD h1 a = true ∧ rN h1 a k = true) ∧ Go 160 true 0 17 [.ref 0, .ref 10, .ref 130, mk_] [.int 0] h1 QL from ⟨by rw [eN, eD]; exact n0_all xs L, ?_⟩)
  refine exf_go 1 (show Go 160 true 0 18 [.ref 0, .ref 10, .ref 130, .int (nI 0)] [] h1 QL from ?_)
  exact lw_loop (d := 10) hL (L + 11) 0 s00 h1 (by omega) (by omega) (hh_ic hL q1) (hh_im q1 pl) hh_sb
