/-! The class: a lock begins. -/
def l0 (a : Nat) : LkG := (a, 0, 0, 0, fun _ => 1023, fun _ => 0)
def sBg (a i : Nat) : Bool := (Nat.ble 39 a && Nat.ble a 41) || Nat.beq a 99 || sCe a i
theorem sCe_B (a i : Nat) (e : sBg a i = false) : sCe a i = false := (Bool.or_eq_false_iff.mp e).2
theorem sBg_f {a i : Nat} (h1 : 31 ≤ a) (h2 : a ≤ 38) : sBg a i = false := by
  unfold sBg sCe sLk sSt
  rw [ble_no (x := 39) (by omega), beq_no (y := 99) (by omega), beq_no (y := 22) (by omega), beq_no (y := 17) (by omega), beq_no (y := 21) (by omega)]
  rfl
theorem cf_gq {g : ShG} {o : CdG} {h h1 : Hp} (cf : CF g o h) (r : Gq sBg h h1) : CF g o h1 := ⟨cf.1, (r.1 17 4 rfl).1.trans cf.2.1, fun c hc => (r.1 20 c rfl).1.trans (cf.2.2.1 c hc), fun j hj => ⟨(r.1 18 j rfl).1.trans (cf.2.2.2 j hj).1, (r.1 19 j rfl).1.trans (cf.2.2.2 j hj).2⟩⟩
theorem cs_bg {g : ShG} {h h1 : Hp} (cs : CS 31 g h) (r : Gq sBg h h1) : CS 31 g h1 := cs_same cs (fun _ u v => r.I (fun _ => sBg_f u v))
theorem bt1023 : ∀ x, x < 10 → btn 1023 x = 1 := by decide
theorem ft1023 : ∀ x, x ≤ 10 → 1023 % 2 ^ x = 2 ^ x - 1 := by decide
theorem cel_00 {g : ShG} (hg : ShW g) (a n : Nat) : cel g (l0 a) n = sH g n + 1024 * nol g n := by
  have e : agA g (l0 a) n = 1 := agr_all (sW g) (fun u _ => bt1023 _ (f10 hg n u))
  unfold cel
  rw [e]
  show sH g n + 256 * 0 + 512 * (1 - 1) + 1024 * nol g n = _
  omega
theorem hlds_b (g : ShG) (o : CdG) (n : Nat) : hlds g o n < 2 ^ sC g := msk_b _ _
def gH (g : ShG) (o : CdG) : ShG := gHo g (hlds g o)
theorem wf_gH {g : ShG} (h : ShW g) (o : CdG) : ShW (gH g o) := wf_ho h (hlds_b g o)
theorem wt_gH (g : ShG) (o : CdG) (kn m : Nat) : ∀ c, wt (gH g o) kn m c = wt g kn m c
  | 0 => rfl
  | c + 1 => by rw [wt, wt, wt_gH g o kn m c]; rfl
theorem wtA_gH (g : ShG) (o : CdG) (m : Nat) : wtA (gH g o) m = wtA g m := wt_gH g o (evr g) m (sC g)
theorem cs_gH {z : Nat} {g : ShG} {h : Hp} (cs : CS z g h) (o : CdG) : CS z (gH g o) h := by
  obtain ⟨w0, c1, c2, c3, c4, c5, c6, c7, c8, c9, c10, c11, c12, c13, c14⟩ := cs
  exact ⟨wf_gH w0 o, c1, c2, c3, c4, c5, c6, c7, c8, c9, c10, c11, c12, fun m hm => (c13 m hm).trans (by rw [wtA_gH]), c14⟩
theorem lk_0 {g : ShG} {a : Nat} (h : a < tot g) : LkW g (l0 a) := ⟨h, Nat.zero_le _, fun _ => Nat.zero_le _, fun _ => by show 1023 < 1024; decide⟩
theorem c_begin {d : Nat} {h : Hp} {g : ShG} {o : CdG} {a : Nat} {Q : Po} (wf : WF h) (cs : CS 31 g h) (cf : CF g o h) (h16 : rI h 31 16 = nI a) (ha : a < tot g) (k : ∀ h1, Gq sBg h h1 → CL 39 (gH g o) (l0 a) h1 → Q mk_ h1) : wpC (d + 6) true 27 [.ref 39, .ref 31, .ref 17] h Q := by
  have hN := tot_b cs.1; have h4 := cs.1.1; have he := evr_b cs.1
  refine go_in rfl ?_
  have X23 : ∀ (h1 : Hp), (Gq sBg h h1) → (tot g ≤ rL h1 40) → (rI h1 39 1 = nI (tot g)) → Go (d + 5) true 27 23 [.ref 39, .ref 31, .ref 17, mk_, mk_] [] h1 Q := by
    intro h1 g1 hal hs1
    refine exf_go 2 (show Go (d + 5) true 27 25 [.ref 39, .ref 31, .ref 17, .int 0, mk_] [] h1 Q from ?_)
    have L25 : ∀ (k25 : Nat) (z4 : Value) (j : Nat) (hL : Hp), (tot g - j) < k25 → (j ≤ tot g) → (Gq sBg h hL) → (tot g ≤ rL hL 40) → (rI hL 39 1 = nI (tot g)) → (∀ i, i < j → rI hL 40 i = nI (cel (gH g o) (l0 a) i)) → Go (d + 5) true 27 25 [.ref 39, .ref 31, .ref 17, .int (nI j), z4] [] hL Q := by
      intro k25
      induction k25 with
      | zero => intro z4 j hL hk; exact absurd hk (Nat.not_lt_zero _)
      | succ k25 ih25 =>
        intro z4 j hL hk hj gL halL hs1 hv
        have csL := cs_bg cs gL; have cfL := cf_gq cf gL; have hl5 := (gL.2.2.2.1 wf).2.1 40
        refine exf_go 3 (show Go (d + 5) true 27 30 [.ref 39, .ref 31, .ref 17, .int (nI j), z4] [.int (rI hL 39 1), .int (nI j)] hL Q from ?_)
        rw [show (rI hL 39 1 : Int32) = nI (tot g) from hs1]
        refine exf_go 1 (show ((nI (tot g)) ≤ (nI j) → Go (d + 5) true 27 74 [.ref 39, .ref 31, .ref 17, .int (nI j), z4] [] hL Q) ∧ (¬ ((nI (tot g)) ≤ (nI j)) → Go (d + 5) true 27 33 [.ref 39, .ref 31, .ref 17, .int (nI j), z4] [] hL Q) from ⟨fun c1 => ?_, fun c1 => ?_⟩)
        · skip
          have c1 : (tot g) ≤ j := (nI_leI (a := (tot g)) (b := j) (by omega) (by omega)).mp c1
          refine exf_go 2 (show Go (d + 5) true 27 76 [.ref 39, .ref 31, .ref 17, .int 0, z4] [] hL Q from ?_)
          have L76 : ∀ (k76 : Nat) (z4 : Value) (u : Nat) (hM : Hp), (4 - u) < k76 → (u ≤ 4) → (Gq sBg h hM) → (tot g ≤ rL hM 40) → (rI hM 39 1 = nI (tot g)) → (∀ i, i < tot g → rI hM 40 i = nI (cel (gH g o) (l0 a) i)) → (∀ i, i < u → rI hM 41 i = nI (2 ^ sF g i - 1)) → Go (d + 5) true 27 76 [.ref 39, .ref 31, .ref 17, .int (nI u), z4] [] hM Q := by
            intro k76
            induction k76 with
            | zero => intro z4 u hM hk; exact absurd hk (Nat.not_lt_zero _)
            | succ k76 ih76 =>
              intro z4 u hM hk hu gM halM hsM hvM hfM
              have csM := cs_bg cs gM; have hFu := sF_b cs.1 u; have hp2 : 1 ≤ 2 ^ sF g u := Nat.pow_pos (by decide); have hlM := (gM.2.2.2.1 wf).2.1 40
              refine exf_go 3 (show (4 ≤ (nI u) → Go (d + 5) true 27 103 [.ref 39, .ref 31, .ref 17, .int (nI u), z4] [] hM Q) ∧ (¬ (4 ≤ (nI u)) → Go (d + 5) true 27 81 [.ref 39, .ref 31, .ref 17, .int (nI u), z4] [] hM Q) from ⟨fun c2 => ?_, fun c2 => ?_⟩)
              · skip
                have c2 : 4 ≤ u := (nI_leI (a := 4) (b := u) (by omega) (by omega)).mp c2
                refine exf_go 3 (show Go (d + 5) true 27 108 [.ref 39, .ref 31, .ref 17, .int (nI u), z4] [.int (rI hM 31 16), .ref 39] hM Q from ?_)
                rw [show (rI hM 31 16 : Int32) = nI a from ((gM.1 31 16 rfl).1.trans h16)]
                refine exf_go 14 (show ((0 : Int32) = 0 ∨ (0 : Int32) = 1) ∧ Q (mk_) (uI (uI (uI (uI (uI hM 39 3 (nI a)) 39 4 0) 39 5 0) 39 6 0) 39 7 0) from ⟨(by first | exact Or.inl rfl | exact Or.inr rfl | assumption), ?_⟩)
                refine k _ (gM.tr (Fq.gq (((((Fq.rfl'.uI' _ _ _ rfl).uI' _ _ _ rfl).uI' _ _ _ rfl).uI' _ _ _ rfl).uI' _ _ _ rfl))) ⟨lk_0 ha, hsM, rfl, rfl, rfl, rfl, ?_, halM, ?_, hvM, fun w hw => ?_⟩
                · show (0 : Int32) = nI (cntN (fun n => (0 : Nat) == 1) (tot g)); rw [cnt_0 (p := fun _ => (0 : Nat) == 1) (fun _ => rfl)]; rfl
                · show rL hM 40 < 2 ^ 31; omega
                · have hw : w < sW g := hw
                  show rI hM 41 w = nI (1023 % 2 ^ sF g w); rw [ft1023 _ (sF_b cs.1 w).2]; exact hfM w (by omega)
              · skip
                have c2 : ¬ 4 ≤ u := fun q => c2 ((nI_leI (a := 4) (b := u) (by omega) (by omega)).mpr q)
                refine exf_go 8 (show vp_in (nI u) 4 ∧ (Go (d + 5) true 27 93 [.ref 39, .ref 31, .ref 17, .int (nI u), z4] [.int (rI hM 32 ((nI u).toNatClampNeg)), .int 1, .int (nI u), .ref 41] hM Q) from ⟨(vp_in_nI (by omega) (by omega)), ?_⟩)
                rw [show (rI hM 32 ((nI u).toNatClampNeg) : Int32) = nI (sF g u) from cs_sF csM (n := u) (by omega)]
                refine exf_go 1 (show Go (d + 5) true 27 94 [.ref 39, .ref 31, .ref 17, .int (nI u), z4] [.int (1 <<< ((nI (sF g u)) &&& 31)), .int (nI u), .ref 41] hM Q from ?_)
                rw [show (1 <<< ((nI (sF g u)) &&& 31) : Int32) = nI (2 ^ (sF g u)) from nI_1shl (k := (sF g u)) (by omega)]
                refine exf_go 2 (show Go (d + 5) true 27 96 [.ref 39, .ref 31, .ref 17, .int (nI u), z4] [.int ((nI (2 ^ (sF g u))) - 1), .int (nI u), .ref 41] hM Q from ?_)
                rw [show ((nI (2 ^ (sF g u))) - 1 : Int32) = nI ((2 ^ (sF g u)) - 1) from pk_sub (a := (2 ^ (sF g u))) (b := 1) (by omega)]
                refine exf_go 2 (show vp_in (nI u) 4 ∧ (Go (d + 5) true 27 100 [.ref 39, .ref 31, .ref 17, .int ((nI u) + 1), z4] [] (uI hM 41 ((nI u).toNatClampNeg) (nI ((2 ^ (sF g u)) - 1))) Q) from ⟨(vp_in_nI (by omega) (by omega)), ?_⟩)
                rw [show ((nI u) + 1 : Int32) = nI (u + 1) from nI_add u 1]
                refine exf_go 1 (show Go (d + 5) true 27 76 [.ref 39, .ref 31, .ref 17, .int (nI (u + 1)), z4] [] (uI hM 41 ((nI u).toNatClampNeg) (nI ((2 ^ (sF g u)) - 1))) Q from ?_)
                exact ih76 z4 (u + 1) _ (by omega) (by omega) (gM.uI' _ _ _ rfl) halM hsM (fun i hi => hvM i hi) (fun i hi => by rw [nI_clamp (by omega)]; exact (Decidable.em (i = u)).elim (fun e => by rw [e, rI_uI_eq]) (fun e => by rw [rI_uI_at e]; exact hfM i (by omega)))
          exact L76 (4 + 1) z4 0 hL (by omega) (by omega) gL halL hs1 (fun i hi => hv i (by omega)) (fun i hi => absurd hi (Nat.not_lt_zero _))
        · skip
          have c1 : ¬ (tot g) ≤ j := fun q => c1 ((nI_leI (a := (tot g)) (b := j) (by omega) (by omega)).mpr q)
          refine exf_go 4 (show wpC (d + 5) true 5 [.ref 17, .ref 31, .int (nI j)] hL (fun r h' => Go (d + 5) true 27 39 [.ref 39, .ref 31, .ref 17, .int (nI j), z4] [r] h' Q) from ?_)
          refine c_maskFor csL cfL (by omega) (fun h2 q2 => ?_)
          have g2 : Gq sBg h h2 := gL.tr (q2.mono sCe_B).gq; have cs2 := cs_bg cs g2; have hal2 : al h2 40 = rL hL 40 := q2.L 40; have hmb := hlds_b g o j; have hwb := wtA_b cs.1 (hlds g o j)
          show Go (d + 5) true 27 39 [.ref 39, .ref 31, .ref 17, .int (nI j), z4] [.int (nI (hlds g o j))] h2 Q
          refine exf_go 8 (show vp_in (nI (hlds g o j)) 256 ∧ (Go (d + 5) true 27 53 [.ref 39, .ref 31, .ref 17, .int (nI j), .int (nI (hlds g o j))] [.int (rI h2 37 ((nI (hlds g o j)).toNatClampNeg)), .int (nI j), .ref 40] h2 Q) from ⟨(vp_in_nI (by omega) (by omega)), ?_⟩)
          rw [show (rI h2 37 ((nI (hlds g o j)).toNatClampNeg) : Int32) = nI (wtA g (hlds g o j)) from cs_wt cs2 (n := (hlds g o j)) (by omega)]
          refine exf_go 1 (show ((nI (wtA g (hlds g o j))) ≤ 0 → Go (d + 5) true 27 61 [.ref 39, .ref 31, .ref 17, .int (nI j), .int (nI (hlds g o j))] [.int (nI j), .ref 40] h2 Q) ∧ (¬ ((nI (wtA g (hlds g o j))) ≤ 0) → Go (d + 5) true 27 56 [.ref 39, .ref 31, .ref 17, .int (nI j), .int (nI (hlds g o j))] [.int (nI j), .ref 40] h2 Q) from ⟨fun c3 => ?_, fun c3 => ?_⟩)
          · skip
            have c3 : (wtA g (hlds g o j)) ≤ 0 := (nI_leI (a := (wtA g (hlds g o j))) (b := 0) (by omega) (by omega)).mp c3
            refine exf_go 3 (show Go (d + 5) true 27 67 [.ref 39, .ref 31, .ref 17, .int (nI j), .int (nI (hlds g o j))] [.int ((nI (hlds g o j)) ||| 1024), .int (nI j), .ref 40] h2 Q from ?_)
            rw [show ((nI (hlds g o j)) ||| 1024 : Int32) = nI (hlds g o j + 1024) from by rw [show (1024 : Int32) = nI 1024 from rfl, nI_or, or_wl _ (Nat.lt_of_lt_of_le hmb (evr_b cs.1).2)]]
            refine exf_go 2 (show vp_in (nI j) (al h2 40) ∧ (Go (d + 5) true 27 71 [.ref 39, .ref 31, .ref 17, .int ((nI j) + 1), .int (nI (hlds g o j))] [] (uI h2 40 ((nI j).toNatClampNeg) (nI (hlds g o j + 1024))) Q) from ⟨(vp_in_nI (by omega) (by omega)), ?_⟩)
            rw [show ((nI j) + 1 : Int32) = nI (j + 1) from nI_add j 1]
            refine exf_go 1 (show Go (d + 5) true 27 25 [.ref 39, .ref 31, .ref 17, .int (nI (j + 1)), .int (nI (hlds g o j))] [] (uI h2 40 ((nI j).toNatClampNeg) (nI (hlds g o j + 1024))) Q from ?_)
            have ecel : cel (gH g o) (l0 a) j = hlds g o j + 1024 := by rw [cel_00 (wf_gH cs.1 o)]; unfold nol; rw [if_pos (show wtA (gH g o) (sH (gH g o) j) = 0 from by rw [wtA_gH]; show wtA g (hlds g o j) = 0; omega)]; show hlds g o j + 1024 * 1 = _; omega
            exact ih25 (.int (nI (hlds g o j))) (j + 1) _ (by omega) (by omega) (g2.uI' _ _ _ rfl) (by show tot g ≤ rL h2 40; have : rL h2 40 = rL hL 40 := hal2; omega) ((q2.1 39 1 rfl).1.trans hs1) (fun i hi => by rw [nI_clamp (by omega)]; exact (Decidable.em (i = j)).elim (fun e => by rw [e, rI_uI_eq, ecel]) (fun e => by rw [rI_uI_at e, (q2.1 40 i rfl).1]; exact hv i (by omega)))
          · skip
            have c3 : ¬ (wtA g (hlds g o j)) ≤ 0 := fun q => c3 ((nI_leI (a := (wtA g (hlds g o j))) (b := 0) (by omega) (by omega)).mpr q)
            refine exf_go 4 (show vp_in (nI j) (al h2 40) ∧ (Go (d + 5) true 27 71 [.ref 39, .ref 31, .ref 17, .int ((nI j) + 1), .int (nI (hlds g o j))] [] (uI h2 40 ((nI j).toNatClampNeg) (nI (hlds g o j))) Q) from ⟨(vp_in_nI (by omega) (by omega)), ?_⟩)
            rw [show ((nI j) + 1 : Int32) = nI (j + 1) from nI_add j 1]
            refine exf_go 1 (show Go (d + 5) true 27 25 [.ref 39, .ref 31, .ref 17, .int (nI (j + 1)), .int (nI (hlds g o j))] [] (uI h2 40 ((nI j).toNatClampNeg) (nI (hlds g o j))) Q from ?_)
            have ecel : cel (gH g o) (l0 a) j = hlds g o j := by rw [cel_00 (wf_gH cs.1 o)]; unfold nol; rw [if_neg (show ¬ wtA (gH g o) (sH (gH g o) j) = 0 from by rw [wtA_gH]; show ¬ wtA g (hlds g o j) = 0; omega)]; show hlds g o j + 1024 * 0 = _; omega
            exact ih25 (.int (nI (hlds g o j))) (j + 1) _ (by omega) (by omega) (g2.uI' _ _ _ rfl) (by show tot g ≤ rL h2 40; have : rL h2 40 = rL hL 40 := hal2; omega) ((q2.1 39 1 rfl).1.trans hs1) (fun i hi => by rw [nI_clamp (by omega)]; exact (Decidable.em (i = j)).elim (fun e => by rw [e, rI_uI_eq, ecel]) (fun e => by rw [rI_uI_at e, (q2.1 40 i rfl).1]; exact hv i (by omega)))
    exact L25 ((tot g) + 1) mk_ 0 h1 (by omega) (by omega) g1 hal hs1 (fun i hi => absurd hi (Nat.not_lt_zero _))
  refine exf_go 3 (show Go (d + 5) true 27 5 [.ref 39, .ref 31, .ref 17, mk_, mk_] [.int (rI h 31 5), .ref 39] h Q from ?_)
  rw [show (rI h 31 5 : Int32) = nI (tot g) from cs_N cs]
  refine exf_go 7 (show wpC (d + 5) true 182 [.ref 40, .int (nI (tot g))] (uI h 39 1 (nI (tot g))) (fun r h' => Go (d + 5) true 27 20 [.ref 39, .ref 31, .ref 17, mk_, mk_] [r, .ref 39] h' Q) from ?_)
  have wfu : WF (uI h 39 1 (nI (tot g))) := WF_u (s := sBg) wf (Fq.uI' Fq.rfl' _ _ _ rfl)
  refine c_room40 wfu (by omega) (fun r1 => ?_) (fun mr r1 r2 r3 => ?_)
  · skip
    show Go (d + 5) true 27 20 [.ref 39, .ref 31, .ref 17, mk_, mk_] [.ref 40, .ref 39] (uI h 39 1 (nI (tot g))) Q
    refine exf_go 1 (show Go (d + 5) true 27 23 [.ref 39, .ref 31, .ref 17, mk_, mk_] [] (uN (uI h 39 1 (nI (tot g))) 39 0 true) Q from ?_)
    exact X23 _ (Gq.uN' (Fq.gq (Fq.uI' Fq.rfl' _ _ _ rfl)) (wf.2.2 39 0 rfl)) (show tot g ≤ rL h 40 from r1) rfl
  · skip
    have hgw := grow (s := sBg) (z := 40) wfu (by omega) (fun _ => rfl) (fun _ => rfl) r1 r3
    show Go (d + 5) true 27 20 [.ref 39, .ref 31, .ref 17, mk_, mk_] [.ref 99, .ref 39] (nwH (uI h 39 1 (nI (tot g))) 99 mr) Q
    refine exf_go 1 (show rN (nwH (uI h 39 1 (nI (tot g))) 99 mr) 39 0 = true ∧ (Go (d + 5) true 27 23 [.ref 39, .ref 31, .ref 17, mk_, mk_] [] (adp (nwH (uI h 39 1 (nI (tot g))) 99 mr) 40) Q) from ⟨(wf.2.2 39 0 rfl), ?_⟩)
    exact X23 _ ((Fq.gq (Fq.uI' Fq.rfl' _ _ _ rfl)).tr hgw.1) (by rw [hgw.2.1]; omega) rfl
