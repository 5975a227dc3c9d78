/-! The model: all rows are gone through: the end of a row, and one number more. -/
theorem m_leaf1 {d : Nat} {g : ShG} {l : LkG} {tt so n : Nat} {vs : Nat → Int64} (etr : tt < 4) (hn1 : 1 ≤ n) (hn8 : n ≤ 8) (haw : awB vs (tot g) n = true) : GRC true 1 g l tt so n vs (d + 1) 0 := by
  intro k dn a s S tk st h Q ms mw mt hkr hrm hdn hs hS ha htk hrs kk
  have htb := tot_b ms.1.1; have hb1 := hrs.1; have hb2 := hrs.2.1
  have hval : bsV true (FB g true (vN g vs) n) S s dn + (lgV g (plB g true) (vN g vs) (FB g true (vN g vs) n) n dn a).2 = S := by
    rw [show (lgV g (plB g true) (vN g vs) (FB g true (vN g vs) n) n dn a).2 = 0 from by unfold lgV; rw [hrm]; rfl]
    show S + s * fWs g (vN g vs) n dn + 0 = S
    rw [fWs_0 hrm, Nat.mul_zero]; rfl
  have htail : ∀ m, RS n (upS st m (pth g (plB g true) (vN g vs) (FB g true (vN g vs) n) n tk k 0 dn a)) = RS n (upS st m tk) := fun m => by
    funext h1
    unfold upS
    by_cases c : st.1 = 1 ∧ st.2.1 ≤ m
    · rw [if_pos c, if_pos c]
    · rw [if_neg c, if_neg c]
      unfold RS
      have e : ∀ j, j < n → pth g (plB g true) (vN g vs) (FB g true (vN g vs) n) n tk k 0 dn a j = tk j := fun j hj => if_pos (by omega)
      refine propext ⟨fun q => ⟨q.1, q.2.1, q.2.2.1, q.2.2.2.1, fun z j hj => by have := q.2.2.2.2 z j hj; rw [show (1, m, pth g (plB g true) (vN g vs) (FB g true (vN g vs) n) n tk k 0 dn a).2.2 j = tk j from e j hj] at this; exact this⟩, fun q => ⟨q.1, q.2.1, q.2.2.1, q.2.2.2.1, fun z j hj => by show _ = nI (pth _ _ _ _ _ _ _ _ _ _ j); rw [e j hj]; exact q.2.2.2.2 z j hj⟩⟩
  refine go_in rfl ?_
  refine exf_go 5 (show vp_in (nI tt) 4 ∧ (Go d true 271 7 [.ref 130, .int (nI tt), .int (nI k), .int (nI dn), .int (nI a), .int (nI s), .long (lN S), mk_, .int 1, mk_, mk_, mk_] [.int (rI h 150 ((nI tt).toNatClampNeg)), .int (nI k)] h Q) from ⟨(vp_in_nI (by omega) (by omega)), ?_⟩)
  rw [show (rI h 150 ((nI tt).toNatClampNeg) : Int32) = nI n from by rw [nI_clamp (by omega)]; exact mt.2.2.2.1]
  refine exf_go 1 (show (¬ (nI k) = (nI n) → Go d true 271 84 [.ref 130, .int (nI tt), .int (nI k), .int (nI dn), .int (nI a), .int (nI s), .long (lN S), mk_, .int 1, mk_, mk_, mk_] [] h Q) ∧ (¬ (¬ (nI k) = (nI n)) → Go d true 271 10 [.ref 130, .int (nI tt), .int (nI k), .int (nI dn), .int (nI a), .int (nI s), .long (lN S), mk_, .int 1, mk_, mk_, mk_] [] h Q) from ⟨fun c1 => ?_, fun c1 => ?_⟩)
  · skip
    have c1 : ¬ k = n := fun q => c1 ((nI_eq (a := k) (b := n) (by omega) (by omega)).mpr q)
    exact absurd (show k = n from by omega) c1
  · skip
    have c1 : k = n := (nI_eq (a := k) (b := n) (by omega) (by omega)).mp (Classical.not_not.mp c1)
    refine exf_go 2 (show ((1 : Int32) = 0 → Go d true 271 20 [.ref 130, .int (nI tt), .int (nI k), .int (nI dn), .int (nI a), .int (nI s), .long (lN S), mk_, .int 1, mk_, mk_, mk_] [] h Q) ∧ (¬ ((1 : Int32) = 0) → Go d true 271 15 [.ref 130, .int (nI tt), .int (nI k), .int (nI dn), .int (nI a), .int (nI s), .long (lN S), mk_, .int 1, mk_, mk_, mk_] [] h Q) from ⟨fun c2 => ?_, fun c2 => ?_⟩)
    · skip
      exact absurd c2 (by decide)
    · skip
      refine exf_go 5 (show Go d true 271 29 [.ref 130, .int (nI tt), .int (nI k), .int (nI dn), .int (nI a), .int (nI s), .long (lN S), mk_, .int 1, .long (lN S), mk_, mk_] [.int (rI h 130 28)] h Q from ?_)
      rw [show (rI h 130 28 : Int32) = nI st.1 from hrs.2.2.1]
      refine exf_go 1 (show ((nI st.1) = 0 → Go d true 271 43 [.ref 130, .int (nI tt), .int (nI k), .int (nI dn), .int (nI a), .int (nI s), .long (lN S), mk_, .int 1, .long (lN S), mk_, mk_] [] h Q) ∧ (¬ ((nI st.1) = 0) → Go d true 271 32 [.ref 130, .int (nI tt), .int (nI k), .int (nI dn), .int (nI a), .int (nI s), .long (lN S), mk_, .int 1, .long (lN S), mk_, mk_] [] h Q) from ⟨fun c3 => ?_, fun c3 => ?_⟩)
      · skip
        have c3 : st.1 = 0 := (nI_eq (a := st.1) (b := 0) (by omega) (by omega)).mp c3
        refine exf_go 8 (show ((1 : Int32) = 0 ∨ (1 : Int32) = 1) ∧ (Go d true 271 57 [.ref 130, .int (nI tt), .int (nI k), .int (nI dn), .int (nI a), .int (nI s), .long (lN S), mk_, .int 1, .long (lN S), mk_, .int 0] [] (uJ (uI h 130 28 1) 130 27 (lN S)) Q) from ⟨(by first | exact Or.inl rfl | exact Or.inr rfl | assumption), ?_⟩)
        have L57 : ∀ (k57 : Nat) (i : Nat) (h1 : Hp), (k - i) < k57 → (i ≤ k) → (Fq sGw h h1) → (rI h1 130 28 = nI 1) → (rJ h1 130 27 = lN S) → (∀ j, j < k → rI h1 142 j = nI (tk j)) → (∀ j, j < i → rI h1 143 j = nI (tk j)) → Go d true 271 57 [.ref 130, .int (nI tt), .int (nI k), .int (nI dn), .int (nI a), .int (nI s), .long (lN S), mk_, .int 1, .long (lN S), mk_, .int (nI i)] [] h1 Q := by
          intro k57
          induction k57 with
          | zero => intro i h1 hk; exact absurd hk (Nat.not_lt_zero _)
          | succ k57 ih57 =>
            intro i h1 hk hi q1 hs1 hl1 ht1 hr1
            refine exf_go 3 (show ((nI k) ≤ (nI i) → Go d true 271 83 [.ref 130, .int (nI tt), .int (nI k), .int (nI dn), .int (nI a), .int (nI s), .long (lN S), mk_, .int 1, .long (lN S), mk_, .int (nI i)] [] h1 Q) ∧ (¬ ((nI k) ≤ (nI i)) → Go d true 271 63 [.ref 130, .int (nI tt), .int (nI k), .int (nI dn), .int (nI a), .int (nI s), .long (lN S), mk_, .int 1, .long (lN S), mk_, .int (nI i)] [] h1 Q) from ⟨fun c4 => ?_, fun c4 => ?_⟩)
            · skip
              have c4 : k ≤ i := (nI_leI (a := k) (b := i) (by omega) (by omega)).mp c4
              refine exf_go 1 (show Q (mk_) h1 from ?_)
              rw [hval, htail] at kk
              rw [upS, if_neg (fun q => by omega)] at kk; exact kk h1 q1 ⟨Nat.le_refl _, (by omega : S ≤ 10000000000000), hs1, fun _ => hl1, fun _ j hj => hr1 j (by omega)⟩ ht1
            · skip
              have c4 : ¬ k ≤ i := fun q => c4 ((nI_leI (a := k) (b := i) (by omega) (by omega)).mpr q)
              refine exf_go 7 (show vp_in (nI i) 8 ∧ (Go d true 271 76 [.ref 130, .int (nI tt), .int (nI k), .int (nI dn), .int (nI a), .int (nI s), .long (lN S), mk_, .int 1, .long (lN S), mk_, .int (nI i)] [.int (rI h1 142 ((nI i).toNatClampNeg)), .int (nI i), .ref 143] h1 Q) from ⟨(vp_in_nI (by omega) (by omega)), ?_⟩)
              rw [show (rI h1 142 ((nI i).toNatClampNeg) : Int32) = nI (tk i) from by rw [nI_clamp (by omega)]; exact ht1 _ (by omega)]
              refine exf_go 2 (show vp_in (nI i) 8 ∧ (Go d true 271 80 [.ref 130, .int (nI tt), .int (nI k), .int (nI dn), .int (nI a), .int (nI s), .long (lN S), mk_, .int 1, .long (lN S), mk_, .int ((nI i) + 1)] [] (uI h1 143 ((nI i).toNatClampNeg) (nI (tk i))) Q) from ⟨(vp_in_nI (by omega) (by omega)), ?_⟩)
              rw [show ((nI i) + 1 : Int32) = nI (i + 1) from nI_add i 1]
              refine exf_go 1 (show Go d true 271 57 [.ref 130, .int (nI tt), .int (nI k), .int (nI dn), .int (nI a), .int (nI s), .long (lN S), mk_, .int 1, .long (lN S), mk_, .int (nI (i + 1))] [] (uI h1 143 ((nI i).toNatClampNeg) (nI (tk i))) Q from ?_)
              exact ih57 (i + 1) _ (by omega) (by omega) (q1.uI' _ _ _ rfl) hs1 hl1 ht1 (fun j hj => (Decidable.em (j = i)).elim (fun e => by rw [nI_clamp (by omega), e, rI_uI_eq]) (fun e => by rw [nI_clamp (by omega), rI_uI_at e]; exact hr1 j (by omega)))
        exact L57 (k + 1) 0 _ (by omega) (by omega) ((Fq.rfl'.uI' _ _ _ rfl).uJ' _ _ _ rfl) rfl rfl htk (fun j hj => absurd hj (Nat.not_lt_zero _))
      · skip
        have c3 : ¬ st.1 = 0 := fun q => c3 ((nI_eq (a := st.1) (b := 0) (by omega) (by omega)).mpr q)
        refine exf_go 3 (show Go d true 271 38 [.ref 130, .int (nI tt), .int (nI k), .int (nI dn), .int (nI a), .int (nI s), .long (lN S), mk_, .int 1, .long (lN S), mk_, mk_] [.long (rJ h 130 27), .long (lN S)] h Q from ?_)
        rw [show (rJ h 130 27 : Int64) = lN st.2.1 from hrs.2.2.2.1 (by omega)]
        refine exf_go 2 (show ((lg_cmp (lN S) (lN st.2.1)) < 0 → Go d true 271 43 [.ref 130, .int (nI tt), .int (nI k), .int (nI dn), .int (nI a), .int (nI s), .long (lN S), mk_, .int 1, .long (lN S), mk_, mk_] [] h Q) ∧ (¬ ((lg_cmp (lN S) (lN st.2.1)) < 0) → Go d true 271 42 [.ref 130, .int (nI tt), .int (nI k), .int (nI dn), .int (nI a), .int (nI s), .long (lN S), mk_, .int 1, .long (lN S), mk_, mk_] [] h Q) from ⟨fun c5 => ?_, fun c5 => ?_⟩)
        · skip
          have c5 : (lN S) < (lN st.2.1) := (lg_cmp_lt _ _).mp c5
          have c5 : S < st.2.1 := (pk_lLT (a := S) (b := st.2.1) (by omega) (by omega)).mp c5
          refine exf_go 8 (show ((1 : Int32) = 0 ∨ (1 : Int32) = 1) ∧ (Go d true 271 57 [.ref 130, .int (nI tt), .int (nI k), .int (nI dn), .int (nI a), .int (nI s), .long (lN S), mk_, .int 1, .long (lN S), mk_, .int 0] [] (uJ (uI h 130 28 1) 130 27 (lN S)) Q) from ⟨(by first | exact Or.inl rfl | exact Or.inr rfl | assumption), ?_⟩)
          have L57 : ∀ (k57 : Nat) (i : Nat) (h1 : Hp), (k - i) < k57 → (i ≤ k) → (Fq sGw h h1) → (rI h1 130 28 = nI 1) → (rJ h1 130 27 = lN S) → (∀ j, j < k → rI h1 142 j = nI (tk j)) → (∀ j, j < i → rI h1 143 j = nI (tk j)) → Go d true 271 57 [.ref 130, .int (nI tt), .int (nI k), .int (nI dn), .int (nI a), .int (nI s), .long (lN S), mk_, .int 1, .long (lN S), mk_, .int (nI i)] [] h1 Q := by
            intro k57
            induction k57 with
            | zero => intro i h1 hk; exact absurd hk (Nat.not_lt_zero _)
            | succ k57 ih57 =>
              intro i h1 hk hi q1 hs1 hl1 ht1 hr1
              refine exf_go 3 (show ((nI k) ≤ (nI i) → Go d true 271 83 [.ref 130, .int (nI tt), .int (nI k), .int (nI dn), .int (nI a), .int (nI s), .long (lN S), mk_, .int 1, .long (lN S), mk_, .int (nI i)] [] h1 Q) ∧ (¬ ((nI k) ≤ (nI i)) → Go d true 271 63 [.ref 130, .int (nI tt), .int (nI k), .int (nI dn), .int (nI a), .int (nI s), .long (lN S), mk_, .int 1, .long (lN S), mk_, .int (nI i)] [] h1 Q) from ⟨fun c6 => ?_, fun c6 => ?_⟩)
              · skip
                have c6 : k ≤ i := (nI_leI (a := k) (b := i) (by omega) (by omega)).mp c6
                refine exf_go 1 (show Q (mk_) h1 from ?_)
                rw [hval, htail] at kk
                rw [upS, if_neg (fun q => by omega)] at kk; exact kk h1 q1 ⟨Nat.le_refl _, (by omega : S ≤ 10000000000000), hs1, fun _ => hl1, fun _ j hj => hr1 j (by omega)⟩ ht1
              · skip
                have c6 : ¬ k ≤ i := fun q => c6 ((nI_leI (a := k) (b := i) (by omega) (by omega)).mpr q)
                refine exf_go 7 (show vp_in (nI i) 8 ∧ (Go d true 271 76 [.ref 130, .int (nI tt), .int (nI k), .int (nI dn), .int (nI a), .int (nI s), .long (lN S), mk_, .int 1, .long (lN S), mk_, .int (nI i)] [.int (rI h1 142 ((nI i).toNatClampNeg)), .int (nI i), .ref 143] h1 Q) from ⟨(vp_in_nI (by omega) (by omega)), ?_⟩)
                rw [show (rI h1 142 ((nI i).toNatClampNeg) : Int32) = nI (tk i) from by rw [nI_clamp (by omega)]; exact ht1 _ (by omega)]
                refine exf_go 2 (show vp_in (nI i) 8 ∧ (Go d true 271 80 [.ref 130, .int (nI tt), .int (nI k), .int (nI dn), .int (nI a), .int (nI s), .long (lN S), mk_, .int 1, .long (lN S), mk_, .int ((nI i) + 1)] [] (uI h1 143 ((nI i).toNatClampNeg) (nI (tk i))) Q) from ⟨(vp_in_nI (by omega) (by omega)), ?_⟩)
                rw [show ((nI i) + 1 : Int32) = nI (i + 1) from nI_add i 1]
                refine exf_go 1 (show Go d true 271 57 [.ref 130, .int (nI tt), .int (nI k), .int (nI dn), .int (nI a), .int (nI s), .long (lN S), mk_, .int 1, .long (lN S), mk_, .int (nI (i + 1))] [] (uI h1 143 ((nI i).toNatClampNeg) (nI (tk i))) Q from ?_)
                exact ih57 (i + 1) _ (by omega) (by omega) (q1.uI' _ _ _ rfl) hs1 hl1 ht1 (fun j hj => (Decidable.em (j = i)).elim (fun e => by rw [nI_clamp (by omega), e, rI_uI_eq]) (fun e => by rw [nI_clamp (by omega), rI_uI_at e]; exact hr1 j (by omega)))
          exact L57 (k + 1) 0 _ (by omega) (by omega) ((Fq.rfl'.uI' _ _ _ rfl).uJ' _ _ _ rfl) rfl rfl htk (fun j hj => absurd hj (Nat.not_lt_zero _))
        · skip
          have c5 : ¬ ((lN S) < (lN st.2.1)) := fun q => c5 ((lg_cmp_lt _ _).mpr q)
          have c5 : ¬ (S < st.2.1) := fun q => c5 ((pk_lLT (a := S) (b := st.2.1) (by omega) (by omega)).mpr q)
          refine exf_go 1 (show Q (mk_) h from ?_)
          rw [hval, htail] at kk
          rw [upS, if_pos ⟨by omega, by omega⟩] at kk; exact kk h Fq.rfl' hrs htk
theorem m_leaf0 {d : Nat} {g : ShG} {l : LkG} {tt so n : Nat} {vs : Nat → Int64} (etr : tt < 4) (hn1 : 1 ≤ n) (hn8 : n ≤ 8) (haw : awB vs (tot g) n = true) : GRC false 0 g l tt so n vs (d + 1) 0 := by
  intro k dn a s S tk st h Q ms mw mt hkr hrm hdn hs hS ha htk hrs kk
  have htb := tot_b ms.1.1; have hb1 := hrs.1; have hb2 := hrs.2.1
  have hval : bsV false (FB g false (vN g vs) n) S s dn + (lgV g (plB g false) (vN g vs) (FB g false (vN g vs) n) n dn a).2 = s := by
    rw [show (lgV g (plB g false) (vN g vs) (FB g false (vN g vs) n) n dn a).2 = 0 from by unfold lgV; rw [hrm]; rfl]
    rfl
  have htail : ∀ m, RS n (upS st m (pth g (plB g false) (vN g vs) (FB g false (vN g vs) n) n tk k 0 dn a)) = RS n (upS st m tk) := fun m => by
    funext h1
    unfold upS
    by_cases c : st.1 = 1 ∧ st.2.1 ≤ m
    · rw [if_pos c, if_pos c]
    · rw [if_neg c, if_neg c]
      unfold RS
      have e : ∀ j, j < n → pth g (plB g false) (vN g vs) (FB g false (vN g vs) n) n tk k 0 dn a j = tk j := fun j hj => if_pos (by omega)
      refine propext ⟨fun q => ⟨q.1, q.2.1, q.2.2.1, q.2.2.2.1, fun z j hj => by have := q.2.2.2.2 z j hj; rw [show (1, m, pth g (plB g false) (vN g vs) (FB g false (vN g vs) n) n tk k 0 dn a).2.2 j = tk j from e j hj] at this; exact this⟩, fun q => ⟨q.1, q.2.1, q.2.2.1, q.2.2.2.1, fun z j hj => by show _ = nI (pth _ _ _ _ _ _ _ _ _ _ j); rw [e j hj]; exact q.2.2.2.2 z j hj⟩⟩
  refine go_in rfl ?_
  refine exf_go 5 (show vp_in (nI tt) 4 ∧ (Go d true 271 7 [.ref 130, .int (nI tt), .int (nI k), .int (nI dn), .int (nI a), .int (nI s), .long (lN S), mk_, .int 0, mk_, mk_, mk_] [.int (rI h 150 ((nI tt).toNatClampNeg)), .int (nI k)] h Q) from ⟨(vp_in_nI (by omega) (by omega)), ?_⟩)
  rw [show (rI h 150 ((nI tt).toNatClampNeg) : Int32) = nI n from by rw [nI_clamp (by omega)]; exact mt.2.2.2.1]
  refine exf_go 1 (show (¬ (nI k) = (nI n) → Go d true 271 84 [.ref 130, .int (nI tt), .int (nI k), .int (nI dn), .int (nI a), .int (nI s), .long (lN S), mk_, .int 0, mk_, mk_, mk_] [] h Q) ∧ (¬ (¬ (nI k) = (nI n)) → Go d true 271 10 [.ref 130, .int (nI tt), .int (nI k), .int (nI dn), .int (nI a), .int (nI s), .long (lN S), mk_, .int 0, mk_, mk_, mk_] [] h Q) from ⟨fun c1 => ?_, fun c1 => ?_⟩)
  · skip
    have c1 : ¬ k = n := fun q => c1 ((nI_eq (a := k) (b := n) (by omega) (by omega)).mpr q)
    exact absurd (show k = n from by omega) c1
  · skip
    have c1 : k = n := (nI_eq (a := k) (b := n) (by omega) (by omega)).mp (Classical.not_not.mp c1)
    refine exf_go 2 (show ((0 : Int32) = 0 → Go d true 271 20 [.ref 130, .int (nI tt), .int (nI k), .int (nI dn), .int (nI a), .int (nI s), .long (lN S), mk_, .int 0, mk_, mk_, mk_] [] h Q) ∧ (¬ ((0 : Int32) = 0) → Go d true 271 15 [.ref 130, .int (nI tt), .int (nI k), .int (nI dn), .int (nI a), .int (nI s), .long (lN S), mk_, .int 0, mk_, mk_, mk_] [] h Q) from ⟨fun c2 => ?_, fun c2 => ?_⟩)
    · skip
      refine exf_go 2 (show Go d true 271 23 [.ref 130, .int (nI tt), .int (nI k), .int (nI dn), .int (nI a), .int (nI s), .long (lN S), mk_, .int 0, mk_, mk_, mk_] [.long ((nI s).toInt64)] h Q from ?_)
      rw [show ((nI s).toInt64 : Int64) = lN s from nI_l (n := s) (by omega)]
      refine exf_go 3 (show Go d true 271 29 [.ref 130, .int (nI tt), .int (nI k), .int (nI dn), .int (nI a), .int (nI s), .long (lN S), mk_, .int 0, .long (lN s), mk_, mk_] [.int (rI h 130 28)] h Q from ?_)
      rw [show (rI h 130 28 : Int32) = nI st.1 from hrs.2.2.1]
      refine exf_go 1 (show ((nI st.1) = 0 → Go d true 271 43 [.ref 130, .int (nI tt), .int (nI k), .int (nI dn), .int (nI a), .int (nI s), .long (lN S), mk_, .int 0, .long (lN s), mk_, mk_] [] h Q) ∧ (¬ ((nI st.1) = 0) → Go d true 271 32 [.ref 130, .int (nI tt), .int (nI k), .int (nI dn), .int (nI a), .int (nI s), .long (lN S), mk_, .int 0, .long (lN s), mk_, mk_] [] h Q) from ⟨fun c3 => ?_, fun c3 => ?_⟩)
      · skip
        have c3 : st.1 = 0 := (nI_eq (a := st.1) (b := 0) (by omega) (by omega)).mp c3
        refine exf_go 8 (show ((1 : Int32) = 0 ∨ (1 : Int32) = 1) ∧ (Go d true 271 57 [.ref 130, .int (nI tt), .int (nI k), .int (nI dn), .int (nI a), .int (nI s), .long (lN S), mk_, .int 0, .long (lN s), mk_, .int 0] [] (uJ (uI h 130 28 1) 130 27 (lN s)) Q) from ⟨(by first | exact Or.inl rfl | exact Or.inr rfl | assumption), ?_⟩)
        have L57 : ∀ (k57 : Nat) (i : Nat) (h1 : Hp), (k - i) < k57 → (i ≤ k) → (Fq sGw h h1) → (rI h1 130 28 = nI 1) → (rJ h1 130 27 = lN s) → (∀ j, j < k → rI h1 142 j = nI (tk j)) → (∀ j, j < i → rI h1 143 j = nI (tk j)) → Go d true 271 57 [.ref 130, .int (nI tt), .int (nI k), .int (nI dn), .int (nI a), .int (nI s), .long (lN S), mk_, .int 0, .long (lN s), mk_, .int (nI i)] [] h1 Q := by
          intro k57
          induction k57 with
          | zero => intro i h1 hk; exact absurd hk (Nat.not_lt_zero _)
          | succ k57 ih57 =>
            intro i h1 hk hi q1 hs1 hl1 ht1 hr1
            refine exf_go 3 (show ((nI k) ≤ (nI i) → Go d true 271 83 [.ref 130, .int (nI tt), .int (nI k), .int (nI dn), .int (nI a), .int (nI s), .long (lN S), mk_, .int 0, .long (lN s), mk_, .int (nI i)] [] h1 Q) ∧ (¬ ((nI k) ≤ (nI i)) → Go d true 271 63 [.ref 130, .int (nI tt), .int (nI k), .int (nI dn), .int (nI a), .int (nI s), .long (lN S), mk_, .int 0, .long (lN s), mk_, .int (nI i)] [] h1 Q) from ⟨fun c4 => ?_, fun c4 => ?_⟩)
            · skip
              have c4 : k ≤ i := (nI_leI (a := k) (b := i) (by omega) (by omega)).mp c4
              refine exf_go 1 (show Q (mk_) h1 from ?_)
              rw [hval, htail] at kk
              rw [upS, if_neg (fun q => by omega)] at kk; exact kk h1 q1 ⟨Nat.le_refl _, (by omega : s ≤ 10000000000000), hs1, fun _ => hl1, fun _ j hj => hr1 j (by omega)⟩ ht1
            · skip
              have c4 : ¬ k ≤ i := fun q => c4 ((nI_leI (a := k) (b := i) (by omega) (by omega)).mpr q)
              refine exf_go 7 (show vp_in (nI i) 8 ∧ (Go d true 271 76 [.ref 130, .int (nI tt), .int (nI k), .int (nI dn), .int (nI a), .int (nI s), .long (lN S), mk_, .int 0, .long (lN s), mk_, .int (nI i)] [.int (rI h1 142 ((nI i).toNatClampNeg)), .int (nI i), .ref 143] h1 Q) from ⟨(vp_in_nI (by omega) (by omega)), ?_⟩)
              rw [show (rI h1 142 ((nI i).toNatClampNeg) : Int32) = nI (tk i) from by rw [nI_clamp (by omega)]; exact ht1 _ (by omega)]
              refine exf_go 2 (show vp_in (nI i) 8 ∧ (Go d true 271 80 [.ref 130, .int (nI tt), .int (nI k), .int (nI dn), .int (nI a), .int (nI s), .long (lN S), mk_, .int 0, .long (lN s), mk_, .int ((nI i) + 1)] [] (uI h1 143 ((nI i).toNatClampNeg) (nI (tk i))) Q) from ⟨(vp_in_nI (by omega) (by omega)), ?_⟩)
              rw [show ((nI i) + 1 : Int32) = nI (i + 1) from nI_add i 1]
              refine exf_go 1 (show Go d true 271 57 [.ref 130, .int (nI tt), .int (nI k), .int (nI dn), .int (nI a), .int (nI s), .long (lN S), mk_, .int 0, .long (lN s), mk_, .int (nI (i + 1))] [] (uI h1 143 ((nI i).toNatClampNeg) (nI (tk i))) Q from ?_)
              exact ih57 (i + 1) _ (by omega) (by omega) (q1.uI' _ _ _ rfl) hs1 hl1 ht1 (fun j hj => (Decidable.em (j = i)).elim (fun e => by rw [nI_clamp (by omega), e, rI_uI_eq]) (fun e => by rw [nI_clamp (by omega), rI_uI_at e]; exact hr1 j (by omega)))
        exact L57 (k + 1) 0 _ (by omega) (by omega) ((Fq.rfl'.uI' _ _ _ rfl).uJ' _ _ _ rfl) rfl rfl htk (fun j hj => absurd hj (Nat.not_lt_zero _))
      · skip
        have c3 : ¬ st.1 = 0 := fun q => c3 ((nI_eq (a := st.1) (b := 0) (by omega) (by omega)).mpr q)
        refine exf_go 3 (show Go d true 271 38 [.ref 130, .int (nI tt), .int (nI k), .int (nI dn), .int (nI a), .int (nI s), .long (lN S), mk_, .int 0, .long (lN s), mk_, mk_] [.long (rJ h 130 27), .long (lN s)] h Q from ?_)
        rw [show (rJ h 130 27 : Int64) = lN st.2.1 from hrs.2.2.2.1 (by omega)]
        refine exf_go 2 (show ((lg_cmp (lN s) (lN st.2.1)) < 0 → Go d true 271 43 [.ref 130, .int (nI tt), .int (nI k), .int (nI dn), .int (nI a), .int (nI s), .long (lN S), mk_, .int 0, .long (lN s), mk_, mk_] [] h Q) ∧ (¬ ((lg_cmp (lN s) (lN st.2.1)) < 0) → Go d true 271 42 [.ref 130, .int (nI tt), .int (nI k), .int (nI dn), .int (nI a), .int (nI s), .long (lN S), mk_, .int 0, .long (lN s), mk_, mk_] [] h Q) from ⟨fun c5 => ?_, fun c5 => ?_⟩)
        · skip
          have c5 : (lN s) < (lN st.2.1) := (lg_cmp_lt _ _).mp c5
          have c5 : s < st.2.1 := (pk_lLT (a := s) (b := st.2.1) (by omega) (by omega)).mp c5
          refine exf_go 8 (show ((1 : Int32) = 0 ∨ (1 : Int32) = 1) ∧ (Go d true 271 57 [.ref 130, .int (nI tt), .int (nI k), .int (nI dn), .int (nI a), .int (nI s), .long (lN S), mk_, .int 0, .long (lN s), mk_, .int 0] [] (uJ (uI h 130 28 1) 130 27 (lN s)) Q) from ⟨(by first | exact Or.inl rfl | exact Or.inr rfl | assumption), ?_⟩)
          have L57 : ∀ (k57 : Nat) (i : Nat) (h1 : Hp), (k - i) < k57 → (i ≤ k) → (Fq sGw h h1) → (rI h1 130 28 = nI 1) → (rJ h1 130 27 = lN s) → (∀ j, j < k → rI h1 142 j = nI (tk j)) → (∀ j, j < i → rI h1 143 j = nI (tk j)) → Go d true 271 57 [.ref 130, .int (nI tt), .int (nI k), .int (nI dn), .int (nI a), .int (nI s), .long (lN S), mk_, .int 0, .long (lN s), mk_, .int (nI i)] [] h1 Q := by
            intro k57
            induction k57 with
            | zero => intro i h1 hk; exact absurd hk (Nat.not_lt_zero _)
            | succ k57 ih57 =>
              intro i h1 hk hi q1 hs1 hl1 ht1 hr1
              refine exf_go 3 (show ((nI k) ≤ (nI i) → Go d true 271 83 [.ref 130, .int (nI tt), .int (nI k), .int (nI dn), .int (nI a), .int (nI s), .long (lN S), mk_, .int 0, .long (lN s), mk_, .int (nI i)] [] h1 Q) ∧ (¬ ((nI k) ≤ (nI i)) → Go d true 271 63 [.ref 130, .int (nI tt), .int (nI k), .int (nI dn), .int (nI a), .int (nI s), .long (lN S), mk_, .int 0, .long (lN s), mk_, .int (nI i)] [] h1 Q) from ⟨fun c6 => ?_, fun c6 => ?_⟩)
              · skip
                have c6 : k ≤ i := (nI_leI (a := k) (b := i) (by omega) (by omega)).mp c6
                refine exf_go 1 (show Q (mk_) h1 from ?_)
                rw [hval, htail] at kk
                rw [upS, if_neg (fun q => by omega)] at kk; exact kk h1 q1 ⟨Nat.le_refl _, (by omega : s ≤ 10000000000000), hs1, fun _ => hl1, fun _ j hj => hr1 j (by omega)⟩ ht1
              · skip
                have c6 : ¬ k ≤ i := fun q => c6 ((nI_leI (a := k) (b := i) (by omega) (by omega)).mpr q)
                refine exf_go 7 (show vp_in (nI i) 8 ∧ (Go d true 271 76 [.ref 130, .int (nI tt), .int (nI k), .int (nI dn), .int (nI a), .int (nI s), .long (lN S), mk_, .int 0, .long (lN s), mk_, .int (nI i)] [.int (rI h1 142 ((nI i).toNatClampNeg)), .int (nI i), .ref 143] h1 Q) from ⟨(vp_in_nI (by omega) (by omega)), ?_⟩)
                rw [show (rI h1 142 ((nI i).toNatClampNeg) : Int32) = nI (tk i) from by rw [nI_clamp (by omega)]; exact ht1 _ (by omega)]
                refine exf_go 2 (show vp_in (nI i) 8 ∧ (Go d true 271 80 [.ref 130, .int (nI tt), .int (nI k), .int (nI dn), .int (nI a), .int (nI s), .long (lN S), mk_, .int 0, .long (lN s), mk_, .int ((nI i) + 1)] [] (uI h1 143 ((nI i).toNatClampNeg) (nI (tk i))) Q) from ⟨(vp_in_nI (by omega) (by omega)), ?_⟩)
                rw [show ((nI i) + 1 : Int32) = nI (i + 1) from nI_add i 1]
                refine exf_go 1 (show Go d true 271 57 [.ref 130, .int (nI tt), .int (nI k), .int (nI dn), .int (nI a), .int (nI s), .long (lN S), mk_, .int 0, .long (lN s), mk_, .int (nI (i + 1))] [] (uI h1 143 ((nI i).toNatClampNeg) (nI (tk i))) Q from ?_)
                exact ih57 (i + 1) _ (by omega) (by omega) (q1.uI' _ _ _ rfl) hs1 hl1 ht1 (fun j hj => (Decidable.em (j = i)).elim (fun e => by rw [nI_clamp (by omega), e, rI_uI_eq]) (fun e => by rw [nI_clamp (by omega), rI_uI_at e]; exact hr1 j (by omega)))
          exact L57 (k + 1) 0 _ (by omega) (by omega) ((Fq.rfl'.uI' _ _ _ rfl).uJ' _ _ _ rfl) rfl rfl htk (fun j hj => absurd hj (Nat.not_lt_zero _))
        · skip
          have c5 : ¬ ((lN s) < (lN st.2.1)) := fun q => c5 ((lg_cmp_lt _ _).mpr q)
          have c5 : ¬ (s < st.2.1) := fun q => c5 ((pk_lLT (a := s) (b := st.2.1) (by omega) (by omega)).mpr q)
          refine exf_go 1 (show Q (mk_) h from ?_)
          rw [hval, htail] at kk
          rw [upS, if_pos ⟨by omega, by omega⟩] at kk; exact kk h Fq.rfl' hrs htk
    · skip
      exact absurd (by decide) c2
