/-! The model's trays. -/
def MT (t : Nat) (tr : TrG) (h : Hp) : Prop := match tr with
  | none => rI h 149 t = -1
  | some (so, n, v) => so ≤ 3 ∧ n ≤ 40 ∧ rI h 149 t = nI so ∧ rI h 150 t = nI n ∧ ∀ i, i < n → rJ h 151 (40 * t + i) = v i
def MTA (tr : Nat → TrG) (h : Hp) : Prop := ∀ t, t < 4 → MT t (tr t) h
theorem mt_same {t : Nat} {tr : TrG} {h h1 : Hp} (mt : MT t tr h) (e1 : rI h1 149 t = rI h 149 t) (e2 : rI h1 150 t = rI h 150 t) (e3 : ∀ i, i < 40 → rJ h1 151 (40 * t + i) = rJ h 151 (40 * t + i)) : MT t tr h1 := by
  match tr, mt with
  | none, mt => exact e1.trans mt
  | some (so, n, v), mt => exact ⟨mt.1, mt.2.1, e1.trans mt.2.2.1, e2.trans mt.2.2.2.1, fun i hi => by rw [e3 i (by have := mt.2.1; omega)]; exact mt.2.2.2.2 i hi⟩
theorem mta_fq {tr : Nat → TrG} {s : Nat → Nat → Bool} {h h1 : Hp} (ma : MTA tr h) (q : Fq s h h1) (h9 : ∀ x, s 149 x = false) (h0 : ∀ x, s 150 x = false) (h1' : ∀ x, s 151 x = false) : MTA tr h1 := fun t ht => mt_same (ma t ht) (q.1 149 t (h9 t)).1 (q.1 150 t (h0 t)).1 (fun i _ => (q.1 151 _ (h1' _)).2)
theorem mta_up {tr : Nat → TrG} {t : Nat} {u : TrG} {h h1 : Hp} (ma : MTA tr h) (ht : t < 4) (mt : MT t u h1) (e : ∀ s, s < 4 → s ≠ t → rI h1 149 s = rI h 149 s ∧ rI h1 150 s = rI h 150 s ∧ ∀ i, i < 40 → rJ h1 151 (40 * s + i) = rJ h 151 (40 * s + i)) : MTA (va_up tr t u) h1 := fun s hs => by
  by_cases q : s = t
  · subst q; rw [up_eq]; exact mt
  · rw [up_ne q]; exact mt_same (ma s hs) (e s hs q).1 (e s hs q).2.1 (e s hs q).2.2
def sMt (a x : Nat) : Bool := scM a x || (Nat.ble 149 a && Nat.ble a 151)
theorem M_T {h h1 : Hp} (q : Fq scM h h1) : Fq sMt h h1 := q.mono (fun a i e => by unfold sMt at e; rw [Bool.or_eq_false_iff] at e; exact e.1)
theorem mt_put {tr : Nat → TrG} {t so n i : Nat} {vs : Nat → Int64} {w : Int64} {h : Hp} (ma : MTA tr h) (ht : t < 4) (hi : i < 40) (mt : MT t (some (so, n, vs)) h) : MTA (va_up tr t (some (so, n, va_up vs i w))) (uJ h 151 (40 * t + i) w) := by
  obtain ⟨a1, a2, a3, a4, a5⟩ := mt
  refine mta_up ma ht ⟨a1, a2, a3, a4, fun j hj => ?_⟩ (fun s hs q => ⟨rfl, rfl, fun j hj => rJ_uJ_at (by omega)⟩)
  by_cases e : j = i
  · subst e; rw [rJ_uJ_eq, up_eq]
  · rw [rJ_uJ_at (by omega), up_ne e]; exact a5 j hj
theorem m_cut {d : Nat} {h : Hp} {x : Int64} {so : Nat} {Q : Po} (hs : so ≤ 3) (k : Q (.long (cutV so x)) h) : wpC (d + 1) true 292 [.long x, .int (nI so)] h Q := by
  refine go_in rfl ?_
  refine exf_go 2 (show (¬ (nI so) = 0 → Go d true 292 11 [.long x, mk_, .int (nI so)] [] h Q) ∧ (¬ (¬ (nI so) = 0) → Go d true 292 4 [.long x, mk_, .int (nI so)] [] h Q) from ⟨fun c1 => ?_, fun c1 => ?_⟩)
  · skip
    have c1 : ¬ so = 0 := fun q => c1 ((nI_eq (a := so) (b := 0) (by omega) (by omega)).mpr q)
    refine exf_go 3 (show (¬ (nI so) = 1 → Go d true 292 23 [.long x, mk_, .int (nI so)] [] h Q) ∧ (¬ (¬ (nI so) = 1) → Go d true 292 16 [.long x, mk_, .int (nI so)] [] h Q) from ⟨fun c2 => ?_, fun c2 => ?_⟩)
    · skip
      have c2 : ¬ so = 1 := fun q => c2 ((nI_eq (a := so) (b := 1) (by omega) (by omega)).mpr q)
      refine exf_go 3 (show (¬ (nI so) = 2 → Go d true 292 34 [.long x, mk_, .int (nI so)] [] h Q) ∧ (¬ (¬ (nI so) = 2) → Go d true 292 28 [.long x, mk_, .int (nI so)] [] h Q) from ⟨fun c3 => ?_, fun c3 => ?_⟩)
      · skip
        have c3 : ¬ so = 2 := fun q => c3 ((nI_eq (a := so) (b := 2) (by omega) (by omega)).mpr q)
        refine exf_go 2 (show Q (.long x) h from ?_)
        rw [cutV] at k; first | (rw [if_pos (by omega)] at k; exact k) | (rw [if_neg (by omega), if_pos (by omega)] at k; exact k) | (rw [if_neg (by omega), if_neg (by omega), if_pos (by omega)] at k; exact k) | (rw [if_neg (by omega), if_neg (by omega), if_neg (by omega)] at k; exact k)
      · skip
        have c3 : so = 2 := (nI_eq (a := so) (b := 2) (by omega) (by omega)).mp (Classical.not_not.mp c3)
        refine exf_go 5 (show Q (.long x.toInt32.toInt64) h from ?_)
        rw [cutV] at k; first | (rw [if_pos (by omega)] at k; exact k) | (rw [if_neg (by omega), if_pos (by omega)] at k; exact k) | (rw [if_neg (by omega), if_neg (by omega), if_pos (by omega)] at k; exact k) | (rw [if_neg (by omega), if_neg (by omega), if_neg (by omega)] at k; exact k)
    · skip
      have c2 : so = 1 := (nI_eq (a := so) (b := 1) (by omega) (by omega)).mp (Classical.not_not.mp c2)
      refine exf_go 6 (show Q (.long x.toInt32.toInt16.toInt32.toInt64) h from ?_)
      rw [cutV] at k; first | (rw [if_pos (by omega)] at k; exact k) | (rw [if_neg (by omega), if_pos (by omega)] at k; exact k) | (rw [if_neg (by omega), if_neg (by omega), if_pos (by omega)] at k; exact k) | (rw [if_neg (by omega), if_neg (by omega), if_neg (by omega)] at k; exact k)
  · skip
    have c1 : so = 0 := (nI_eq (a := so) (b := 0) (by omega) (by omega)).mp (Classical.not_not.mp c1)
    refine exf_go 6 (show Q (.long x.toInt32.toInt8.toInt32.toInt64) h from ?_)
    rw [cutV] at k; first | (rw [if_pos (by omega)] at k; exact k) | (rw [if_neg (by omega), if_pos (by omega)] at k; exact k) | (rw [if_neg (by omega), if_neg (by omega), if_pos (by omega)] at k; exact k) | (rw [if_neg (by omega), if_neg (by omega), if_neg (by omega)] at k; exact k)
theorem m_noTray {d : Nat} {h : Hp} {tr : Nat → TrG} {x : Int32} {Q : Po} (ma : MTA tr h) (kn : ixN x 4 = none → Q (.int (-2)) h) (k6 : ∀ j, ixN x 4 = some j → x = nI j → j < 4 → tr j = none → Q (.int (-6)) h) (k0 : ∀ j so n vs, ixN x 4 = some j → x = nI j → j < 4 → tr j = some (so, n, vs) → MT j (some (so, n, vs)) h → Q (.int 0) h) : wpC (d + 2) true 257 [.ref 130, .int x] h Q := by
  refine go_in rfl ?_
  refine exf_go 5 (show wpC (d + 1) true 183 [.long x.toInt64, .long 0, .long 3] h (fun r h' => Go (d + 1) true 257 9 [.ref 130, .int x] [r] h' Q) from ?_)
  refine m_within (fun u1 v1 => ?_) (fun u1 => ?_)
  · skip
    obtain ⟨j, e1, e2, e3⟩ := wi_in (n := 4) (by decide) u1 v1
    subst e2
    have mt := ma j e3
    show Go (d + 1) true 257 9 [.ref 130, .int (nI j)] [.int 1] h Q
    refine exf_go 1 (show (¬ (1 : Int32) = 0 → Go (d + 1) true 257 17 [.ref 130, .int (nI j)] [] h Q) ∧ (¬ (¬ (1 : Int32) = 0) → Go (d + 1) true 257 12 [.ref 130, .int (nI j)] [] h Q) from ⟨fun c1 => ?_, fun c1 => ?_⟩)
    · skip
      refine exf_go 4 (show vp_in (nI j) 4 ∧ (Go (d + 1) true 257 23 [.ref 130, .int (nI j)] [.int (rI h 149 ((nI j).toNatClampNeg))] h Q) from ⟨(vp_in_nI (by omega) (by omega)), ?_⟩)
      rw [show (rI h 149 ((nI j).toNatClampNeg) : Int32) = rI h 149 j from by rw [nI_clamp (by omega)]]
      refine exf_go 2 (show (¬ (rI h 149 j) = (-1) → Go (d + 1) true 257 32 [.ref 130, .int (nI j)] [] h Q) ∧ (¬ (¬ (rI h 149 j) = (-1)) → Go (d + 1) true 257 27 [.ref 130, .int (nI j)] [] h Q) from ⟨fun c2 => ?_, fun c2 => ?_⟩)
      · skip
        refine exf_go 2 (show Q (.int 0) h from ?_)
        rcases hq : tr j with _ | ⟨so, n, vs⟩
        · rw [hq] at mt; exact absurd mt c2
        · rw [hq] at mt; exact k0 j so n vs e1 rfl e3 hq mt
      · skip
        refine exf_go 3 (show Q (.int (-6)) h from ?_)
        have c2 := Classical.not_not.mp c2
        rcases hq : tr j with _ | ⟨so, n, vs⟩
        · exact k6 j e1 rfl e3 hq
        · rw [hq] at mt; rw [mt.2.2.1] at c2; exact absurd c2 (ng_eq (by have := mt.1; omega) (by decide))
    · skip
      exact absurd (by decide) c1
  · skip
    show Go (d + 1) true 257 9 [.ref 130, .int x] [.int 0] h Q
    refine exf_go 1 (show (¬ (0 : Int32) = 0 → Go (d + 1) true 257 17 [.ref 130, .int x] [] h Q) ∧ (¬ (¬ (0 : Int32) = 0) → Go (d + 1) true 257 12 [.ref 130, .int x] [] h Q) from ⟨fun c3 => ?_, fun c3 => ?_⟩)
    · skip
      exact absurd c3 (by decide)
    · skip
      refine exf_go 3 (show Q (.int (-2)) h from ?_)
      exact kn (u1.elim wi_neg (wi_ge (n := 4) (by decide)))
theorem m_numbers {d : Nat} {h : Hp} {tr : Nat → TrG} {x y z : Int32} {Q : Po} (ma : MTA tr h) (k : ∀ h1, Fq sMt h h1 → MTA (dNumbers tr x y z).1 h1 → Q (.int (dNumbers tr x y z).2) h1) : wpC (d + 2) true 293 [.ref 130, .int x, .int y, .int z] h Q := by
  refine go_in rfl ?_
  refine exf_go 8 (show wpC (d + 1) true 183 [.long x.toInt64, .long 0, .long 3] (uI h 130 0 0) (fun r h' => Go (d + 1) true 293 14 [.ref 130, .int x, .int y, .int z, mk_] [r] h' Q) from ?_)
  refine m_within (fun u1 v1 => ?_) (fun u1 => ?_)
  · skip
    obtain ⟨jx, ex, exq, exr⟩ := wi_in (n := 4) (by decide) u1 v1
    subst exq
    show Go (d + 1) true 293 14 [.ref 130, .int (nI jx), .int y, .int z, mk_] [.int 1] (uI h 130 0 0) Q
    refine exf_go 1 (show ((1 : Int32) = 0 → Go (d + 1) true 293 29 [.ref 130, .int (nI jx), .int y, .int z, mk_] [] (uI h 130 0 0) Q) ∧ (¬ ((1 : Int32) = 0) → Go (d + 1) true 293 17 [.ref 130, .int (nI jx), .int y, .int z, mk_] [] (uI h 130 0 0) Q) from ⟨fun c2 => ?_, fun c2 => ?_⟩)
    · skip
      exact absurd c2 (by decide)
    · skip
      refine exf_go 5 (show wpC (d + 1) true 183 [.long y.toInt64, .long 0, .long 3] (uI h 130 0 0) (fun r h' => Go (d + 1) true 293 26 [.ref 130, .int (nI jx), .int y, .int z, mk_] [r] h' Q) from ?_)
      refine m_within (fun u3 v3 => ?_) (fun u3 => ?_)
      · skip
        obtain ⟨jy, ey, eyq, eyr⟩ := wi_in (n := 4) (by decide) u3 v3
        subst eyq
        show Go (d + 1) true 293 26 [.ref 130, .int (nI jx), .int (nI jy), .int z, mk_] [.int 1] (uI h 130 0 0) Q
        refine exf_go 1 (show (¬ (1 : Int32) = 0 → Go (d + 1) true 293 32 [.ref 130, .int (nI jx), .int (nI jy), .int z, mk_] [] (uI h 130 0 0) Q) ∧ (¬ (¬ (1 : Int32) = 0) → Go (d + 1) true 293 29 [.ref 130, .int (nI jx), .int (nI jy), .int z, mk_] [] (uI h 130 0 0) Q) from ⟨fun c4 => ?_, fun c4 => ?_⟩)
        · skip
          refine exf_go 5 (show wpC (d + 1) true 183 [.long z.toInt64, .long 0, .long 40] (uI h 130 0 0) (fun r h' => Go (d + 1) true 293 41 [.ref 130, .int (nI jx), .int (nI jy), .int z, mk_] [r] h' Q) from ?_)
          refine m_within (fun u5 v5 => ?_) (fun u5 => ?_)
          · skip
            obtain ⟨jz, ez, ezq, ezr⟩ := wi_in (n := 41) (by decide) u5 v5
            subst ezq
            show Go (d + 1) true 293 41 [.ref 130, .int (nI jx), .int (nI jy), .int (nI jz), mk_] [.int 1] (uI h 130 0 0) Q
            refine exf_go 1 (show (¬ (1 : Int32) = 0 → Go (d + 1) true 293 47 [.ref 130, .int (nI jx), .int (nI jy), .int (nI jz), mk_] [] (uI h 130 0 0) Q) ∧ (¬ (¬ (1 : Int32) = 0) → Go (d + 1) true 293 44 [.ref 130, .int (nI jx), .int (nI jy), .int (nI jz), mk_] [] (uI h 130 0 0) Q) from ⟨fun c6 => ?_, fun c6 => ?_⟩)
            · skip
              refine exf_go 12 (show vp_in (nI jx) 4 ∧ vp_in (nI jx) 4 ∧ (Go (d + 1) true 293 64 [.ref 130, .int (nI jx), .int (nI jy), .int (nI jz), .int 0] [] (uI (uI (uI h 130 0 0) 149 ((nI jx).toNatClampNeg) (nI jy)) 150 ((nI jx).toNatClampNeg) (nI jz)) Q) from ⟨(vp_in_nI (by omega) (by omega)), (vp_in_nI (by omega) (by omega)), ?_⟩)
              have L64 : ∀ (k64 : Nat) (j : Nat) (h1 : Hp), (jz - j) < k64 → (j ≤ jz) → (Fq sMt h h1) → (rI h1 149 jx = nI jy) → (rI h1 150 jx = nI jz) → (∀ i, i < j → rJ h1 151 (40 * jx + i) = 0) → (∀ s, s < 4 → s ≠ jx → rI h1 149 s = rI h 149 s ∧ rI h1 150 s = rI h 150 s ∧ ∀ i, i < 40 → rJ h1 151 (40 * s + i) = rJ h 151 (40 * s + i)) → Go (d + 1) true 293 64 [.ref 130, .int (nI jx), .int (nI jy), .int (nI jz), .int (nI j)] [] h1 Q := by
                intro k64
                induction k64 with
                | zero => intro j h1 hk; exact absurd hk (Nat.not_lt_zero _)
                | succ k64 ih64 =>
                  intro j h1 hk hj q1 h9 h0 hz hoth
                  refine exf_go 3 (show ((nI jz) ≤ (nI j) → Go (d + 1) true 293 89 [.ref 130, .int (nI jx), .int (nI jy), .int (nI jz), .int (nI j)] [] h1 Q) ∧ (¬ ((nI jz) ≤ (nI j)) → Go (d + 1) true 293 70 [.ref 130, .int (nI jx), .int (nI jy), .int (nI jz), .int (nI j)] [] h1 Q) from ⟨fun c7 => ?_, fun c7 => ?_⟩)
                  · skip
                    have c7 : jz ≤ j := (nI_leI (a := jz) (b := j) (by omega) (by omega)).mp c7
                    refine exf_go 2 (show Q (.int 0) h1 from ?_)
                    simp only [dNumbers, ex, ey, ez] at k
                    exact k _ q1 (mta_up ma (by omega) ⟨by omega, by omega, h9, h0, fun i hi => hz i (by omega)⟩ hoth)
                  · skip
                    have c7 : ¬ jz ≤ j := fun q => c7 ((nI_leI (a := jz) (b := j) (by omega) (by omega)).mpr q)
                    refine exf_go 5 (show Go (d + 1) true 293 78 [.ref 130, .int (nI jx), .int (nI jy), .int (nI jz), .int (nI j)] [.int (40 * (nI jx)), .ref 151] h1 Q from ?_)
                    rw [show (40 * (nI jx) : Int32) = nI (40 * jx) from pk_mul 40 jx]
                    refine exf_go 2 (show Go (d + 1) true 293 81 [.ref 130, .int (nI jx), .int (nI jy), .int (nI jz), .int (nI j)] [.int ((nI (40 * jx)) + (nI j)), .ref 151] h1 Q from ?_)
                    rw [show ((nI (40 * jx)) + (nI j) : Int32) = nI ((40 * jx) + j) from nI_add (40 * jx) j]
                    refine exf_go 3 (show vp_in (nI ((40 * jx) + j)) 160 ∧ (Go (d + 1) true 293 86 [.ref 130, .int (nI jx), .int (nI jy), .int (nI jz), .int ((nI j) + 1)] [] (uJ h1 151 ((nI ((40 * jx) + j)).toNatClampNeg) 0) Q) from ⟨(vp_in_nI (by omega) (by omega)), ?_⟩)
                    rw [show ((nI j) + 1 : Int32) = nI (j + 1) from nI_add j 1]
                    refine exf_go 1 (show Go (d + 1) true 293 64 [.ref 130, .int (nI jx), .int (nI jy), .int (nI jz), .int (nI (j + 1))] [] (uJ h1 151 ((nI ((40 * jx) + j)).toNatClampNeg) 0) Q from ?_)
                    exact ih64 (j + 1) _ (by omega) (by omega) (q1.uJ' _ _ _ rfl) h9 h0 (fun i hi => by rw [nI_clamp (by omega)]; exact (Decidable.em (i = j)).elim (fun e => by rw [e, rJ_uJ_eq]) (fun e => by rw [rJ_uJ_at (by omega)]; exact hz i (by omega))) (fun s hs q => ⟨(hoth s hs q).1, (hoth s hs q).2.1, fun i hi => by rw [nI_clamp (by omega), rJ_uJ_at (by omega)]; exact (hoth s hs q).2.2 i hi⟩)
              exact L64 (jz + 1) 0 _ (by omega) (by omega) (Fq.uI' (Fq.uI' (Fq.uI' Fq.rfl' _ _ _ rfl) _ _ _ rfl) _ _ _ rfl) (by rw [rI_uI_ne (by decide), nI_clamp (by omega), rI_uI_eq]) (by rw [nI_clamp (n := jx) (by omega), rI_uI_eq]) (fun i hi => absurd hi (Nat.not_lt_zero _)) (fun s hs q => by rw [nI_clamp (n := jx) (by omega)]; exact ⟨(congrFun (rI_uI_ne (by decide)) s).trans ((rI_uI_at q).trans rfl), (rI_uI_at q).trans rfl, fun i hi => rfl⟩)
            · skip
              exact absurd (by decide) c6
          · skip
            have ez : ixN z 41 = none := u5.elim wi_neg (wi_ge (n := 41) (by decide))
            show Go (d + 1) true 293 41 [.ref 130, .int (nI jx), .int (nI jy), .int z, mk_] [.int 0] (uI h 130 0 0) Q
            refine exf_go 1 (show (¬ (0 : Int32) = 0 → Go (d + 1) true 293 47 [.ref 130, .int (nI jx), .int (nI jy), .int z, mk_] [] (uI h 130 0 0) Q) ∧ (¬ (¬ (0 : Int32) = 0) → Go (d + 1) true 293 44 [.ref 130, .int (nI jx), .int (nI jy), .int z, mk_] [] (uI h 130 0 0) Q) from ⟨fun c8 => ?_, fun c8 => ?_⟩)
            · skip
              exact absurd c8 (by decide)
            · skip
              refine exf_go 2 (show Q (.int (-3)) (uI h 130 0 0) from ?_)
              simp only [dNumbers, ex, ey, ez] at k
              exact k _ (Fq.uI' Fq.rfl' _ _ _ rfl) (mta_fq (s := scM) ma (Fq.uI' Fq.rfl' _ _ _ rfl) (fun _ => rfl) (fun _ => rfl) (fun _ => rfl))
        · skip
          exact absurd (by decide) c4
      · skip
        have ey : ixN y 4 = none := u3.elim wi_neg (wi_ge (n := 4) (by decide))
        show Go (d + 1) true 293 26 [.ref 130, .int (nI jx), .int y, .int z, mk_] [.int 0] (uI h 130 0 0) Q
        refine exf_go 1 (show (¬ (0 : Int32) = 0 → Go (d + 1) true 293 32 [.ref 130, .int (nI jx), .int y, .int z, mk_] [] (uI h 130 0 0) Q) ∧ (¬ (¬ (0 : Int32) = 0) → Go (d + 1) true 293 29 [.ref 130, .int (nI jx), .int y, .int z, mk_] [] (uI h 130 0 0) Q) from ⟨fun c9 => ?_, fun c9 => ?_⟩)
        · skip
          exact absurd c9 (by decide)
        · skip
          refine exf_go 2 (show Q (.int (-2)) (uI h 130 0 0) from ?_)
          simp only [dNumbers, ex, ey] at k
          exact k _ (Fq.uI' Fq.rfl' _ _ _ rfl) (mta_fq (s := scM) ma (Fq.uI' Fq.rfl' _ _ _ rfl) (fun _ => rfl) (fun _ => rfl) (fun _ => rfl))
  · skip
    have ex : ixN x 4 = none := u1.elim wi_neg (wi_ge (n := 4) (by decide))
    show Go (d + 1) true 293 14 [.ref 130, .int x, .int y, .int z, mk_] [.int 0] (uI h 130 0 0) Q
    refine exf_go 1 (show ((0 : Int32) = 0 → Go (d + 1) true 293 29 [.ref 130, .int x, .int y, .int z, mk_] [] (uI h 130 0 0) Q) ∧ (¬ ((0 : Int32) = 0) → Go (d + 1) true 293 17 [.ref 130, .int x, .int y, .int z, mk_] [] (uI h 130 0 0) Q) from ⟨fun c10 => ?_, fun c10 => ?_⟩)
    · skip
      refine exf_go 2 (show Q (.int (-2)) (uI h 130 0 0) from ?_)
      simp only [dNumbers, ex] at k
      exact k _ (Fq.uI' Fq.rfl' _ _ _ rfl) (mta_fq (s := scM) ma (Fq.uI' Fq.rfl' _ _ _ rfl) (fun _ => rfl) (fun _ => rfl) (fun _ => rfl))
    · skip
      exact absurd (by decide) c10
theorem m_write {d : Nat} {h : Hp} {tr : Nat → TrG} {x y : Int32} {v : Int64} {Q : Po} (ma : MTA tr h) (k : ∀ h1, Fq sMt h h1 → MTA (dWrite tr x y v).1 h1 → Q (.long (dWrite tr x y v).2) h1) : wpC (d + 3) true 294 [.ref 130, .int x, .int y, .long v] h Q := by
  refine go_in rfl ?_
  refine exf_go 6 (show wpC (d + 2) true 257 [.ref 130, .int x] (uI h 130 0 0) (fun r h' => Go (d + 2) true 294 10 [.ref 130, .int x, .int y, .long v, mk_, mk_] [r] h' Q) from ?_)
  refine m_noTray (x := x) (mta_fq (s := scM) ma (Fq.uI' Fq.rfl' _ _ _ rfl) (fun _ => rfl) (fun _ => rfl) (fun _ => rfl)) (fun et => ?_) (fun tt et etq etr hq => ?_) (fun tt so n vs et etq etr hq mt => ?_)
  · skip
    show Go (d + 2) true 294 10 [.ref 130, .int x, .int y, .long v, mk_, mk_] [.int (-2)] (uI h 130 0 0) Q
    refine exf_go 3 (show (((-2) : Int32) = 0 → Go (d + 2) true 294 21 [.ref 130, .int x, .int y, .long v, mk_, .int (-2)] [] (uI h 130 0 0) Q) ∧ (¬ (((-2) : Int32) = 0) → Go (d + 2) true 294 17 [.ref 130, .int x, .int y, .long v, mk_, .int (-2)] [] (uI h 130 0 0) Q) from ⟨fun c1 => ?_, fun c1 => ?_⟩)
    · skip
      exact absurd c1 (by decide)
    · skip
      refine exf_go 3 (show Q (.long (((-2) : Int32).toInt64)) (uI h 130 0 0) from ?_)
      simp only [dWrite, et] at k
      exact k _ (Fq.uI' Fq.rfl' _ _ _ rfl) (mta_fq (s := scM) ma (Fq.uI' Fq.rfl' _ _ _ rfl) (fun _ => rfl) (fun _ => rfl) (fun _ => rfl))
  · skip
    subst etq
    show Go (d + 2) true 294 10 [.ref 130, .int (nI tt), .int y, .long v, mk_, mk_] [.int (-6)] (uI h 130 0 0) Q
    refine exf_go 3 (show (((-6) : Int32) = 0 → Go (d + 2) true 294 21 [.ref 130, .int (nI tt), .int y, .long v, mk_, .int (-6)] [] (uI h 130 0 0) Q) ∧ (¬ (((-6) : Int32) = 0) → Go (d + 2) true 294 17 [.ref 130, .int (nI tt), .int y, .long v, mk_, .int (-6)] [] (uI h 130 0 0) Q) from ⟨fun c2 => ?_, fun c2 => ?_⟩)
    · skip
      exact absurd c2 (by decide)
    · skip
      refine exf_go 3 (show Q (.long (((-6) : Int32).toInt64)) (uI h 130 0 0) from ?_)
      simp only [dWrite, et, hq] at k
      exact k _ (Fq.uI' Fq.rfl' _ _ _ rfl) (mta_fq (s := scM) ma (Fq.uI' Fq.rfl' _ _ _ rfl) (fun _ => rfl) (fun _ => rfl) (fun _ => rfl))
  · skip
    subst etq
    have hn4 := mt.2.1; have hs3 := mt.1
    show Go (d + 2) true 294 10 [.ref 130, .int (nI tt), .int y, .long v, mk_, mk_] [.int 0] (uI h 130 0 0) Q
    refine exf_go 3 (show ((0 : Int32) = 0 → Go (d + 2) true 294 21 [.ref 130, .int (nI tt), .int y, .long v, mk_, .int 0] [] (uI h 130 0 0) Q) ∧ (¬ ((0 : Int32) = 0) → Go (d + 2) true 294 17 [.ref 130, .int (nI tt), .int y, .long v, mk_, .int 0] [] (uI h 130 0 0) Q) from ⟨fun c3 => ?_, fun c3 => ?_⟩)
    · skip
      refine exf_go 7 (show vp_in (nI tt) 4 ∧ (Go (d + 2) true 294 30 [.ref 130, .int (nI tt), .int y, .long v, mk_, .int 0] [.int (rI h 150 ((nI tt).toNatClampNeg)), .long 0, .long y.toInt64] (uI h 130 0 0) Q) from ⟨(vp_in_nI (by omega) (by omega)), ?_⟩)
      rw [show (rI h 150 ((nI tt).toNatClampNeg) : Int32) = nI n from by rw [nI_clamp (by omega)]; exact mt.2.2.2.1]
      refine exf_go 2 (show Go (d + 2) true 294 32 [.ref 130, .int (nI tt), .int y, .long v, mk_, .int 0] [.int ((nI n) - 1), .long 0, .long y.toInt64] (uI h 130 0 0) Q from ?_)
      rw [show ((nI n) - 1 : Int32) = pI n from pI_sub _]
      refine exf_go 2 (show wpC (d + 2) true 183 [.long y.toInt64, .long 0, .long ((pI n).toInt64)] (uI h 130 0 0) (fun r h' => Go (d + 2) true 294 36 [.ref 130, .int (nI tt), .int y, .long v, mk_, .int 0] [r] h' Q) from ?_)
      refine m_within (fun u1 v1 => ?_) (fun u1 => ?_)
      · skip
        obtain ⟨jy, ey, eyq, eyr⟩ := wi_in (n := n) (by omega) u1 v1
        subst eyq
        show Go (d + 2) true 294 36 [.ref 130, .int (nI tt), .int (nI jy), .long v, mk_, .int 0] [.int 1] (uI h 130 0 0) Q
        refine exf_go 1 (show (¬ (1 : Int32) = 0 → Go (d + 2) true 294 43 [.ref 130, .int (nI tt), .int (nI jy), .long v, mk_, .int 0] [] (uI h 130 0 0) Q) ∧ (¬ (¬ (1 : Int32) = 0) → Go (d + 2) true 294 39 [.ref 130, .int (nI tt), .int (nI jy), .long v, mk_, .int 0] [] (uI h 130 0 0) Q) from ⟨fun c4 => ?_, fun c4 => ?_⟩)
        · skip
          refine exf_go 5 (show Go (d + 2) true 294 51 [.ref 130, .int (nI tt), .int (nI jy), .long v, mk_, .int 0] [.int (40 * (nI tt)), .ref 151] (uI h 130 0 0) Q from ?_)
          rw [show (40 * (nI tt) : Int32) = nI (40 * tt) from pk_mul 40 tt]
          refine exf_go 2 (show Go (d + 2) true 294 53 [.ref 130, .int (nI tt), .int (nI jy), .long v, mk_, .int 0] [.int ((nI (40 * tt)) + (nI jy)), .ref 151] (uI h 130 0 0) Q from ?_)
          rw [show ((nI (40 * tt)) + (nI jy) : Int32) = nI ((40 * tt) + jy) from nI_add (40 * tt) jy]
          refine exf_go 5 (show vp_in (nI tt) 4 ∧ (Go (d + 2) true 294 60 [.ref 130, .int (nI tt), .int (nI jy), .long v, mk_, .int 0] [.int (rI h 149 ((nI tt).toNatClampNeg)), .long v, .int (nI ((40 * tt) + jy)), .ref 151] (uI h 130 0 0) Q) from ⟨(vp_in_nI (by omega) (by omega)), ?_⟩)
          rw [show (rI h 149 ((nI tt).toNatClampNeg) : Int32) = nI so from by rw [nI_clamp (by omega)]; exact mt.2.2.1]
          refine exf_go 1 (show wpC (d + 2) true 292 [.long v, .int (nI so)] (uI h 130 0 0) (fun r h' => Go (d + 2) true 294 63 [.ref 130, .int (nI tt), .int (nI jy), .long v, mk_, .int 0] [r, .int (nI ((40 * tt) + jy)), .ref 151] h' Q) from ?_)
          refine m_cut (so := so) (by omega) ?_
          show Go (d + 2) true 294 63 [.ref 130, .int (nI tt), .int (nI jy), .long v, mk_, .int 0] [.long (cutV so v), .int (nI ((40 * tt) + jy)), .ref 151] (uI h 130 0 0) Q
          refine exf_go 6 (show vp_in (nI ((40 * tt) + jy)) 160 ∧ (Go (d + 2) true 294 72 [.ref 130, .int (nI tt), .int (nI jy), .long v, mk_, .int 0] [.int (40 * (nI tt)), .ref 151] (uJ (uI h 130 0 0) 151 ((nI ((40 * tt) + jy)).toNatClampNeg) (cutV so v)) Q) from ⟨(vp_in_nI (by omega) (by omega)), ?_⟩)
          rw [show (40 * (nI tt) : Int32) = nI (40 * tt) from pk_mul 40 tt]
          refine exf_go 2 (show Go (d + 2) true 294 74 [.ref 130, .int (nI tt), .int (nI jy), .long v, mk_, .int 0] [.int ((nI (40 * tt)) + (nI jy)), .ref 151] (uJ (uI h 130 0 0) 151 ((nI ((40 * tt) + jy)).toNatClampNeg) (cutV so v)) Q from ?_)
          rw [show ((nI (40 * tt)) + (nI jy) : Int32) = nI ((40 * tt) + jy) from nI_add (40 * tt) jy]
          refine exf_go 1 (show vp_in (nI ((40 * tt) + jy)) 160 ∧ (Go (d + 2) true 294 75 [.ref 130, .int (nI tt), .int (nI jy), .long v, mk_, .int 0] [.long (rJ (uJ (uI h 130 0 0) 151 ((nI ((40 * tt) + jy)).toNatClampNeg) (cutV so v)) 151 ((nI ((40 * tt) + jy)).toNatClampNeg))] (uJ (uI h 130 0 0) 151 ((nI ((40 * tt) + jy)).toNatClampNeg) (cutV so v)) Q) from ⟨(vp_in_nI (by omega) (by omega)), ?_⟩)
          rw [show (rJ (uJ (uI h 130 0 0) 151 ((nI ((40 * tt) + jy)).toNatClampNeg) (cutV so v)) 151 ((nI ((40 * tt) + jy)).toNatClampNeg) : Int64) = cutV so v from rJ_uJ_eq]
          refine exf_go 1 (show Q (.long (cutV so v)) (uJ (uI h 130 0 0) 151 ((nI ((40 * tt) + jy)).toNatClampNeg) (cutV so v)) from ?_)
          simp only [dWrite, et, hq, ey] at k
          rw [nI_clamp (by omega)]
          exact k _ ((Fq.uI' Fq.rfl' _ _ _ rfl).uJ' _ _ _ rfl) (mt_put (mta_fq (s := scM) ma (Fq.uI' Fq.rfl' _ _ _ rfl) (fun _ => rfl) (fun _ => rfl) (fun _ => rfl)) etr (by omega) mt)
        · skip
          exact absurd (by decide) c4
      · skip
        have ey : ixN y n = none := u1.elim wi_neg (wi_ge (by omega))
        show Go (d + 2) true 294 36 [.ref 130, .int (nI tt), .int y, .long v, mk_, .int 0] [.int 0] (uI h 130 0 0) Q
        refine exf_go 1 (show (¬ (0 : Int32) = 0 → Go (d + 2) true 294 43 [.ref 130, .int (nI tt), .int y, .long v, mk_, .int 0] [] (uI h 130 0 0) Q) ∧ (¬ (¬ (0 : Int32) = 0) → Go (d + 2) true 294 39 [.ref 130, .int (nI tt), .int y, .long v, mk_, .int 0] [] (uI h 130 0 0) Q) from ⟨fun c5 => ?_, fun c5 => ?_⟩)
        · skip
          exact absurd c5 (by decide)
        · skip
          refine exf_go 2 (show Q (.long (-7)) (uI h 130 0 0) from ?_)
          simp only [dWrite, et, hq, ey] at k
          exact k _ (Fq.uI' Fq.rfl' _ _ _ rfl) (mta_fq (s := scM) ma (Fq.uI' Fq.rfl' _ _ _ rfl) (fun _ => rfl) (fun _ => rfl) (fun _ => rfl))
    · skip
      exact absurd (by decide) c3
theorem m_copy {d : Nat} {h : Hp} {g : ShG} {l : LkG} {tr : Nat → TrG} {x : Int32} {Q : Po} (ms : MS g l h) (ma : MTA tr h) (k : ∀ h1, Fq sMt h h1 → MTA (dCopy g l tr x).1 h1 → Q (.int (dCopy g l tr x).2) h1) : wpC (d + 6) true 295 [.ref 130, .int x] h Q := by
  have hN := tot_b ms.1.1
  have h4 := ms.1.1.1
  have h8 := ms.1.1.2.2.2.1
  have he := evr_b ms.1.1
  have hev : evr g = 2 ^ sC g - 1 := rfl
  have hm4 := ms.1.1.2.2.2.2.2.1
  have hkb := ms.1.1.2.2.2.2.2.2.1
  refine go_in rfl ?_
  refine exf_go 6 (show wpC (d + 5) true 257 [.ref 130, .int x] (uI h 130 0 0) (fun r h' => Go (d + 5) true 295 10 [.ref 130, .int x, mk_, mk_, mk_] [r] h' Q) from ?_)
  refine m_noTray (x := x) (mta_fq (s := scM) ma (Fq.uI' Fq.rfl' _ _ _ rfl) (fun _ => rfl) (fun _ => rfl) (fun _ => rfl)) (fun et => ?_) (fun tt et etq etr hq => ?_) (fun tt so n vs et etq etr hq mt => ?_)
  · skip
    show Go (d + 5) true 295 10 [.ref 130, .int x, mk_, mk_, mk_] [.int (-2)] (uI h 130 0 0) Q
    refine exf_go 3 (show (((-2) : Int32) = 0 → Go (d + 5) true 295 17 [.ref 130, .int x, .int (-2), mk_, mk_] [] (uI h 130 0 0) Q) ∧ (¬ (((-2) : Int32) = 0) → Go (d + 5) true 295 15 [.ref 130, .int x, .int (-2), mk_, mk_] [] (uI h 130 0 0) Q) from ⟨fun c1 => ?_, fun c1 => ?_⟩)
    · skip
      exact absurd c1 (by decide)
    · skip
      refine exf_go 2 (show Q (.int (-2)) (uI h 130 0 0) from ?_)
      simp only [dCopy, et] at k
      exact k _ (Fq.uI' Fq.rfl' _ _ _ rfl) (mta_fq (s := scM) ma (Fq.uI' Fq.rfl' _ _ _ rfl) (fun _ => rfl) (fun _ => rfl) (fun _ => rfl))
  · skip
    subst etq
    show Go (d + 5) true 295 10 [.ref 130, .int (nI tt), mk_, mk_, mk_] [.int (-6)] (uI h 130 0 0) Q
    refine exf_go 3 (show (((-6) : Int32) = 0 → Go (d + 5) true 295 17 [.ref 130, .int (nI tt), .int (-6), mk_, mk_] [] (uI h 130 0 0) Q) ∧ (¬ (((-6) : Int32) = 0) → Go (d + 5) true 295 15 [.ref 130, .int (nI tt), .int (-6), mk_, mk_] [] (uI h 130 0 0) Q) from ⟨fun c2 => ?_, fun c2 => ?_⟩)
    · skip
      exact absurd c2 (by decide)
    · skip
      refine exf_go 2 (show Q (.int (-6)) (uI h 130 0 0) from ?_)
      simp only [dCopy, et, hq] at k
      exact k _ (Fq.uI' Fq.rfl' _ _ _ rfl) (mta_fq (s := scM) ma (Fq.uI' Fq.rfl' _ _ _ rfl) (fun _ => rfl) (fun _ => rfl) (fun _ => rfl))
  · skip
    subst etq
    have hn4 := mt.2.1; have hs3 := mt.1
    show Go (d + 5) true 295 10 [.ref 130, .int (nI tt), mk_, mk_, mk_] [.int 0] (uI h 130 0 0) Q
    refine exf_go 3 (show ((0 : Int32) = 0 → Go (d + 5) true 295 17 [.ref 130, .int (nI tt), .int 0, mk_, mk_] [] (uI h 130 0 0) Q) ∧ (¬ ((0 : Int32) = 0) → Go (d + 5) true 295 15 [.ref 130, .int (nI tt), .int 0, mk_, mk_] [] (uI h 130 0 0) Q) from ⟨fun c3 => ?_, fun c3 => ?_⟩)
    · skip
      refine exf_go 2 (show wpC (d + 5) true 228 [.ref 130] (uI h 130 0 0) (fun _ h' => Go (d + 5) true 295 21 [.ref 130, .int (nI tt), .int 0, mk_, mk_] [] h' Q) from ?_)
      refine m_laysLeft (ms_fq ms (Fq.uI' Fq.rfl' _ _ _ rfl)) (fun h1 p1 mw1 mo1 => ?_)
      have q1 := Fq.tr (Fq.uI' Fq.rfl' _ _ _ rfl) p1
      have ms1 := ms_fq ms q1
      have hcc := cntN_le (lft g l) (tot g)
      have ma1 : MTA tr h1 := mta_fq ma q1 (fun _ => rfl) (fun _ => rfl) (fun _ => rfl)
      have mt1 : MT tt (some (so, n, vs)) h1 := by have := ma1 tt etr; rw [hq] at this; exact this
      show Go (d + 5) true 295 21 [.ref 130, .int (nI tt), .int 0, mk_, mk_] [] h1 Q
      refine exf_go 2 (show Go (d + 5) true 295 25 [.ref 130, .int (nI tt), .int 0, mk_, mk_] [.int (rI h1 130 22)] h1 Q from ?_)
      rw [show (rI h1 130 22 : Int32) = nI (cntN (lft g l) (tot g)) from mo1.1]
      refine exf_go 4 (show vp_in (nI tt) 4 ∧ (Go (d + 5) true 295 31 [.ref 130, .int (nI tt), .int 0, mk_, mk_] [.int (rI h1 150 ((nI tt).toNatClampNeg)), .int (nI (cntN (lft g l) (tot g)))] h1 Q) from ⟨(vp_in_nI (by omega) (by omega)), ?_⟩)
      rw [show (rI h1 150 ((nI tt).toNatClampNeg) : Int32) = nI n from by rw [nI_clamp (by omega)]; exact mt1.2.2.2.1]
      refine exf_go 1 (show ((nI n) ≤ (nI (cntN (lft g l) (tot g))) → Go (d + 5) true 295 41 [.ref 130, .int (nI tt), .int 0, mk_, mk_] [] h1 Q) ∧ (¬ ((nI n) ≤ (nI (cntN (lft g l) (tot g)))) → Go (d + 5) true 295 34 [.ref 130, .int (nI tt), .int 0, mk_, mk_] [] h1 Q) from ⟨fun c4 => ?_, fun c4 => ?_⟩)
      · skip
        have c4 : n ≤ (cntN (lft g l) (tot g)) := (nI_leI (a := n) (b := (cntN (lft g l) (tot g))) (by omega) (by omega)).mp c4
        refine exf_go 4 (show vp_in (nI tt) 4 ∧ (Go (d + 5) true 295 47 [.ref 130, .int (nI tt), .int 0, mk_, mk_] [.int (rI h1 150 ((nI tt).toNatClampNeg))] h1 Q) from ⟨(vp_in_nI (by omega) (by omega)), ?_⟩)
        rw [show (rI h1 150 ((nI tt).toNatClampNeg) : Int32) = nI n from by rw [nI_clamp (by omega)]; exact mt1.2.2.2.1]
        refine exf_go 3 (show Go (d + 5) true 295 51 [.ref 130, .int (nI tt), .int 0, .int (nI n), .int 0] [] h1 Q from ?_)
        have L51 : ∀ (k51 : Nat) (i : Nat) (h2 : Hp), (n - i) < k51 → (i ≤ min (cntN (lft g l) (tot g)) n) → (Fq sMt h1 h2) → (Fq (sAt 151) h1 h2) → (MTA (va_up tr tt (some (so, n, cpyV g l so i vs))) h2) → Go (d + 5) true 295 51 [.ref 130, .int (nI tt), .int 0, .int (nI n), .int (nI i)] [] h2 Q := by
          intro k51
          induction k51 with
          | zero => intro i h2 hk; exact absurd hk (Nat.not_lt_zero _)
          | succ k51 ih51 =>
            intro i h2 hk hi q2 q2b ma2
            have mt2 : MT tt (some (so, n, cpyV g l so i vs)) h2 := by have := ma2 tt etr; rw [up_eq] at this; exact this
            have mo2 := mo_fq mo1 q2b rfl (fun _ => rfl)
            refine exf_go 3 (show ((nI n) ≤ (nI i) → Go (d + 5) true 295 92 [.ref 130, .int (nI tt), .int 0, .int (nI n), .int (nI i)] [] h2 Q) ∧ (¬ ((nI n) ≤ (nI i)) → Go (d + 5) true 295 57 [.ref 130, .int (nI tt), .int 0, .int (nI n), .int (nI i)] [] h2 Q) from ⟨fun c5 => ?_, fun c5 => ?_⟩)
            · skip
              have c5 : n ≤ i := (nI_leI (a := n) (b := i) (by omega) (by omega)).mp c5
              refine exf_go 2 (show Q (.int (nI n)) h2 from ?_)
              simp only [dCopy, et, hq] at k
              rw [show i = min (cntL g l) n from by unfold cntL; omega] at ma2
              rw [show n = min (cntL g l) n from by unfold cntL; omega]
              exact k _ ((M_T q1).tr q2) ma2
            · skip
              have c5 : ¬ n ≤ i := fun q => c5 ((nI_leI (a := n) (b := i) (by omega) (by omega)).mpr q)
              refine exf_go 5 (show Go (d + 5) true 295 65 [.ref 130, .int (nI tt), .int 0, .int (nI n), .int (nI i)] [.int (40 * (nI tt)), .ref 151] h2 Q from ?_)
              rw [show (40 * (nI tt) : Int32) = nI (40 * tt) from pk_mul 40 tt]
              refine exf_go 2 (show Go (d + 5) true 295 68 [.ref 130, .int (nI tt), .int 0, .int (nI n), .int (nI i)] [.int ((nI (40 * tt)) + (nI i)), .ref 151] h2 Q from ?_)
              rw [show ((nI (40 * tt)) + (nI i) : Int32) = nI ((40 * tt) + i) from nI_add (40 * tt) i]
              refine exf_go 4 (show vp_in (nI i) 10000 ∧ (Go (d + 5) true 295 75 [.ref 130, .int (nI tt), .int 0, .int (nI n), .int (nI i)] [.int (rI h2 140 ((nI i).toNatClampNeg)), .int (nI ((40 * tt) + i)), .ref 151] h2 Q) from ⟨(vp_in_nI (by omega) (by omega)), ?_⟩)
              rw [show (rI h2 140 ((nI i).toNatClampNeg) : Int32) = nI (ordE (lft g l) g (evr g) i) from mo_atE ms.1.1 mo2 (k := i) (by omega)]
              have hoi := ordE_in (E := (lft g l)) (g := g) (kn := (evr g)) (k := i) (by omega)
              refine exf_go 1 (show Go (d + 5) true 295 76 [.ref 130, .int (nI tt), .int 0, .int (nI n), .int (nI i)] [.long ((nI (ordE (lft g l) g (evr g) i)).toInt64), .int (nI ((40 * tt) + i)), .ref 151] h2 Q from ?_)
              rw [show ((nI (ordE (lft g l) g (evr g) i)).toInt64 : Int64) = lN (ordE (lft g l) g (evr g) i) from nI_l (n := (ordE (lft g l) g (evr g) i)) (by omega)]
              refine exf_go 4 (show vp_in (nI tt) 4 ∧ (Go (d + 5) true 295 82 [.ref 130, .int (nI tt), .int 0, .int (nI n), .int (nI i)] [.int (rI h2 149 ((nI tt).toNatClampNeg)), .long (lN (ordE (lft g l) g (evr g) i)), .int (nI ((40 * tt) + i)), .ref 151] h2 Q) from ⟨(vp_in_nI (by omega) (by omega)), ?_⟩)
              rw [show (rI h2 149 ((nI tt).toNatClampNeg) : Int32) = nI so from by rw [nI_clamp (by omega)]; exact mt2.2.2.1]
              refine exf_go 1 (show wpC (d + 5) true 292 [.long (lN (ordE (lft g l) g (evr g) i)), .int (nI so)] h2 (fun r h' => Go (d + 5) true 295 85 [.ref 130, .int (nI tt), .int 0, .int (nI n), .int (nI i)] [r, .int (nI ((40 * tt) + i)), .ref 151] h' Q) from ?_)
              refine m_cut (so := so) (by omega) ?_
              show Go (d + 5) true 295 85 [.ref 130, .int (nI tt), .int 0, .int (nI n), .int (nI i)] [.long (cutV so (lN (ordE (lft g l) g (evr g) i))), .int (nI ((40 * tt) + i)), .ref 151] h2 Q
              refine exf_go 2 (show vp_in (nI ((40 * tt) + i)) 160 ∧ (Go (d + 5) true 295 89 [.ref 130, .int (nI tt), .int 0, .int (nI n), .int ((nI i) + 1)] [] (uJ h2 151 ((nI ((40 * tt) + i)).toNatClampNeg) (cutV so (lN (ordE (lft g l) g (evr g) i)))) Q) from ⟨(vp_in_nI (by omega) (by omega)), ?_⟩)
              rw [show ((nI i) + 1 : Int32) = nI (i + 1) from nI_add i 1]
              refine exf_go 1 (show Go (d + 5) true 295 51 [.ref 130, .int (nI tt), .int 0, .int (nI n), .int (nI (i + 1))] [] (uJ h2 151 ((nI ((40 * tt) + i)).toNatClampNeg) (cutV so (lN (ordE (lft g l) g (evr g) i)))) Q from ?_)
              exact ih51 (i + 1) _ (by omega) (by omega) (q2.uJ' _ _ _ rfl) (q2b.uJ' _ _ _ rfl) (by rw [← cpy_s, nI_clamp (by omega)]; have := mt_put (i := i) (w := cutV so (lN (ordL g l i))) ma2 etr (by omega) mt2; rw [up_up] at this; exact this)
        exact L51 (n + 1) 0 h1 (by omega) (by omega) Fq.rfl' Fq.rfl' (by rw [cpy_0, ← hq, up_self]; exact ma1)
      · skip
        have c4 : ¬ n ≤ (cntN (lft g l) (tot g)) := fun q => c4 ((nI_leI (a := n) (b := (cntN (lft g l) (tot g))) (by omega) (by omega)).mpr q)
        refine exf_go 2 (show Go (d + 5) true 295 38 [.ref 130, .int (nI tt), .int 0, mk_, mk_] [.int (rI h1 130 22)] h1 Q from ?_)
        rw [show (rI h1 130 22 : Int32) = nI (cntN (lft g l) (tot g)) from mo1.1]
        refine exf_go 4 (show Go (d + 5) true 295 51 [.ref 130, .int (nI tt), .int 0, .int (nI (cntN (lft g l) (tot g))), .int 0] [] h1 Q from ?_)
        have L51 : ∀ (k51 : Nat) (i : Nat) (h2 : Hp), ((cntN (lft g l) (tot g)) - i) < k51 → (i ≤ min (cntN (lft g l) (tot g)) n) → (Fq sMt h1 h2) → (Fq (sAt 151) h1 h2) → (MTA (va_up tr tt (some (so, n, cpyV g l so i vs))) h2) → Go (d + 5) true 295 51 [.ref 130, .int (nI tt), .int 0, .int (nI (cntN (lft g l) (tot g))), .int (nI i)] [] h2 Q := by
          intro k51
          induction k51 with
          | zero => intro i h2 hk; exact absurd hk (Nat.not_lt_zero _)
          | succ k51 ih51 =>
            intro i h2 hk hi q2 q2b ma2
            have mt2 : MT tt (some (so, n, cpyV g l so i vs)) h2 := by have := ma2 tt etr; rw [up_eq] at this; exact this
            have mo2 := mo_fq mo1 q2b rfl (fun _ => rfl)
            refine exf_go 3 (show ((nI (cntN (lft g l) (tot g))) ≤ (nI i) → Go (d + 5) true 295 92 [.ref 130, .int (nI tt), .int 0, .int (nI (cntN (lft g l) (tot g))), .int (nI i)] [] h2 Q) ∧ (¬ ((nI (cntN (lft g l) (tot g))) ≤ (nI i)) → Go (d + 5) true 295 57 [.ref 130, .int (nI tt), .int 0, .int (nI (cntN (lft g l) (tot g))), .int (nI i)] [] h2 Q) from ⟨fun c6 => ?_, fun c6 => ?_⟩)
            · skip
              have c6 : (cntN (lft g l) (tot g)) ≤ i := (nI_leI (a := (cntN (lft g l) (tot g))) (b := i) (by omega) (by omega)).mp c6
              refine exf_go 2 (show Q (.int (nI (cntN (lft g l) (tot g)))) h2 from ?_)
              simp only [dCopy, et, hq] at k
              rw [show i = min (cntL g l) n from by unfold cntL; omega] at ma2
              rw [show cntN (lft g l) (tot g) = min (cntL g l) n from by unfold cntL; omega]
              exact k _ ((M_T q1).tr q2) ma2
            · skip
              have c6 : ¬ (cntN (lft g l) (tot g)) ≤ i := fun q => c6 ((nI_leI (a := (cntN (lft g l) (tot g))) (b := i) (by omega) (by omega)).mpr q)
              refine exf_go 5 (show Go (d + 5) true 295 65 [.ref 130, .int (nI tt), .int 0, .int (nI (cntN (lft g l) (tot g))), .int (nI i)] [.int (40 * (nI tt)), .ref 151] h2 Q from ?_)
              rw [show (40 * (nI tt) : Int32) = nI (40 * tt) from pk_mul 40 tt]
              refine exf_go 2 (show Go (d + 5) true 295 68 [.ref 130, .int (nI tt), .int 0, .int (nI (cntN (lft g l) (tot g))), .int (nI i)] [.int ((nI (40 * tt)) + (nI i)), .ref 151] h2 Q from ?_)
              rw [show ((nI (40 * tt)) + (nI i) : Int32) = nI ((40 * tt) + i) from nI_add (40 * tt) i]
              refine exf_go 4 (show vp_in (nI i) 10000 ∧ (Go (d + 5) true 295 75 [.ref 130, .int (nI tt), .int 0, .int (nI (cntN (lft g l) (tot g))), .int (nI i)] [.int (rI h2 140 ((nI i).toNatClampNeg)), .int (nI ((40 * tt) + i)), .ref 151] h2 Q) from ⟨(vp_in_nI (by omega) (by omega)), ?_⟩)
              rw [show (rI h2 140 ((nI i).toNatClampNeg) : Int32) = nI (ordE (lft g l) g (evr g) i) from mo_atE ms.1.1 mo2 (k := i) (by omega)]
              have hoi := ordE_in (E := (lft g l)) (g := g) (kn := (evr g)) (k := i) (by omega)
              refine exf_go 1 (show Go (d + 5) true 295 76 [.ref 130, .int (nI tt), .int 0, .int (nI (cntN (lft g l) (tot g))), .int (nI i)] [.long ((nI (ordE (lft g l) g (evr g) i)).toInt64), .int (nI ((40 * tt) + i)), .ref 151] h2 Q from ?_)
              rw [show ((nI (ordE (lft g l) g (evr g) i)).toInt64 : Int64) = lN (ordE (lft g l) g (evr g) i) from nI_l (n := (ordE (lft g l) g (evr g) i)) (by omega)]
              refine exf_go 4 (show vp_in (nI tt) 4 ∧ (Go (d + 5) true 295 82 [.ref 130, .int (nI tt), .int 0, .int (nI (cntN (lft g l) (tot g))), .int (nI i)] [.int (rI h2 149 ((nI tt).toNatClampNeg)), .long (lN (ordE (lft g l) g (evr g) i)), .int (nI ((40 * tt) + i)), .ref 151] h2 Q) from ⟨(vp_in_nI (by omega) (by omega)), ?_⟩)
              rw [show (rI h2 149 ((nI tt).toNatClampNeg) : Int32) = nI so from by rw [nI_clamp (by omega)]; exact mt2.2.2.1]
              refine exf_go 1 (show wpC (d + 5) true 292 [.long (lN (ordE (lft g l) g (evr g) i)), .int (nI so)] h2 (fun r h' => Go (d + 5) true 295 85 [.ref 130, .int (nI tt), .int 0, .int (nI (cntN (lft g l) (tot g))), .int (nI i)] [r, .int (nI ((40 * tt) + i)), .ref 151] h' Q) from ?_)
              refine m_cut (so := so) (by omega) ?_
              show Go (d + 5) true 295 85 [.ref 130, .int (nI tt), .int 0, .int (nI (cntN (lft g l) (tot g))), .int (nI i)] [.long (cutV so (lN (ordE (lft g l) g (evr g) i))), .int (nI ((40 * tt) + i)), .ref 151] h2 Q
              refine exf_go 2 (show vp_in (nI ((40 * tt) + i)) 160 ∧ (Go (d + 5) true 295 89 [.ref 130, .int (nI tt), .int 0, .int (nI (cntN (lft g l) (tot g))), .int ((nI i) + 1)] [] (uJ h2 151 ((nI ((40 * tt) + i)).toNatClampNeg) (cutV so (lN (ordE (lft g l) g (evr g) i)))) Q) from ⟨(vp_in_nI (by omega) (by omega)), ?_⟩)
              rw [show ((nI i) + 1 : Int32) = nI (i + 1) from nI_add i 1]
              refine exf_go 1 (show Go (d + 5) true 295 51 [.ref 130, .int (nI tt), .int 0, .int (nI (cntN (lft g l) (tot g))), .int (nI (i + 1))] [] (uJ h2 151 ((nI ((40 * tt) + i)).toNatClampNeg) (cutV so (lN (ordE (lft g l) g (evr g) i)))) Q from ?_)
              exact ih51 (i + 1) _ (by omega) (by omega) (q2.uJ' _ _ _ rfl) (q2b.uJ' _ _ _ rfl) (by rw [← cpy_s, nI_clamp (by omega)]; have := mt_put (i := i) (w := cutV so (lN (ordL g l i))) ma2 etr (by omega) mt2; rw [up_up] at this; exact this)
        exact L51 (cntN (lft g l) (tot g) + 1) 0 h1 (by omega) (by omega) Fq.rfl' Fq.rfl' (by rw [cpy_0, ← hq, up_self]; exact ma1)
    · skip
      exact absurd (by decide) c3
