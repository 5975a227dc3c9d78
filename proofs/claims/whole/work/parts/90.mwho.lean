/-! Who would have tried so: the model. -/
theorem elg_0 {g : ShG} {l : LkG} (kn : Nat) : elg g (lkT l (fun _ => 0)) kn false = wE g kn := funext fun n => by
  unfold elg wE
  rw [show decide (lT (lkT l (fun _ => 0)) n = 0) = true from decide_eq_true rfl]
  simp
theorem tbt_0 (j : Nat) : tbt 0 j = 0 := by
  unfold tbt
  show 0 / 2 ^ j % 2 = 0
  rw [Nat.zero_div]
theorem ms_zero {g : ShG} {l : LkG} {h h1 : Hp} (ms : MS g l h) (hz : ∀ i, 58 ≤ i → i < 371 → rI h1 131 i = 0) (hc : ∀ i, (i < 58 ∨ 370 < i) → rI h1 131 i = rI h 131 i) : MS g (lkT l (fun _ => 0)) h1 := by
  have sn := sn_ms ms
  have hN := tot_b ms.1.1
  refine ms_sn ms ⟨ms.1.2.1, ms.1.2.2.1, fun _ => Nat.zero_le _, ms.1.2.2.2.2⟩ ⟨(hc 50 (by omega)).trans sn.1, (hc 51 (by omega)).trans sn.2.1, (hc 52 (by omega)).trans sn.2.2.1, (hc 53 (by omega)).trans sn.2.2.2.1, fun w hw => (hc _ (by omega)).trans (sn.2.2.2.2.1 w hw), fun m hm => ?_⟩ (fun j u v => hc j (by omega))
  show tbt (rI h1 131 (50 + (8 + m / 32))) (m % 32) = 0
  rw [hz _ (by omega) (by omega)]
  exact tbt_0 _
theorem wn_6 {n : Nat} (hn : n ≤ 40) (h1 : ¬ lN n < 1) (h2 : ¬ (6 : Int64) < lN n) : ¬ (n < 1 ∨ 6 < n) := fun q => by
  rcases q with q | q
  · exact h1 ((pk_lLT (a := n) (b := 1) (by omega) (by omega)).mpr q)
  · exact h2 ((pk_lLT (a := 6) (b := n) (by omega) (by omega)).mpr q)
theorem wn_6n {n : Nat} (hn : n ≤ 40) (h : lN n < 1 ∨ (6 : Int64) < lN n) : n < 1 ∨ 6 < n := by
  rcases h with q | q
  · exact Or.inl ((pk_lLT (a := n) (b := 1) (by omega) (by omega)).mp q)
  · exact Or.inr ((pk_lLT (a := 6) (b := n) (by omega) (by omega)).mp q)
theorem tl_y {v : Nat → Int64} {x : Int64} {i : Nat} (h : v i = x) : 0 = b2n (!(tld v x (i + 1))) := by rw [tld, decide_eq_true h, Bool.or_true]; rfl
theorem tl_n {v : Nat → Int64} {x : Int64} {i f : Nat} (hf : f = b2n (!(tld v x i))) (h : ¬ v i = x) : f = b2n (!(tld v x (i + 1))) := by rw [tld, decide_eq_false h, Bool.or_false]; exact hf
theorem un_1 {v : Nat → Int64} {k u f : Nat} (hu : u = cntN (frB v) k) (hf : f = b2n (!(tld v (v k) k))) (h : ¬ f = 0) : u + 1 = cntN (frB v) (k + 1) := cn_y hu (b2n_1 (show ¬ b2n (frB v k) = 0 from by unfold frB; rw [← hf]; exact h))
theorem un_0 {v : Nat → Int64} {k u f : Nat} (hu : u = cntN (frB v) k) (hf : f = b2n (!(tld v (v k) k))) (h : f = 0) : u + 0 = cntN (frB v) (k + 1) := cn_n hu (b2n_0 (show b2n (frB v k) = 0 from by unfold frB; rw [← hf]; exact h))
theorem m_told {d : Nat} {h : Hp} {tt m so n : Nat} {vs : Nat → Int64} {Q : Po} (etr : tt < 4) (hm : m < 2 ^ 31) (mt : MT tt (some (so, n, vs)) h) (k1 : tld vs (lN m) n = true → Q (.int 1) h) (k0 : tld vs (lN m) n = false → Q (.int 0) h) : wpC (d + 1) true 283 [.ref 130, .int (nI tt), .int (nI m)] h Q := by
  have hn4 := mt.2.1; have hs3 := mt.1
  refine go_in rfl ?_
  refine exf_go 2 (show Go d true 283 2 [.ref 130, .int (nI tt), .int (nI m), .int 0] [] h Q from ?_)
  have L2 : ∀ (k2 : Nat) (i : Nat), (n - i) < k2 → (i ≤ n) → (tld vs (lN m) i = false) → Go d true 283 2 [.ref 130, .int (nI tt), .int (nI m), .int (nI i)] [] h Q := by
    intro k2
    induction k2 with
    | zero => intro i hk; exact absurd hk (Nat.not_lt_zero _)
    | succ k2 ih2 =>
      intro i hk hi ht
      refine exf_go 5 (show vp_in (nI tt) 4 ∧ (Go d true 283 9 [.ref 130, .int (nI tt), .int (nI m), .int (nI i)] [.int (rI h 150 ((nI tt).toNatClampNeg)), .int (nI i)] h Q) from ⟨(vp_in_nI (by omega) (by omega)), ?_⟩)
      rw [show (rI h 150 ((nI tt).toNatClampNeg) : Int32) = nI n from by rw [nI_clamp (by omega)]; exact mt.2.2.2.1]
      refine exf_go 1 (show ((nI n) ≤ (nI i) → Go d true 283 37 [.ref 130, .int (nI tt), .int (nI m), .int (nI i)] [] h Q) ∧ (¬ ((nI n) ≤ (nI i)) → Go d true 283 12 [.ref 130, .int (nI tt), .int (nI m), .int (nI i)] [] h Q) from ⟨fun c1 => ?_, fun c1 => ?_⟩)
      · skip
        have c1 : n ≤ i := (nI_leI (a := n) (b := i) (by omega) (by omega)).mp c1
        refine exf_go 2 (show ((0 : Int32) = 0 ∨ (0 : Int32) = 1) ∧ Q (.int 0) h from ⟨(by first | exact Or.inl rfl | exact Or.inr rfl | assumption), ?_⟩)
        exact k0 (by rw [← show i = n from by omega]; exact ht)
      · skip
        have c1 : ¬ n ≤ i := fun q => c1 ((nI_leI (a := n) (b := i) (by omega) (by omega)).mpr q)
        refine exf_go 5 (show Go d true 283 20 [.ref 130, .int (nI tt), .int (nI m), .int (nI i)] [.int (40 * (nI tt)), .ref 151] h Q from ?_)
        rw [show (40 * (nI tt) : Int32) = nI (40 * tt) from pk_mul 40 tt]
        refine exf_go 2 (show Go d true 283 22 [.ref 130, .int (nI tt), .int (nI m), .int (nI i)] [.int ((nI (40 * tt)) + (nI i)), .ref 151] h Q from ?_)
        rw [show ((nI (40 * tt)) + (nI i) : Int32) = nI ((40 * tt) + i) from nI_add (40 * tt) i]
        refine exf_go 1 (show vp_in (nI ((40 * tt) + i)) 160 ∧ (Go d true 283 23 [.ref 130, .int (nI tt), .int (nI m), .int (nI i)] [.long (rJ h 151 ((nI ((40 * tt) + i)).toNatClampNeg))] h Q) from ⟨(vp_in_nI (by omega) (by omega)), ?_⟩)
        rw [show (rJ h 151 ((nI ((40 * tt) + i)).toNatClampNeg) : Int64) = vs i from by rw [nI_clamp (by omega)]; exact mt.2.2.2.2 _ (by omega)]
        refine exf_go 2 (show Go d true 283 25 [.ref 130, .int (nI tt), .int (nI m), .int (nI i)] [.long ((nI m).toInt64), .long (vs i)] h Q from ?_)
        rw [show ((nI m).toInt64 : Int64) = lN m from nI_l (n := m) (by omega)]
        refine exf_go 2 (show (¬ (lg_cmp (vs i) (lN m)) = 0 → Go d true 283 31 [.ref 130, .int (nI tt), .int (nI m), .int (nI i)] [] h Q) ∧ (¬ (¬ (lg_cmp (vs i) (lN m)) = 0) → Go d true 283 29 [.ref 130, .int (nI tt), .int (nI m), .int (nI i)] [] h Q) from ⟨fun c2 => ?_, fun c2 => ?_⟩)
        · skip
          have c2 : ¬ ((vs i) = (lN m)) := fun q => c2 ((lg_cmp_eq _ _).mpr q)
          refine exf_go 1 (show Go d true 283 34 [.ref 130, .int (nI tt), .int (nI m), .int ((nI i) + 1)] [] h Q from ?_)
          rw [show ((nI i) + 1 : Int32) = nI (i + 1) from nI_add i 1]
          refine exf_go 1 (show Go d true 283 2 [.ref 130, .int (nI tt), .int (nI m), .int (nI (i + 1))] [] h Q from ?_)
          exact ih2 (i + 1) (by omega) (by omega) (by rw [tld, ht, decide_eq_false (by assumption)]; rfl)
        · skip
          have c2 : (vs i) = (lN m) := (lg_cmp_eq _ _).mp (Classical.not_not.mp c2)
          refine exf_go 2 (show ((1 : Int32) = 0 ∨ (1 : Int32) = 1) ∧ Q (.int 1) h from ⟨(by first | exact Or.inl rfl | exact Or.inr rfl | assumption), ?_⟩)
          exact k1 ((tld_iff _ _ _).mpr ⟨i, by omega, by assumption⟩)
  exact L2 (n + 1) 0 (by omega) (by omega) rfl
theorem m_who {d : Nat} {h : Hp} {g : ShG} {l : LkG} {nH : Nat} {hl : Nat → LkG} {tr : Nat → TrG} {x : Int32} {Q : Po} (md : MD g (l, nH, hl) h) (ma : MTA tr h) (k : ∀ h1, Fq sDe h h1 → MD g (l, nH, hl) h1 → Q (.int (fWho g tr x)) h1) : wpC (d + 5) true 284 [.ref 130, .int x] h Q := by
  have md0 := md
  have ms : MS g l h := md.1
  have hN := tot_b ms.1.1
  have h4 := ms.1.1.1
  have h8 := ms.1.1.2.2.2.1
  have he := evr_b ms.1.1
  have hev : evr g = 2 ^ sC g - 1 := rfl
  have hm4 := ms.1.1.2.2.2.2.2.1
  have hkb := ms.1.1.2.2.2.2.2.2.1
  refine go_in rfl ?_
  refine exf_go 6 (show wpC (d + 4) true 257 [.ref 130, .int x] (uI h 130 0 0) (fun r h' => Go (d + 4) true 284 10 [.ref 130, .int x, mk_, mk_, mk_, mk_, mk_, mk_] [r] h' Q) from ?_)
  refine m_noTray (x := x) (mta_fq (s := scM) ma (Fq.uI' Fq.rfl' _ _ _ rfl) (fun _ => rfl) (fun _ => rfl) (fun _ => rfl)) (fun et => ?_) (fun tt et etq etr hq => ?_) (fun tt so n vs et etq etr hq mt => ?_)
  · skip
    show Go (d + 4) true 284 10 [.ref 130, .int x, mk_, mk_, mk_, mk_, mk_, mk_] [.int (-2)] (uI h 130 0 0) Q
    refine exf_go 3 (show (((-2) : Int32) = 0 → Go (d + 4) true 284 17 [.ref 130, .int x, .int (-2), mk_, mk_, mk_, mk_, mk_] [] (uI h 130 0 0) Q) ∧ (¬ (((-2) : Int32) = 0) → Go (d + 4) true 284 15 [.ref 130, .int x, .int (-2), mk_, mk_, mk_, mk_, mk_] [] (uI h 130 0 0) Q) from ⟨fun c1 => ?_, fun c1 => ?_⟩)
    · skip
      exact absurd c1 (by decide)
    · skip
      refine exf_go 2 (show Q (.int (-2)) (uI h 130 0 0) from ?_)
      simp only [fWho, et] at k
      exact k _ (M_D (Fq.uI' Fq.rfl' _ _ _ rfl)) (md_M (h1 := uI h 130 0 0) md0 (Fq.uI' Fq.rfl' _ _ _ rfl))
  · skip
    subst etq
    show Go (d + 4) true 284 10 [.ref 130, .int (nI tt), mk_, mk_, mk_, mk_, mk_, mk_] [.int (-6)] (uI h 130 0 0) Q
    refine exf_go 3 (show (((-6) : Int32) = 0 → Go (d + 4) true 284 17 [.ref 130, .int (nI tt), .int (-6), mk_, mk_, mk_, mk_, mk_] [] (uI h 130 0 0) Q) ∧ (¬ (((-6) : Int32) = 0) → Go (d + 4) true 284 15 [.ref 130, .int (nI tt), .int (-6), mk_, mk_, mk_, mk_, mk_] [] (uI h 130 0 0) Q) from ⟨fun c2 => ?_, fun c2 => ?_⟩)
    · skip
      exact absurd c2 (by decide)
    · skip
      refine exf_go 2 (show Q (.int (-6)) (uI h 130 0 0) from ?_)
      simp only [fWho, et, hq] at k
      exact k _ (M_D (Fq.uI' Fq.rfl' _ _ _ rfl)) (md_M (h1 := uI h 130 0 0) md0 (Fq.uI' Fq.rfl' _ _ _ rfl))
  · skip
    subst etq
    have hn4 := mt.2.1; have hs3 := mt.1
    show Go (d + 4) true 284 10 [.ref 130, .int (nI tt), mk_, mk_, mk_, mk_, mk_, mk_] [.int 0] (uI h 130 0 0) Q
    refine exf_go 3 (show ((0 : Int32) = 0 → Go (d + 4) true 284 17 [.ref 130, .int (nI tt), .int 0, mk_, mk_, mk_, mk_, mk_] [] (uI h 130 0 0) Q) ∧ (¬ ((0 : Int32) = 0) → Go (d + 4) true 284 15 [.ref 130, .int (nI tt), .int 0, mk_, mk_, mk_, mk_, mk_] [] (uI h 130 0 0) Q) from ⟨fun c3 => ?_, fun c3 => ?_⟩)
    · skip
      refine exf_go 4 (show vp_in (nI tt) 4 ∧ (Go (d + 4) true 284 23 [.ref 130, .int (nI tt), .int 0, mk_, mk_, mk_, mk_, mk_] [.int (rI h 150 ((nI tt).toNatClampNeg))] (uI h 130 0 0) Q) from ⟨(vp_in_nI (by omega) (by omega)), ?_⟩)
      rw [show (rI h 150 ((nI tt).toNatClampNeg) : Int32) = nI n from by rw [nI_clamp (by omega)]; exact mt.2.2.2.1]
      refine exf_go 1 (show Go (d + 4) true 284 24 [.ref 130, .int (nI tt), .int 0, mk_, mk_, mk_, mk_, mk_] [.long ((nI n).toInt64)] (uI h 130 0 0) Q from ?_)
      rw [show ((nI n).toInt64 : Int64) = lN n from nI_l (n := n) (by omega)]
      refine exf_go 3 (show wpC (d + 4) true 183 [.long (lN n), .long 1, .long 6] (uI h 130 0 0) (fun r h' => Go (d + 4) true 284 31 [.ref 130, .int (nI tt), .int 0, mk_, mk_, mk_, mk_, mk_] [r] h' Q) from ?_)
      refine m_within (fun u1 v1 => ?_) (fun u1 => ?_)
      · skip
        have h16 := wn_6 hn4 u1 v1
        show Go (d + 4) true 284 31 [.ref 130, .int (nI tt), .int 0, mk_, mk_, mk_, mk_, mk_] [.int 1] (uI h 130 0 0) Q
        refine exf_go 1 (show (¬ (1 : Int32) = 0 → Go (d + 4) true 284 37 [.ref 130, .int (nI tt), .int 0, mk_, mk_, mk_, mk_, mk_] [] (uI h 130 0 0) Q) ∧ (¬ (¬ (1 : Int32) = 0) → Go (d + 4) true 284 34 [.ref 130, .int (nI tt), .int 0, mk_, mk_, mk_, mk_, mk_] [] (uI h 130 0 0) Q) from ⟨fun c4 => ?_, fun c4 => ?_⟩)
        · skip
          refine exf_go 4 (show Go (d + 4) true 284 42 [.ref 130, .int (nI tt), .int 0, .int 0, .int 0, mk_, mk_, mk_] [] (uI h 130 0 0) Q from ?_)
          have L42 : ∀ (k42 : Nat) (z5 z6 : Value) (i u : Nat), (n - i) < k42 → (i ≤ n) → (u = cntN (frB vs) i) → (awB vs (tot g) i = true) → Go (d + 4) true 284 42 [.ref 130, .int (nI tt), .int 0, .int (nI u), .int (nI i), z5, z6, mk_] [] (uI h 130 0 0) Q := by
            intro k42
            induction k42 with
            | zero => intro z5 z6 i u hk; exact absurd hk (Nat.not_lt_zero _)
            | succ k42 ih42 =>
              intro z5 z6 i u hk hi hu haw
              have hul := cntN_le (frB vs) i
              refine exf_go 5 (show vp_in (nI tt) 4 ∧ (Go (d + 4) true 284 50 [.ref 130, .int (nI tt), .int 0, .int (nI u), .int (nI i), z5, z6, mk_] [.int (rI h 150 ((nI tt).toNatClampNeg)), .int (nI i)] (uI h 130 0 0) Q) from ⟨(vp_in_nI (by omega) (by omega)), ?_⟩)
              rw [show (rI h 150 ((nI tt).toNatClampNeg) : Int32) = nI n from by rw [nI_clamp (by omega)]; exact mt.2.2.2.1]
              refine exf_go 1 (show ((nI n) ≤ (nI i) → Go (d + 4) true 284 151 [.ref 130, .int (nI tt), .int 0, .int (nI u), .int (nI i), z5, z6, mk_] [] (uI h 130 0 0) Q) ∧ (¬ ((nI n) ≤ (nI i)) → Go (d + 4) true 284 53 [.ref 130, .int (nI tt), .int 0, .int (nI u), .int (nI i), z5, z6, mk_] [] (uI h 130 0 0) Q) from ⟨fun c5 => ?_, fun c5 => ?_⟩)
              · skip
                have c5 : n ≤ i := (nI_leI (a := n) (b := i) (by omega) (by omega)).mp c5
                refine exf_go 2 (show wpC (d + 4) true 248 [.ref 130] (uI h 130 0 0) (fun _ h' => Go (d + 4) true 284 155 [.ref 130, .int (nI tt), .int 0, .int (nI u), .int (nI i), z5, z6, mk_] [] h' Q) from ?_)
                have mdk := md_M md0 (h1 := uI h 130 0 0) (Fq.uI' Fq.rfl' _ _ _ rfl)
                have qdk : Fq sDe h (uI h 130 0 0) := M_D (Fq.uI' Fq.rfl' _ _ _ rfl)
                have hin : i = n := by omega
                have hul2 : u = unl vs n := by rw [hu, hin]; rfl
                rw [hin] at haw
                have hunl : unl vs n ≤ n := cntN_le _ n
                rw [hul2]
                refine m_keeps (fun h1 q1 hk1 => ?_)
                have ms1 := ms_fq mdk.1 (q1.mono (sAt_s (fun _ => rfl)))
                have mt1 : MT tt (some (so, n, vs)) h1 := mt_same mt (q1.1 149 tt (sAt_f (by decide))).1 (q1.1 150 tt (sAt_f (by decide))).1 (fun j _ => (q1.1 151 _ (sAt_f (by decide))).2)
                show Go (d + 4) true 284 155 [.ref 130, .int (nI tt), .int 0, .int (nI (unl vs n)), .int (nI i), z5, z6, mk_] [] h1 Q
                refine exf_go 2 (show Go (d + 4) true 284 159 [.ref 130, .int (nI tt), .int 0, .int (nI (unl vs n)), .int 58, z5, z6, mk_] [] h1 Q from ?_)
                have L159 : ∀ (k159 : Nat) (z5 z6 : Value) (i : Nat) (h2 : Hp), (371 - i) < k159 → (58 ≤ i ∧ i ≤ 371) → (Fq sGo h1 h2) → (∀ j, 58 ≤ j → j < i → rI h2 131 j = 0) → (∀ j, (j < 58 ∨ i ≤ j) → rI h2 131 j = rI h1 131 j) → Go (d + 4) true 284 159 [.ref 130, .int (nI tt), .int 0, .int (nI (unl vs n)), .int (nI i), z5, z6, mk_] [] h2 Q := by
                  intro k159
                  induction k159 with
                  | zero => intro z5 z6 i h2 hk; exact absurd hk (Nat.not_lt_zero _)
                  | succ k159 ih159 =>
                    intro z5 z6 i h2 hk hi q2 hz hc
                    refine exf_go 3 (show (371 ≤ (nI i) → Go (d + 4) true 284 181 [.ref 130, .int (nI tt), .int 0, .int (nI (unl vs n)), .int (nI i), z5, z6, mk_] [] h2 Q) ∧ (¬ (371 ≤ (nI i)) → Go (d + 4) true 284 167 [.ref 130, .int (nI tt), .int 0, .int (nI (unl vs n)), .int (nI i), z5, z6, mk_] [] h2 Q) from ⟨fun c6 => ?_, fun c6 => ?_⟩)
                    · skip
                      have c6 : 371 ≤ i := (nI_leI (a := 371) (b := i) (by omega) (by omega)).mp c6
                      refine exf_go 4 (show Go (d + 4) true 284 187 [.ref 130, .int (nI tt), .int 0, .int (nI (unl vs n)), .int 0, .int 0, z6, mk_] [] h2 Q from ?_)
                      have L187 : ∀ (k187 : Nat) (z6 z7 : Value) (m s : Nat) (h3 : Hp), (sM g - m) < k187 → (m ≤ sM g) → (Fq sOrd h2 h3) → (s = whoB g vs n m) → Go (d + 4) true 284 187 [.ref 130, .int (nI tt), .int 0, .int (nI (unl vs n)), .int (nI s), .int (nI m), z6, z7] [] h3 Q := by
                        intro k187
                        induction k187 with
                        | zero => intro z6 z7 m s h3 hk; exact absurd hk (Nat.not_lt_zero _)
                        | succ k187 ih187 =>
                          intro z6 z7 m s h3 hk hm q3 hs
                          have ms2 : MS g (lkT l (fun _ => 0)) h2 := ms_zero ms1 (fun j u v => hz j u (by omega)) (fun j u => hc j (by omega))
                          have ms3 := ms_fq ms2 (q3.mono sOrd_M)
                          have hkm := hkb m
                          refine exf_go 5 (show vp_in 3 41523 ∧ (Go (d + 4) true 284 195 [.ref 130, .int (nI tt), .int 0, .int (nI (unl vs n)), .int (nI s), .int (nI m), z6, z7] [.int (rI h3 131 3), .int (nI m)] h3 Q) from ⟨(vp_in_nI (n := 3) (by decide) (by decide)), ?_⟩)
                          rw [show (rI h3 131 3 : Int32) = nI (sM g) from ms_M ms3]
                          refine exf_go 1 (show ((nI (sM g)) ≤ (nI m) → Go (d + 4) true 284 286 [.ref 130, .int (nI tt), .int 0, .int (nI (unl vs n)), .int (nI s), .int (nI m), z6, z7] [] h3 Q) ∧ (¬ ((nI (sM g)) ≤ (nI m)) → Go (d + 4) true 284 198 [.ref 130, .int (nI tt), .int 0, .int (nI (unl vs n)), .int (nI s), .int (nI m), z6, z7] [] h3 Q) from ⟨fun c7 => ?_, fun c7 => ?_⟩)
                          · skip
                            have c7 : (sM g) ≤ m := (nI_leI (a := (sM g)) (b := m) (by omega) (by omega)).mp c7
                            refine exf_go 2 (show wpC (d + 4) true 249 [.ref 130] h3 (fun _ h' => Go (d + 4) true 284 290 [.ref 130, .int (nI tt), .int 0, .int (nI (unl vs n)), .int (nI s), .int (nI m), z6, z7] [] h' Q) from ?_)
                            refine m_isAgain (fun h6 q6 hv6 => ?_)
                            have md6 := md_back (l := l) mdk q1 hk1 q2 q3 q6 hv6
                            have qd6 : Fq sDe h h6 := (((qdk.tr (q1.mono (sAt_s (fun _ => rfl)))).tr (go_D q2)).tr (ord_D q3)).tr (go_D q6)
                            show Go (d + 4) true 284 290 [.ref 130, .int (nI tt), .int 0, .int (nI (unl vs n)), .int (nI s), .int (nI m), z6, z7] [] h6 Q
                            refine exf_go 2 (show Q (.int (nI s)) h6 from ?_)
                            simp only [fWho, et, hq] at k; rw [if_neg h16, if_pos haw, ← show m = sM g from by omega, ← hs] at k
                            exact k _ qd6 md6
                          · skip
                            have c7 : ¬ (sM g) ≤ m := fun q => c7 ((nI_leI (a := (sM g)) (b := m) (by omega) (by omega)).mpr q)
                            refine exf_go 6 (show Go (d + 4) true 284 208 [.ref 130, .int (nI tt), .int 0, .int (nI (unl vs n)), .int (nI s), .int (nI m), z6, z7] [.int (46 + (nI m)), .ref 131, .ref 130] h3 Q from ?_)
                            rw [show (46 + (nI m) : Int32) = nI (46 + m) from nI_add 46 m]
                            refine exf_go 1 (show vp_in (nI (46 + m)) 41523 ∧ (Go (d + 4) true 284 209 [.ref 130, .int (nI tt), .int 0, .int (nI (unl vs n)), .int (nI s), .int (nI m), z6, z7] [.int (rI h3 131 ((nI (46 + m)).toNatClampNeg)), .ref 130] h3 Q) from ⟨(vp_in_nI (by omega) (by omega)), ?_⟩)
                            rw [show (rI h3 131 ((nI (46 + m)).toNatClampNeg) : Int32) = nI (sK g m) from ms_K ms3 (n := m) (by omega)]
                            refine exf_go 2 (show wpC (d + 4) true 227 [.ref 130, .int (nI (sK g m)), .int 0] h3 (fun _ h' => Go (d + 4) true 284 213 [.ref 130, .int (nI tt), .int 0, .int (nI (unl vs n)), .int (nI s), .int (nI m), z6, z7] [] h' Q) from ?_)
                            refine m_lays0 ms3 (kn := sK g m) (by omega) (fun h4 q4 mw4 mo4 => ?_)
                            rw [elg_0] at mo4
                            have hcc := cntN_le (wE g (sK g m)) (tot g)
                            have ms4 := ms_fq ms3 (q4.mono sOrd_M)
                            have mt4 : MT tt (some (so, n, vs)) h4 := mt_same mt1 (((q4.1 149 tt rfl).1).trans (((q3.1 149 tt rfl).1).trans ((q2.1 149 tt (sGo_ne (by decide))).1))) (((q4.1 150 tt rfl).1).trans (((q3.1 150 tt rfl).1).trans ((q2.1 150 tt (sGo_ne (by decide))).1))) (fun j _ => ((q4.1 151 _ rfl).2).trans (((q3.1 151 _ rfl).2).trans ((q2.1 151 _ (sGo_ne (by decide))).2)))
                            show Go (d + 4) true 284 213 [.ref 130, .int (nI tt), .int 0, .int (nI (unl vs n)), .int (nI s), .int (nI m), z6, z7] [] h4 Q
                            refine exf_go 2 (show Go (d + 4) true 284 217 [.ref 130, .int (nI tt), .int 0, .int (nI (unl vs n)), .int (nI s), .int (nI m), z6, z7] [.int (rI h4 130 22)] h4 Q from ?_)
                            rw [show (rI h4 130 22 : Int32) = nI (cntN (wE g (sK g m)) (tot g)) from mo4.1]
                            refine exf_go 2 (show ((nI (cntN (wE g (sK g m)) (tot g))) < (nI (unl vs n)) → Go (d + 4) true 284 225 [.ref 130, .int (nI tt), .int 0, .int (nI (unl vs n)), .int (nI s), .int (nI m), z6, z7] [] h4 Q) ∧ (¬ ((nI (cntN (wE g (sK g m)) (tot g))) < (nI (unl vs n))) → Go (d + 4) true 284 221 [.ref 130, .int (nI tt), .int 0, .int (nI (unl vs n)), .int (nI s), .int (nI m), z6, z7] [] h4 Q) from ⟨fun c8 => ?_, fun c8 => ?_⟩)
                            · skip
                              have c8 : (cntN (wE g (sK g m)) (tot g)) < (unl vs n) := (nI_ltI (a := (cntN (wE g (sK g m)) (tot g))) (b := (unl vs n)) (by omega) (by omega)).mp c8
                              refine exf_go 4 (show Go (d + 4) true 284 231 [.ref 130, .int (nI tt), .int 0, .int (nI (unl vs n)), .int (nI s), .int (nI m), .int 0, .int 0] [] h4 Q from ?_)
                              have L231 : ∀ (k231 : Nat) (kk f : Nat), (unl vs n - kk) < k231 → (kk ≤ unl vs n) → (f = b2n (decide (unl vs n ≤ cntN (wE g (sK g m)) (tot g)) && bgT g vs n (sK g m) kk)) → Go (d + 4) true 284 231 [.ref 130, .int (nI tt), .int 0, .int (nI (unl vs n)), .int (nI s), .int (nI m), .int (nI f), .int (nI kk)] [] h4 Q := by
                                intro k231
                                induction k231 with
                                | zero => intro kk f hk; exact absurd hk (Nat.not_lt_zero _)
                                | succ k231 ih231 =>
                                  intro kk f hk hkk hf
                                  have hf1 := b2n_le (decide (unl vs n ≤ cntN (wE g (sK g m)) (tot g)) && bgT g vs n (sK g m) kk)
                                  have hle : ¬ f = 0 → unl vs n ≤ cntN (wE g (sK g m)) (tot g) ∧ bgT g vs n (sK g m) kk = true := fun q => by rw [hf] at q; have q2 := b2n_1 q; rw [Bool.and_eq_true, decide_eq_true_eq] at q2; exact q2
                                  refine exf_go 3 (show ((nI (unl vs n)) ≤ (nI kk) → Go (d + 4) true 284 262 [.ref 130, .int (nI tt), .int 0, .int (nI (unl vs n)), .int (nI s), .int (nI m), .int (nI f), .int (nI kk)] [] h4 Q) ∧ (¬ ((nI (unl vs n)) ≤ (nI kk)) → Go (d + 4) true 284 237 [.ref 130, .int (nI tt), .int 0, .int (nI (unl vs n)), .int (nI s), .int (nI m), .int (nI f), .int (nI kk)] [] h4 Q) from ⟨fun c9 => ?_, fun c9 => ?_⟩)
                                  · skip
                                    have c9 : (unl vs n) ≤ kk := (nI_leI (a := (unl vs n)) (b := kk) (by omega) (by omega)).mp c9
                                    refine exf_go 3 (show ((nI f) = 0 → Go (d + 4) true 284 276 [.ref 130, .int (nI tt), .int 0, .int (nI (unl vs n)), .int (nI s), .int (nI m), .int (nI f), .int (nI kk)] [.int (nI s)] h4 Q) ∧ (¬ ((nI f) = 0) → Go (d + 4) true 284 269 [.ref 130, .int (nI tt), .int 0, .int (nI (unl vs n)), .int (nI s), .int (nI m), .int (nI f), .int (nI kk)] [.int (nI s)] h4 Q) from ⟨fun c10 => ?_, fun c10 => ?_⟩)
                                    · skip
                                      have c10 : f = 0 := (nI_eq (a := f) (b := 0) (by omega) (by omega)).mp c10
                                      have hbg : ¬ bgw g vs n (sK g m) = true := by unfold bgw; first | (rw [← show kk = unl vs n from by omega]; intro q; rw [q] at hf; exact absurd hf (by rw [show f = 0 from by omega]; decide)) | (intro q; rw [Bool.and_eq_true, decide_eq_true_eq] at q; have h9 : bgT g vs n (sK g m) kk = false := by { cases h8 : bgT g vs n (sK g m) kk with | false => rfl | true => exact absurd hf (by rw [decide_eq_true q.1, h8, show f = 0 from by omega]; decide) }; rw [bt_end h9 hkk] at q; exact absurd q.2 (by decide))
                                      refine exf_go 2 (show Go (d + 4) true 284 278 [.ref 130, .int (nI tt), .int 0, .int (nI (unl vs n)), .int (nI s), .int (nI m), .int (nI f), .int (nI kk)] [.int ((nI s) ||| 0)] h4 Q from ?_)
                                      rw [show ((nI s) ||| 0 : Int32) = nI (s ||| 0) from nI_or s 0]
                                      refine exf_go 2 (show Go (d + 4) true 284 283 [.ref 130, .int (nI tt), .int 0, .int (nI (unl vs n)), .int (nI (s ||| 0)), .int ((nI m) + 1), .int (nI f), .int (nI kk)] [] h4 Q from ?_)
                                      rw [show ((nI m) + 1 : Int32) = nI (m + 1) from nI_add m 1]
                                      refine exf_go 1 (show Go (d + 4) true 284 187 [.ref 130, .int (nI tt), .int 0, .int (nI (unl vs n)), .int (nI (s ||| 0)), .int (nI (m + 1)), .int (nI f), .int (nI kk)] [] h4 Q from ?_)
                                      exact ih187 (.int (nI f)) (.int (nI kk)) (m + 1) (s ||| 0) h4 (by omega) (by omega) (q3.tr q4) (by rw [hs, whoB]; first | rw [if_pos hbg] | (rw [if_neg hbg, Nat.or_zero]))
                                    · skip
                                      have c10 : ¬ f = 0 := fun q => c10 ((nI_eq (a := f) (b := 0) (by omega) (by omega)).mpr q)
                                      have hbg : bgw g vs n (sK g m) = true := by unfold bgw; rw [decide_eq_true (hle (by omega)).1, ← show kk = unl vs n from by omega, (hle (by omega)).2]; rfl
                                      refine exf_go 3 (show Go (d + 4) true 284 273 [.ref 130, .int (nI tt), .int 0, .int (nI (unl vs n)), .int (nI s), .int (nI m), .int (nI f), .int (nI kk)] [.int (1 <<< ((nI m) &&& 31)), .int (nI s)] h4 Q from ?_)
                                      rw [show (1 <<< ((nI m) &&& 31) : Int32) = nI (2 ^ m) from nI_1shl (k := m) (by omega)]
                                      refine exf_go 2 (show Go (d + 4) true 284 278 [.ref 130, .int (nI tt), .int 0, .int (nI (unl vs n)), .int (nI s), .int (nI m), .int (nI f), .int (nI kk)] [.int ((nI s) ||| (nI (2 ^ m)))] h4 Q from ?_)
                                      rw [show ((nI s) ||| (nI (2 ^ m)) : Int32) = nI (s ||| (2 ^ m)) from nI_or s (2 ^ m)]
                                      refine exf_go 2 (show Go (d + 4) true 284 283 [.ref 130, .int (nI tt), .int 0, .int (nI (unl vs n)), .int (nI (s ||| (2 ^ m))), .int ((nI m) + 1), .int (nI f), .int (nI kk)] [] h4 Q from ?_)
                                      rw [show ((nI m) + 1 : Int32) = nI (m + 1) from nI_add m 1]
                                      refine exf_go 1 (show Go (d + 4) true 284 187 [.ref 130, .int (nI tt), .int 0, .int (nI (unl vs n)), .int (nI (s ||| (2 ^ m))), .int (nI (m + 1)), .int (nI f), .int (nI kk)] [] h4 Q from ?_)
                                      exact ih187 (.int (nI f)) (.int (nI kk)) (m + 1) (s ||| (2 ^ m)) h4 (by omega) (by omega) (q3.tr q4) (by rw [hs, whoB]; first | rw [if_pos hbg] | (rw [if_neg hbg, Nat.or_zero]))
                                  · skip
                                    have c9 : ¬ (unl vs n) ≤ kk := fun q => c9 ((nI_leI (a := (unl vs n)) (b := kk) (by omega) (by omega)).mpr q)
                                    refine exf_go 2 (show ((nI f) = 0 → Go (d + 4) true 284 262 [.ref 130, .int (nI tt), .int 0, .int (nI (unl vs n)), .int (nI s), .int (nI m), .int (nI f), .int (nI kk)] [] h4 Q) ∧ (¬ ((nI f) = 0) → Go (d + 4) true 284 242 [.ref 130, .int (nI tt), .int 0, .int (nI (unl vs n)), .int (nI s), .int (nI m), .int (nI f), .int (nI kk)] [] h4 Q) from ⟨fun c11 => ?_, fun c11 => ?_⟩)
                                    · skip
                                      have c11 : f = 0 := (nI_eq (a := f) (b := 0) (by omega) (by omega)).mp c11
                                      refine exf_go 3 (show ((nI f) = 0 → Go (d + 4) true 284 276 [.ref 130, .int (nI tt), .int 0, .int (nI (unl vs n)), .int (nI s), .int (nI m), .int (nI f), .int (nI kk)] [.int (nI s)] h4 Q) ∧ (¬ ((nI f) = 0) → Go (d + 4) true 284 269 [.ref 130, .int (nI tt), .int 0, .int (nI (unl vs n)), .int (nI s), .int (nI m), .int (nI f), .int (nI kk)] [.int (nI s)] h4 Q) from ⟨fun c12 => ?_, fun c12 => ?_⟩)
                                      · skip
                                        have c12 : f = 0 := (nI_eq (a := f) (b := 0) (by omega) (by omega)).mp c12
                                        have hbg : ¬ bgw g vs n (sK g m) = true := by unfold bgw; first | (rw [← show kk = unl vs n from by omega]; intro q; rw [q] at hf; exact absurd hf (by rw [show f = 0 from by omega]; decide)) | (intro q; rw [Bool.and_eq_true, decide_eq_true_eq] at q; have h9 : bgT g vs n (sK g m) kk = false := by { cases h8 : bgT g vs n (sK g m) kk with | false => rfl | true => exact absurd hf (by rw [decide_eq_true q.1, h8, show f = 0 from by omega]; decide) }; rw [bt_end h9 hkk] at q; exact absurd q.2 (by decide))
                                        refine exf_go 2 (show Go (d + 4) true 284 278 [.ref 130, .int (nI tt), .int 0, .int (nI (unl vs n)), .int (nI s), .int (nI m), .int (nI f), .int (nI kk)] [.int ((nI s) ||| 0)] h4 Q from ?_)
                                        rw [show ((nI s) ||| 0 : Int32) = nI (s ||| 0) from nI_or s 0]
                                        refine exf_go 2 (show Go (d + 4) true 284 283 [.ref 130, .int (nI tt), .int 0, .int (nI (unl vs n)), .int (nI (s ||| 0)), .int ((nI m) + 1), .int (nI f), .int (nI kk)] [] h4 Q from ?_)
                                        rw [show ((nI m) + 1 : Int32) = nI (m + 1) from nI_add m 1]
                                        refine exf_go 1 (show Go (d + 4) true 284 187 [.ref 130, .int (nI tt), .int 0, .int (nI (unl vs n)), .int (nI (s ||| 0)), .int (nI (m + 1)), .int (nI f), .int (nI kk)] [] h4 Q from ?_)
                                        exact ih187 (.int (nI f)) (.int (nI kk)) (m + 1) (s ||| 0) h4 (by omega) (by omega) (q3.tr q4) (by rw [hs, whoB]; first | rw [if_pos hbg] | (rw [if_neg hbg, Nat.or_zero]))
                                      · skip
                                        have c12 : ¬ f = 0 := fun q => c12 ((nI_eq (a := f) (b := 0) (by omega) (by omega)).mpr q)
                                        have hbg : bgw g vs n (sK g m) = true := by unfold bgw; rw [decide_eq_true (hle (by omega)).1, ← show kk = unl vs n from by omega, (hle (by omega)).2]; rfl
                                        refine exf_go 3 (show Go (d + 4) true 284 273 [.ref 130, .int (nI tt), .int 0, .int (nI (unl vs n)), .int (nI s), .int (nI m), .int (nI f), .int (nI kk)] [.int (1 <<< ((nI m) &&& 31)), .int (nI s)] h4 Q from ?_)
                                        rw [show (1 <<< ((nI m) &&& 31) : Int32) = nI (2 ^ m) from nI_1shl (k := m) (by omega)]
                                        refine exf_go 2 (show Go (d + 4) true 284 278 [.ref 130, .int (nI tt), .int 0, .int (nI (unl vs n)), .int (nI s), .int (nI m), .int (nI f), .int (nI kk)] [.int ((nI s) ||| (nI (2 ^ m)))] h4 Q from ?_)
                                        rw [show ((nI s) ||| (nI (2 ^ m)) : Int32) = nI (s ||| (2 ^ m)) from nI_or s (2 ^ m)]
                                        refine exf_go 2 (show Go (d + 4) true 284 283 [.ref 130, .int (nI tt), .int 0, .int (nI (unl vs n)), .int (nI (s ||| (2 ^ m))), .int ((nI m) + 1), .int (nI f), .int (nI kk)] [] h4 Q from ?_)
                                        rw [show ((nI m) + 1 : Int32) = nI (m + 1) from nI_add m 1]
                                        refine exf_go 1 (show Go (d + 4) true 284 187 [.ref 130, .int (nI tt), .int 0, .int (nI (unl vs n)), .int (nI (s ||| (2 ^ m))), .int (nI (m + 1)), .int (nI f), .int (nI kk)] [] h4 Q from ?_)
                                        exact ih187 (.int (nI f)) (.int (nI kk)) (m + 1) (s ||| (2 ^ m)) h4 (by omega) (by omega) (q3.tr q4) (by rw [hs, whoB]; first | rw [if_pos hbg] | (rw [if_neg hbg, Nat.or_zero]))
                                    · skip
                                      have c11 : ¬ f = 0 := fun q => c11 ((nI_eq (a := f) (b := 0) (by omega) (by omega)).mpr q)
                                      refine exf_go 6 (show vp_in (nI kk) 10000 ∧ (Go (d + 4) true 284 251 [.ref 130, .int (nI tt), .int 0, .int (nI (unl vs n)), .int (nI s), .int (nI m), .int (nI f), .int (nI kk)] [.int (rI h4 140 ((nI kk).toNatClampNeg)), .int (nI tt), .ref 130] h4 Q) from ⟨(vp_in_nI (by omega) (by omega)), ?_⟩)
                                      rw [show (rI h4 140 ((nI kk).toNatClampNeg) : Int32) = nI (ordE (wE g (sK g m)) g (sK g m) kk) from mo_atE ms.1.1 mo4 (k := kk) (by have := (hle (by omega)).1; omega)]
                                      have hoi := ordE_in (E := wE g (sK g m)) (g := g) (kn := sK g m) (k := kk) (by have := (hle (by omega)).1; omega)
                                      refine exf_go 1 (show wpC (d + 4) true 283 [.ref 130, .int (nI tt), .int (nI (ordE (wE g (sK g m)) g (sK g m) kk))] h4 (fun r h' => Go (d + 4) true 284 254 [.ref 130, .int (nI tt), .int 0, .int (nI (unl vs n)), .int (nI s), .int (nI m), .int (nI f), .int (nI kk)] [r] h' Q) from ?_)
                                      refine m_told etr (m := ordE (wE g (sK g m)) g (sK g m) kk) (by omega) mt4 (fun b13 => ?_) (fun b13 => ?_)
                                      · skip
                                        show Go (d + 4) true 284 254 [.ref 130, .int (nI tt), .int 0, .int (nI (unl vs n)), .int (nI s), .int (nI m), .int (nI f), .int (nI kk)] [.int 1] h4 Q
                                        refine exf_go 2 (show Go (d + 4) true 284 259 [.ref 130, .int (nI tt), .int 0, .int (nI (unl vs n)), .int (nI s), .int (nI m), .int 1, .int ((nI kk) + 1)] [] h4 Q from ?_)
                                        rw [show ((nI kk) + 1 : Int32) = nI (kk + 1) from nI_add kk 1]
                                        refine exf_go 1 (show Go (d + 4) true 284 231 [.ref 130, .int (nI tt), .int 0, .int (nI (unl vs n)), .int (nI s), .int (nI m), .int 1, .int (nI (kk + 1))] [] h4 Q from ?_)
                                        exact ih231 (kk + 1) 1 (by omega) (by omega) (by rw [bgT, (hle (by omega)).2, decide_eq_true (hle (by omega)).1, b13]; rfl)
                                      · skip
                                        show Go (d + 4) true 284 254 [.ref 130, .int (nI tt), .int 0, .int (nI (unl vs n)), .int (nI s), .int (nI m), .int (nI f), .int (nI kk)] [.int 0] h4 Q
                                        refine exf_go 2 (show Go (d + 4) true 284 259 [.ref 130, .int (nI tt), .int 0, .int (nI (unl vs n)), .int (nI s), .int (nI m), .int 0, .int ((nI kk) + 1)] [] h4 Q from ?_)
                                        rw [show ((nI kk) + 1 : Int32) = nI (kk + 1) from nI_add kk 1]
                                        refine exf_go 1 (show Go (d + 4) true 284 231 [.ref 130, .int (nI tt), .int 0, .int (nI (unl vs n)), .int (nI s), .int (nI m), .int 0, .int (nI (kk + 1))] [] h4 Q from ?_)
                                        exact ih231 (kk + 1) 0 (by omega) (by omega) (by rw [bgT, (hle (by omega)).2, decide_eq_true (hle (by omega)).1, b13]; rfl)
                              exact L231 (unl vs n + 1) 0 0 (by omega) (by omega) (by rw [decide_eq_false (by omega)]; rfl)
                            · skip
                              have c8 : ¬ (cntN (wE g (sK g m)) (tot g)) < (unl vs n) := fun q => c8 ((nI_ltI (a := (cntN (wE g (sK g m)) (tot g))) (b := (unl vs n)) (by omega) (by omega)).mpr q)
                              refine exf_go 5 (show Go (d + 4) true 284 231 [.ref 130, .int (nI tt), .int 0, .int (nI (unl vs n)), .int (nI s), .int (nI m), .int 1, .int 0] [] h4 Q from ?_)
                              have L231 : ∀ (k231 : Nat) (kk f : Nat), (unl vs n - kk) < k231 → (kk ≤ unl vs n) → (f = b2n (decide (unl vs n ≤ cntN (wE g (sK g m)) (tot g)) && bgT g vs n (sK g m) kk)) → Go (d + 4) true 284 231 [.ref 130, .int (nI tt), .int 0, .int (nI (unl vs n)), .int (nI s), .int (nI m), .int (nI f), .int (nI kk)] [] h4 Q := by
                                intro k231
                                induction k231 with
                                | zero => intro kk f hk; exact absurd hk (Nat.not_lt_zero _)
                                | succ k231 ih231 =>
                                  intro kk f hk hkk hf
                                  have hf1 := b2n_le (decide (unl vs n ≤ cntN (wE g (sK g m)) (tot g)) && bgT g vs n (sK g m) kk)
                                  have hle : ¬ f = 0 → unl vs n ≤ cntN (wE g (sK g m)) (tot g) ∧ bgT g vs n (sK g m) kk = true := fun q => by rw [hf] at q; have q2 := b2n_1 q; rw [Bool.and_eq_true, decide_eq_true_eq] at q2; exact q2
                                  refine exf_go 3 (show ((nI (unl vs n)) ≤ (nI kk) → Go (d + 4) true 284 262 [.ref 130, .int (nI tt), .int 0, .int (nI (unl vs n)), .int (nI s), .int (nI m), .int (nI f), .int (nI kk)] [] h4 Q) ∧ (¬ ((nI (unl vs n)) ≤ (nI kk)) → Go (d + 4) true 284 237 [.ref 130, .int (nI tt), .int 0, .int (nI (unl vs n)), .int (nI s), .int (nI m), .int (nI f), .int (nI kk)] [] h4 Q) from ⟨fun c14 => ?_, fun c14 => ?_⟩)
                                  · skip
                                    have c14 : (unl vs n) ≤ kk := (nI_leI (a := (unl vs n)) (b := kk) (by omega) (by omega)).mp c14
                                    refine exf_go 3 (show ((nI f) = 0 → Go (d + 4) true 284 276 [.ref 130, .int (nI tt), .int 0, .int (nI (unl vs n)), .int (nI s), .int (nI m), .int (nI f), .int (nI kk)] [.int (nI s)] h4 Q) ∧ (¬ ((nI f) = 0) → Go (d + 4) true 284 269 [.ref 130, .int (nI tt), .int 0, .int (nI (unl vs n)), .int (nI s), .int (nI m), .int (nI f), .int (nI kk)] [.int (nI s)] h4 Q) from ⟨fun c15 => ?_, fun c15 => ?_⟩)
                                    · skip
                                      have c15 : f = 0 := (nI_eq (a := f) (b := 0) (by omega) (by omega)).mp c15
                                      have hbg : ¬ bgw g vs n (sK g m) = true := by unfold bgw; first | (rw [← show kk = unl vs n from by omega]; intro q; rw [q] at hf; exact absurd hf (by rw [show f = 0 from by omega]; decide)) | (intro q; rw [Bool.and_eq_true, decide_eq_true_eq] at q; have h9 : bgT g vs n (sK g m) kk = false := by { cases h8 : bgT g vs n (sK g m) kk with | false => rfl | true => exact absurd hf (by rw [decide_eq_true q.1, h8, show f = 0 from by omega]; decide) }; rw [bt_end h9 hkk] at q; exact absurd q.2 (by decide))
                                      refine exf_go 2 (show Go (d + 4) true 284 278 [.ref 130, .int (nI tt), .int 0, .int (nI (unl vs n)), .int (nI s), .int (nI m), .int (nI f), .int (nI kk)] [.int ((nI s) ||| 0)] h4 Q from ?_)
                                      rw [show ((nI s) ||| 0 : Int32) = nI (s ||| 0) from nI_or s 0]
                                      refine exf_go 2 (show Go (d + 4) true 284 283 [.ref 130, .int (nI tt), .int 0, .int (nI (unl vs n)), .int (nI (s ||| 0)), .int ((nI m) + 1), .int (nI f), .int (nI kk)] [] h4 Q from ?_)
                                      rw [show ((nI m) + 1 : Int32) = nI (m + 1) from nI_add m 1]
                                      refine exf_go 1 (show Go (d + 4) true 284 187 [.ref 130, .int (nI tt), .int 0, .int (nI (unl vs n)), .int (nI (s ||| 0)), .int (nI (m + 1)), .int (nI f), .int (nI kk)] [] h4 Q from ?_)
                                      exact ih187 (.int (nI f)) (.int (nI kk)) (m + 1) (s ||| 0) h4 (by omega) (by omega) (q3.tr q4) (by rw [hs, whoB]; first | rw [if_pos hbg] | (rw [if_neg hbg, Nat.or_zero]))
                                    · skip
                                      have c15 : ¬ f = 0 := fun q => c15 ((nI_eq (a := f) (b := 0) (by omega) (by omega)).mpr q)
                                      have hbg : bgw g vs n (sK g m) = true := by unfold bgw; rw [decide_eq_true (hle (by omega)).1, ← show kk = unl vs n from by omega, (hle (by omega)).2]; rfl
                                      refine exf_go 3 (show Go (d + 4) true 284 273 [.ref 130, .int (nI tt), .int 0, .int (nI (unl vs n)), .int (nI s), .int (nI m), .int (nI f), .int (nI kk)] [.int (1 <<< ((nI m) &&& 31)), .int (nI s)] h4 Q from ?_)
                                      rw [show (1 <<< ((nI m) &&& 31) : Int32) = nI (2 ^ m) from nI_1shl (k := m) (by omega)]
                                      refine exf_go 2 (show Go (d + 4) true 284 278 [.ref 130, .int (nI tt), .int 0, .int (nI (unl vs n)), .int (nI s), .int (nI m), .int (nI f), .int (nI kk)] [.int ((nI s) ||| (nI (2 ^ m)))] h4 Q from ?_)
                                      rw [show ((nI s) ||| (nI (2 ^ m)) : Int32) = nI (s ||| (2 ^ m)) from nI_or s (2 ^ m)]
                                      refine exf_go 2 (show Go (d + 4) true 284 283 [.ref 130, .int (nI tt), .int 0, .int (nI (unl vs n)), .int (nI (s ||| (2 ^ m))), .int ((nI m) + 1), .int (nI f), .int (nI kk)] [] h4 Q from ?_)
                                      rw [show ((nI m) + 1 : Int32) = nI (m + 1) from nI_add m 1]
                                      refine exf_go 1 (show Go (d + 4) true 284 187 [.ref 130, .int (nI tt), .int 0, .int (nI (unl vs n)), .int (nI (s ||| (2 ^ m))), .int (nI (m + 1)), .int (nI f), .int (nI kk)] [] h4 Q from ?_)
                                      exact ih187 (.int (nI f)) (.int (nI kk)) (m + 1) (s ||| (2 ^ m)) h4 (by omega) (by omega) (q3.tr q4) (by rw [hs, whoB]; first | rw [if_pos hbg] | (rw [if_neg hbg, Nat.or_zero]))
                                  · skip
                                    have c14 : ¬ (unl vs n) ≤ kk := fun q => c14 ((nI_leI (a := (unl vs n)) (b := kk) (by omega) (by omega)).mpr q)
                                    refine exf_go 2 (show ((nI f) = 0 → Go (d + 4) true 284 262 [.ref 130, .int (nI tt), .int 0, .int (nI (unl vs n)), .int (nI s), .int (nI m), .int (nI f), .int (nI kk)] [] h4 Q) ∧ (¬ ((nI f) = 0) → Go (d + 4) true 284 242 [.ref 130, .int (nI tt), .int 0, .int (nI (unl vs n)), .int (nI s), .int (nI m), .int (nI f), .int (nI kk)] [] h4 Q) from ⟨fun c16 => ?_, fun c16 => ?_⟩)
                                    · skip
                                      have c16 : f = 0 := (nI_eq (a := f) (b := 0) (by omega) (by omega)).mp c16
                                      refine exf_go 3 (show ((nI f) = 0 → Go (d + 4) true 284 276 [.ref 130, .int (nI tt), .int 0, .int (nI (unl vs n)), .int (nI s), .int (nI m), .int (nI f), .int (nI kk)] [.int (nI s)] h4 Q) ∧ (¬ ((nI f) = 0) → Go (d + 4) true 284 269 [.ref 130, .int (nI tt), .int 0, .int (nI (unl vs n)), .int (nI s), .int (nI m), .int (nI f), .int (nI kk)] [.int (nI s)] h4 Q) from ⟨fun c17 => ?_, fun c17 => ?_⟩)
                                      · skip
                                        have c17 : f = 0 := (nI_eq (a := f) (b := 0) (by omega) (by omega)).mp c17
                                        have hbg : ¬ bgw g vs n (sK g m) = true := by unfold bgw; first | (rw [← show kk = unl vs n from by omega]; intro q; rw [q] at hf; exact absurd hf (by rw [show f = 0 from by omega]; decide)) | (intro q; rw [Bool.and_eq_true, decide_eq_true_eq] at q; have h9 : bgT g vs n (sK g m) kk = false := by { cases h8 : bgT g vs n (sK g m) kk with | false => rfl | true => exact absurd hf (by rw [decide_eq_true q.1, h8, show f = 0 from by omega]; decide) }; rw [bt_end h9 hkk] at q; exact absurd q.2 (by decide))
                                        refine exf_go 2 (show Go (d + 4) true 284 278 [.ref 130, .int (nI tt), .int 0, .int (nI (unl vs n)), .int (nI s), .int (nI m), .int (nI f), .int (nI kk)] [.int ((nI s) ||| 0)] h4 Q from ?_)
                                        rw [show ((nI s) ||| 0 : Int32) = nI (s ||| 0) from nI_or s 0]
                                        refine exf_go 2 (show Go (d + 4) true 284 283 [.ref 130, .int (nI tt), .int 0, .int (nI (unl vs n)), .int (nI (s ||| 0)), .int ((nI m) + 1), .int (nI f), .int (nI kk)] [] h4 Q from ?_)
                                        rw [show ((nI m) + 1 : Int32) = nI (m + 1) from nI_add m 1]
                                        refine exf_go 1 (show Go (d + 4) true 284 187 [.ref 130, .int (nI tt), .int 0, .int (nI (unl vs n)), .int (nI (s ||| 0)), .int (nI (m + 1)), .int (nI f), .int (nI kk)] [] h4 Q from ?_)
                                        exact ih187 (.int (nI f)) (.int (nI kk)) (m + 1) (s ||| 0) h4 (by omega) (by omega) (q3.tr q4) (by rw [hs, whoB]; first | rw [if_pos hbg] | (rw [if_neg hbg, Nat.or_zero]))
                                      · skip
                                        have c17 : ¬ f = 0 := fun q => c17 ((nI_eq (a := f) (b := 0) (by omega) (by omega)).mpr q)
                                        have hbg : bgw g vs n (sK g m) = true := by unfold bgw; rw [decide_eq_true (hle (by omega)).1, ← show kk = unl vs n from by omega, (hle (by omega)).2]; rfl
                                        refine exf_go 3 (show Go (d + 4) true 284 273 [.ref 130, .int (nI tt), .int 0, .int (nI (unl vs n)), .int (nI s), .int (nI m), .int (nI f), .int (nI kk)] [.int (1 <<< ((nI m) &&& 31)), .int (nI s)] h4 Q from ?_)
                                        rw [show (1 <<< ((nI m) &&& 31) : Int32) = nI (2 ^ m) from nI_1shl (k := m) (by omega)]
                                        refine exf_go 2 (show Go (d + 4) true 284 278 [.ref 130, .int (nI tt), .int 0, .int (nI (unl vs n)), .int (nI s), .int (nI m), .int (nI f), .int (nI kk)] [.int ((nI s) ||| (nI (2 ^ m)))] h4 Q from ?_)
                                        rw [show ((nI s) ||| (nI (2 ^ m)) : Int32) = nI (s ||| (2 ^ m)) from nI_or s (2 ^ m)]
                                        refine exf_go 2 (show Go (d + 4) true 284 283 [.ref 130, .int (nI tt), .int 0, .int (nI (unl vs n)), .int (nI (s ||| (2 ^ m))), .int ((nI m) + 1), .int (nI f), .int (nI kk)] [] h4 Q from ?_)
                                        rw [show ((nI m) + 1 : Int32) = nI (m + 1) from nI_add m 1]
                                        refine exf_go 1 (show Go (d + 4) true 284 187 [.ref 130, .int (nI tt), .int 0, .int (nI (unl vs n)), .int (nI (s ||| (2 ^ m))), .int (nI (m + 1)), .int (nI f), .int (nI kk)] [] h4 Q from ?_)
                                        exact ih187 (.int (nI f)) (.int (nI kk)) (m + 1) (s ||| (2 ^ m)) h4 (by omega) (by omega) (q3.tr q4) (by rw [hs, whoB]; first | rw [if_pos hbg] | (rw [if_neg hbg, Nat.or_zero]))
                                    · skip
                                      have c16 : ¬ f = 0 := fun q => c16 ((nI_eq (a := f) (b := 0) (by omega) (by omega)).mpr q)
                                      refine exf_go 6 (show vp_in (nI kk) 10000 ∧ (Go (d + 4) true 284 251 [.ref 130, .int (nI tt), .int 0, .int (nI (unl vs n)), .int (nI s), .int (nI m), .int (nI f), .int (nI kk)] [.int (rI h4 140 ((nI kk).toNatClampNeg)), .int (nI tt), .ref 130] h4 Q) from ⟨(vp_in_nI (by omega) (by omega)), ?_⟩)
                                      rw [show (rI h4 140 ((nI kk).toNatClampNeg) : Int32) = nI (ordE (wE g (sK g m)) g (sK g m) kk) from mo_atE ms.1.1 mo4 (k := kk) (by have := (hle (by omega)).1; omega)]
                                      have hoi := ordE_in (E := wE g (sK g m)) (g := g) (kn := sK g m) (k := kk) (by have := (hle (by omega)).1; omega)
                                      refine exf_go 1 (show wpC (d + 4) true 283 [.ref 130, .int (nI tt), .int (nI (ordE (wE g (sK g m)) g (sK g m) kk))] h4 (fun r h' => Go (d + 4) true 284 254 [.ref 130, .int (nI tt), .int 0, .int (nI (unl vs n)), .int (nI s), .int (nI m), .int (nI f), .int (nI kk)] [r] h' Q) from ?_)
                                      refine m_told etr (m := ordE (wE g (sK g m)) g (sK g m) kk) (by omega) mt4 (fun b18 => ?_) (fun b18 => ?_)
                                      · skip
                                        show Go (d + 4) true 284 254 [.ref 130, .int (nI tt), .int 0, .int (nI (unl vs n)), .int (nI s), .int (nI m), .int (nI f), .int (nI kk)] [.int 1] h4 Q
                                        refine exf_go 2 (show Go (d + 4) true 284 259 [.ref 130, .int (nI tt), .int 0, .int (nI (unl vs n)), .int (nI s), .int (nI m), .int 1, .int ((nI kk) + 1)] [] h4 Q from ?_)
                                        rw [show ((nI kk) + 1 : Int32) = nI (kk + 1) from nI_add kk 1]
                                        refine exf_go 1 (show Go (d + 4) true 284 231 [.ref 130, .int (nI tt), .int 0, .int (nI (unl vs n)), .int (nI s), .int (nI m), .int 1, .int (nI (kk + 1))] [] h4 Q from ?_)
                                        exact ih231 (kk + 1) 1 (by omega) (by omega) (by rw [bgT, (hle (by omega)).2, decide_eq_true (hle (by omega)).1, b18]; rfl)
                                      · skip
                                        show Go (d + 4) true 284 254 [.ref 130, .int (nI tt), .int 0, .int (nI (unl vs n)), .int (nI s), .int (nI m), .int (nI f), .int (nI kk)] [.int 0] h4 Q
                                        refine exf_go 2 (show Go (d + 4) true 284 259 [.ref 130, .int (nI tt), .int 0, .int (nI (unl vs n)), .int (nI s), .int (nI m), .int 0, .int ((nI kk) + 1)] [] h4 Q from ?_)
                                        rw [show ((nI kk) + 1 : Int32) = nI (kk + 1) from nI_add kk 1]
                                        refine exf_go 1 (show Go (d + 4) true 284 231 [.ref 130, .int (nI tt), .int 0, .int (nI (unl vs n)), .int (nI s), .int (nI m), .int 0, .int (nI (kk + 1))] [] h4 Q from ?_)
                                        exact ih231 (kk + 1) 0 (by omega) (by omega) (by rw [bgT, (hle (by omega)).2, decide_eq_true (hle (by omega)).1, b18]; rfl)
                              exact L231 (unl vs n + 1) 0 1 (by omega) (by omega) (by rw [decide_eq_true (by omega)]; rfl)
                      exact L187 (sM g + 1) z6 mk_ 0 0 h2 (by omega) (by omega) Fq.rfl' rfl
                    · skip
                      have c6 : ¬ 371 ≤ i := fun q => c6 ((nI_leI (a := 371) (b := i) (by omega) (by omega)).mpr q)
                      refine exf_go 6 (show vp_in (nI i) 41523 ∧ (Go (d + 4) true 284 178 [.ref 130, .int (nI tt), .int 0, .int (nI (unl vs n)), .int ((nI i) + 1), z5, z6, mk_] [] (uI h2 131 ((nI i).toNatClampNeg) 0) Q) from ⟨(vp_in_nI (by omega) (by omega)), ?_⟩)
                      rw [show ((nI i) + 1 : Int32) = nI (i + 1) from nI_add i 1]
                      refine exf_go 1 (show Go (d + 4) true 284 159 [.ref 130, .int (nI tt), .int 0, .int (nI (unl vs n)), .int (nI (i + 1)), z5, z6, mk_] [] (uI h2 131 ((nI i).toNatClampNeg) 0) Q from ?_)
                      exact ih159 z5 z6 (i + 1) _ (by omega) (by omega) (q2.uI' _ _ _ (sGo_t (by rw [nI_clamp (by omega)]; omega) (by rw [nI_clamp (by omega)]; omega))) (fun j u v => by rw [nI_clamp (by omega)]; exact (Decidable.em (j = i)).elim (fun z => by rw [z, rI_uI_eq]) (fun z => by rw [rI_uI_at z]; exact hz j u (by omega))) (fun j u => by rw [nI_clamp (by omega), rI_uI_at (by omega)]; exact hc j (by omega))
                exact L159 (371 + 1) z5 z6 58 h1 (by omega) (by omega) Fq.rfl' (fun j u v => absurd u (by omega)) (fun j u => rfl)
              · skip
                have c5 : ¬ n ≤ i := fun q => c5 ((nI_leI (a := n) (b := i) (by omega) (by omega)).mpr q)
                refine exf_go 6 (show Go (d + 4) true 284 62 [.ref 130, .int (nI tt), .int 0, .int (nI u), .int (nI i), z5, z6, mk_] [.int (40 * (nI tt)), .ref 151, .ref 130] (uI h 130 0 0) Q from ?_)
                rw [show (40 * (nI tt) : Int32) = nI (40 * tt) from pk_mul 40 tt]
                refine exf_go 2 (show Go (d + 4) true 284 65 [.ref 130, .int (nI tt), .int 0, .int (nI u), .int (nI i), z5, z6, mk_] [.int ((nI (40 * tt)) + (nI i)), .ref 151, .ref 130] (uI h 130 0 0) Q from ?_)
                rw [show ((nI (40 * tt)) + (nI i) : Int32) = nI ((40 * tt) + i) from nI_add (40 * tt) i]
                refine exf_go 1 (show vp_in (nI ((40 * tt) + i)) 160 ∧ (Go (d + 4) true 284 66 [.ref 130, .int (nI tt), .int 0, .int (nI u), .int (nI i), z5, z6, mk_] [.long (rJ h 151 ((nI ((40 * tt) + i)).toNatClampNeg)), .ref 130] (uI h 130 0 0) Q) from ⟨(vp_in_nI (by omega) (by omega)), ?_⟩)
                rw [show (rJ h 151 ((nI ((40 * tt) + i)).toNatClampNeg) : Int64) = vs i from by rw [nI_clamp (by omega)]; exact mt.2.2.2.2 _ (by omega)]
                refine exf_go 1 (show wpC (d + 4) true 218 [.ref 130, .long (vs i)] (uI h 130 0 0) (fun r h' => Go (d + 4) true 284 69 [.ref 130, .int (nI tt), .int 0, .int (nI u), .int (nI i), z5, z6, mk_] [r] h' Q) from ?_)
                refine m_isNumL (ms_fq ms (Fq.uI' Fq.rfl' _ _ _ rfl)) (x := vs i) (fun nn eix eq1 eq2 => ?_) (fun eix => ?_)
                · skip
                  show Go (d + 4) true 284 69 [.ref 130, .int (nI tt), .int 0, .int (nI u), .int (nI i), z5, z6, mk_] [.int 1] (uI h 130 0 0) Q
                  refine exf_go 1 (show (¬ (1 : Int32) = 0 → Go (d + 4) true 284 75 [.ref 130, .int (nI tt), .int 0, .int (nI u), .int (nI i), z5, z6, mk_] [] (uI h 130 0 0) Q) ∧ (¬ (¬ (1 : Int32) = 0) → Go (d + 4) true 284 72 [.ref 130, .int (nI tt), .int 0, .int (nI u), .int (nI i), z5, z6, mk_] [] (uI h 130 0 0) Q) from ⟨fun c19 => ?_, fun c19 => ?_⟩)
                  · skip
                    refine exf_go 4 (show Go (d + 4) true 284 81 [.ref 130, .int (nI tt), .int 0, .int (nI u), .int (nI i), .int 1, .int 0, mk_] [] (uI h 130 0 0) Q from ?_)
                    have L81 : ∀ (k81 : Nat) (x2 f : Nat), (i - x2) < k81 → (x2 ≤ i) → (f = b2n (!(tld vs (vs i) x2))) → Go (d + 4) true 284 81 [.ref 130, .int (nI tt), .int 0, .int (nI u), .int (nI i), .int (nI f), .int (nI x2), mk_] [] (uI h 130 0 0) Q := by
                      intro k81
                      induction k81 with
                      | zero => intro x2 f hk; exact absurd hk (Nat.not_lt_zero _)
                      | succ k81 ih81 =>
                        intro x2 f hk hx hf
                        have hf1 := b2n_le (!(tld vs (vs i) x2))
                        refine exf_go 3 (show ((nI i) ≤ (nI x2) → Go (d + 4) true 284 132 [.ref 130, .int (nI tt), .int 0, .int (nI u), .int (nI i), .int (nI f), .int (nI x2), mk_] [] (uI h 130 0 0) Q) ∧ (¬ ((nI i) ≤ (nI x2)) → Go (d + 4) true 284 88 [.ref 130, .int (nI tt), .int 0, .int (nI u), .int (nI i), .int (nI f), .int (nI x2), mk_] [] (uI h 130 0 0) Q) from ⟨fun c20 => ?_, fun c20 => ?_⟩)
                        · skip
                          have c20 : i ≤ x2 := (nI_leI (a := i) (b := x2) (by omega) (by omega)).mp c20
                          refine exf_go 3 (show ((nI f) = 0 → Go (d + 4) true 284 142 [.ref 130, .int (nI tt), .int 0, .int (nI u), .int (nI i), .int (nI f), .int (nI x2), mk_] [.int (nI u)] (uI h 130 0 0) Q) ∧ (¬ ((nI f) = 0) → Go (d + 4) true 284 138 [.ref 130, .int (nI tt), .int 0, .int (nI u), .int (nI i), .int (nI f), .int (nI x2), mk_] [.int (nI u)] (uI h 130 0 0) Q) from ⟨fun c21 => ?_, fun c21 => ?_⟩)
                          · skip
                            have c21 : f = 0 := (nI_eq (a := f) (b := 0) (by omega) (by omega)).mp c21
                            refine exf_go 2 (show Go (d + 4) true 284 144 [.ref 130, .int (nI tt), .int 0, .int (nI u), .int (nI i), .int (nI f), .int (nI x2), mk_] [.int ((nI u) + 0)] (uI h 130 0 0) Q from ?_)
                            rw [show ((nI u) + 0 : Int32) = nI (u + 0) from nI_add u 0]
                            refine exf_go 2 (show Go (d + 4) true 284 148 [.ref 130, .int (nI tt), .int 0, .int (nI (u + 0)), .int ((nI i) + 1), .int (nI f), .int (nI x2), mk_] [] (uI h 130 0 0) Q from ?_)
                            rw [show ((nI i) + 1 : Int32) = nI (i + 1) from nI_add i 1]
                            refine exf_go 1 (show Go (d + 4) true 284 42 [.ref 130, .int (nI tt), .int 0, .int (nI (u + 0)), .int (nI (i + 1)), .int (nI f), .int (nI x2), mk_] [] (uI h 130 0 0) Q from ?_)
                            have hx2 : x2 = i := by omega
                            subst hx2
                            exact ih42 (.int (nI f)) (.int (nI x2)) (x2 + 1) (u + 0) (by omega) (by omega) (by first | exact un_1 hu hf (by assumption) | exact un_0 hu hf (by assumption)) (by rw [awB, haw, eix]; rfl)
                          · skip
                            have c21 : ¬ f = 0 := fun q => c21 ((nI_eq (a := f) (b := 0) (by omega) (by omega)).mpr q)
                            refine exf_go 3 (show Go (d + 4) true 284 144 [.ref 130, .int (nI tt), .int 0, .int (nI u), .int (nI i), .int (nI f), .int (nI x2), mk_] [.int ((nI u) + 1)] (uI h 130 0 0) Q from ?_)
                            rw [show ((nI u) + 1 : Int32) = nI (u + 1) from nI_add u 1]
                            refine exf_go 2 (show Go (d + 4) true 284 148 [.ref 130, .int (nI tt), .int 0, .int (nI (u + 1)), .int ((nI i) + 1), .int (nI f), .int (nI x2), mk_] [] (uI h 130 0 0) Q from ?_)
                            rw [show ((nI i) + 1 : Int32) = nI (i + 1) from nI_add i 1]
                            refine exf_go 1 (show Go (d + 4) true 284 42 [.ref 130, .int (nI tt), .int 0, .int (nI (u + 1)), .int (nI (i + 1)), .int (nI f), .int (nI x2), mk_] [] (uI h 130 0 0) Q from ?_)
                            have hx2 : x2 = i := by omega
                            subst hx2
                            exact ih42 (.int (nI f)) (.int (nI x2)) (x2 + 1) (u + 1) (by omega) (by omega) (by first | exact un_1 hu hf (by assumption) | exact un_0 hu hf (by assumption)) (by rw [awB, haw, eix]; rfl)
                        · skip
                          have c20 : ¬ i ≤ x2 := fun q => c20 ((nI_leI (a := i) (b := x2) (by omega) (by omega)).mpr q)
                          refine exf_go 6 (show Go (d + 4) true 284 98 [.ref 130, .int (nI tt), .int 0, .int (nI u), .int (nI i), .int (nI f), .int (nI x2), mk_] [.int (40 * (nI tt)), .ref 151, .int (nI f)] (uI h 130 0 0) Q from ?_)
                          rw [show (40 * (nI tt) : Int32) = nI (40 * tt) from pk_mul 40 tt]
                          refine exf_go 2 (show Go (d + 4) true 284 101 [.ref 130, .int (nI tt), .int 0, .int (nI u), .int (nI i), .int (nI f), .int (nI x2), mk_] [.int ((nI (40 * tt)) + (nI x2)), .ref 151, .int (nI f)] (uI h 130 0 0) Q from ?_)
                          rw [show ((nI (40 * tt)) + (nI x2) : Int32) = nI ((40 * tt) + x2) from nI_add (40 * tt) x2]
                          refine exf_go 1 (show vp_in (nI ((40 * tt) + x2)) 160 ∧ (Go (d + 4) true 284 102 [.ref 130, .int (nI tt), .int 0, .int (nI u), .int (nI i), .int (nI f), .int (nI x2), mk_] [.long (rJ h 151 ((nI ((40 * tt) + x2)).toNatClampNeg)), .int (nI f)] (uI h 130 0 0) Q) from ⟨(vp_in_nI (by omega) (by omega)), ?_⟩)
                          rw [show (rJ h 151 ((nI ((40 * tt) + x2)).toNatClampNeg) : Int64) = vs x2 from by rw [nI_clamp (by omega)]; exact mt.2.2.2.2 _ (by omega)]
                          refine exf_go 5 (show Go (d + 4) true 284 110 [.ref 130, .int (nI tt), .int 0, .int (nI u), .int (nI i), .int (nI f), .int (nI x2), mk_] [.int (40 * (nI tt)), .ref 151, .long (vs x2), .int (nI f)] (uI h 130 0 0) Q from ?_)
                          rw [show (40 * (nI tt) : Int32) = nI (40 * tt) from pk_mul 40 tt]
                          refine exf_go 2 (show Go (d + 4) true 284 113 [.ref 130, .int (nI tt), .int 0, .int (nI u), .int (nI i), .int (nI f), .int (nI x2), mk_] [.int ((nI (40 * tt)) + (nI i)), .ref 151, .long (vs x2), .int (nI f)] (uI h 130 0 0) Q from ?_)
                          rw [show ((nI (40 * tt)) + (nI i) : Int32) = nI ((40 * tt) + i) from nI_add (40 * tt) i]
                          refine exf_go 1 (show vp_in (nI ((40 * tt) + i)) 160 ∧ (Go (d + 4) true 284 114 [.ref 130, .int (nI tt), .int 0, .int (nI u), .int (nI i), .int (nI f), .int (nI x2), mk_] [.long (rJ h 151 ((nI ((40 * tt) + i)).toNatClampNeg)), .long (vs x2), .int (nI f)] (uI h 130 0 0) Q) from ⟨(vp_in_nI (by omega) (by omega)), ?_⟩)
                          rw [show (rJ h 151 ((nI ((40 * tt) + i)).toNatClampNeg) : Int64) = vs i from by rw [nI_clamp (by omega)]; exact mt.2.2.2.2 _ (by omega)]
                          refine exf_go 2 (show ((lg_cmp (vs x2) (vs i)) = 0 → Go (d + 4) true 284 122 [.ref 130, .int (nI tt), .int 0, .int (nI u), .int (nI i), .int (nI f), .int (nI x2), mk_] [.int (nI f)] (uI h 130 0 0) Q) ∧ (¬ ((lg_cmp (vs x2) (vs i)) = 0) → Go (d + 4) true 284 118 [.ref 130, .int (nI tt), .int 0, .int (nI u), .int (nI i), .int (nI f), .int (nI x2), mk_] [.int (nI f)] (uI h 130 0 0) Q) from ⟨fun c22 => ?_, fun c22 => ?_⟩)
                          · skip
                            have c22 : (vs x2) = (vs i) := (lg_cmp_eq _ _).mp c22
                            refine exf_go 2 (show Go (d + 4) true 284 124 [.ref 130, .int (nI tt), .int 0, .int (nI u), .int (nI i), .int (nI f), .int (nI x2), mk_] [.int ((nI f) &&& 0)] (uI h 130 0 0) Q from ?_)
                            rw [show ((nI f) &&& 0 : Int32) = nI 0 from (nI_and f 0).trans (congrArg nI (Nat.and_zero f))]
                            refine exf_go 2 (show Go (d + 4) true 284 129 [.ref 130, .int (nI tt), .int 0, .int (nI u), .int (nI i), .int (nI 0), .int ((nI x2) + 1), mk_] [] (uI h 130 0 0) Q from ?_)
                            rw [show ((nI x2) + 1 : Int32) = nI (x2 + 1) from nI_add x2 1]
                            refine exf_go 1 (show Go (d + 4) true 284 81 [.ref 130, .int (nI tt), .int 0, .int (nI u), .int (nI i), .int (nI 0), .int (nI (x2 + 1)), mk_] [] (uI h 130 0 0) Q from ?_)
                            exact ih81 (x2 + 1) 0 (by omega) (by omega) (by first | exact tl_n hf (by assumption) | exact tl_y (by assumption))
                          · skip
                            have c22 : ¬ ((vs x2) = (vs i)) := fun q => c22 ((lg_cmp_eq _ _).mpr q)
                            refine exf_go 3 (show Go (d + 4) true 284 124 [.ref 130, .int (nI tt), .int 0, .int (nI u), .int (nI i), .int (nI f), .int (nI x2), mk_] [.int ((nI f) &&& 1)] (uI h 130 0 0) Q from ?_)
                            rw [show ((nI f) &&& 1 : Int32) = nI f from (nI_low1 (by omega)).trans (congrArg nI (by omega))]
                            refine exf_go 2 (show Go (d + 4) true 284 129 [.ref 130, .int (nI tt), .int 0, .int (nI u), .int (nI i), .int (nI f), .int ((nI x2) + 1), mk_] [] (uI h 130 0 0) Q from ?_)
                            rw [show ((nI x2) + 1 : Int32) = nI (x2 + 1) from nI_add x2 1]
                            refine exf_go 1 (show Go (d + 4) true 284 81 [.ref 130, .int (nI tt), .int 0, .int (nI u), .int (nI i), .int (nI f), .int (nI (x2 + 1)), mk_] [] (uI h 130 0 0) Q from ?_)
                            exact ih81 (x2 + 1) f (by omega) (by omega) (by first | exact tl_n hf (by assumption) | exact tl_y (by assumption))
                    exact L81 (i + 1) 0 1 (by omega) (by omega) rfl
                  · skip
                    exact absurd (by decide) c19
                · skip
                  show Go (d + 4) true 284 69 [.ref 130, .int (nI tt), .int 0, .int (nI u), .int (nI i), z5, z6, mk_] [.int 0] (uI h 130 0 0) Q
                  refine exf_go 1 (show (¬ (0 : Int32) = 0 → Go (d + 4) true 284 75 [.ref 130, .int (nI tt), .int 0, .int (nI u), .int (nI i), z5, z6, mk_] [] (uI h 130 0 0) Q) ∧ (¬ (¬ (0 : Int32) = 0) → Go (d + 4) true 284 72 [.ref 130, .int (nI tt), .int 0, .int (nI u), .int (nI i), z5, z6, mk_] [] (uI h 130 0 0) Q) from ⟨fun c23 => ?_, fun c23 => ?_⟩)
                  · skip
                    exact absurd c23 (by decide)
                  · skip
                    refine exf_go 2 (show Q (.int (-3)) (uI h 130 0 0) from ?_)
                    simp only [fWho, et, hq] at k; rw [if_neg h16, if_neg (by rw [aw_no (i := i) eix n (by omega)]; decide)] at k
                    exact k _ (M_D (Fq.uI' Fq.rfl' _ _ _ rfl)) (md_M (h1 := uI h 130 0 0) md0 (Fq.uI' Fq.rfl' _ _ _ rfl))
          exact L42 (n + 1) mk_ mk_ 0 0 (by omega) (by omega) rfl rfl
        · skip
          exact absurd (by decide) c4
      · skip
        have h16 := wn_6n hn4 u1
        show Go (d + 4) true 284 31 [.ref 130, .int (nI tt), .int 0, mk_, mk_, mk_, mk_, mk_] [.int 0] (uI h 130 0 0) Q
        refine exf_go 1 (show (¬ (0 : Int32) = 0 → Go (d + 4) true 284 37 [.ref 130, .int (nI tt), .int 0, mk_, mk_, mk_, mk_, mk_] [] (uI h 130 0 0) Q) ∧ (¬ (¬ (0 : Int32) = 0) → Go (d + 4) true 284 34 [.ref 130, .int (nI tt), .int 0, mk_, mk_, mk_, mk_, mk_] [] (uI h 130 0 0) Q) from ⟨fun c24 => ?_, fun c24 => ?_⟩)
        · skip
          exact absurd c24 (by decide)
        · skip
          refine exf_go 2 (show Q (.int (-4)) (uI h 130 0 0) from ?_)
          simp only [fWho, et, hq] at k; rw [if_pos h16] at k
          exact k _ (M_D (Fq.uI' Fq.rfl' _ _ _ rfl)) (md_M (h1 := uI h 130 0 0) md0 (Fq.uI' Fq.rfl' _ _ _ rfl))
    · skip
      exact absurd (by decide) c3
