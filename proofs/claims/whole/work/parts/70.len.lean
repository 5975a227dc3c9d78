/-! The way's turns: neighbours on it differ by one step of one wheel. -/
theorem swp_div {g : ShG} (hg : ShW g) {k : Nat} (hk : k < tot g) : ∀ w, w ≤ 4 → swp g k w = k / aft g w
  | 0, _ => (Nat.div_eq_of_lt hk).symm
  | w + 1, hw => by
    rw [swp, swp_div hg hk w (by omega), aft_s g (w := w) (by omega), Nat.mul_comm (sF g w), ← Nat.div_div_eq_div_mul, show fgo g k w = k / aft g (w + 1) % sF g w from rfl, Nat.mul_comm]
    exact Nat.div_add_mod _ _
theorem thr_div {g : ShG} (hg : ShW g) (k : Nat) : ∀ j w, w + j = sW g → thr g k (sW g) / aft g w = thr g k w
  | 0, w, e => by rw [show w = sW g from by omega, aft_W hg, Nat.div_one]
  | j + 1, w, e => by
    have h4 := hg.1
    have hf := sF_b hg w
    have ih := thr_div hg k j (w + 1) (by omega)
    have hd := tur_lt hg (swp g k w) (fgo_lt hg k w)
    rw [aft_s g (w := w) (by omega), Nat.mul_comm (sF g w), ← Nat.div_div_eq_div_mul, ih, thr, Nat.mul_comm, Nat.mul_add_div (by omega), Nat.div_eq_of_lt hd, Nat.add_zero]
theorem thr_dig {g : ShG} (hg : ShW g) (k : Nat) {w : Nat} (hw : w < sW g) : fgo g (thr g k (sW g)) w = tur g (swp g k w) w (fgo g k w) := by
  have hd := tur_lt hg (swp g k w) (fgo_lt hg k w)
  show thr g k (sW g) / aft g (w + 1) % sF g w = _
  rw [thr_div hg k (sW g - (w + 1)) (w + 1) (by omega), thr, Nat.mul_comm, Nat.mul_add_mod, Nat.mod_eq_of_lt hd]
theorem dig_step {F q : Nat} (hF : 2 ≤ F) : ((q + 1) / F = q / F ∧ (q + 1) % F = q % F + 1 ∧ q % F + 1 < F) ∨ ((q + 1) / F = q / F + 1 ∧ (q + 1) % F = 0 ∧ q % F = F - 1) := by
  have hm : q % F < F := Nat.mod_lt _ (by omega)
  have e : q + 1 = F * (q / F) + (q % F + 1) := by have := Nat.div_add_mod q F; omega
  have e1 : (q + 1) / F = q / F + (q % F + 1) / F := by
    conv => lhs; rw [e]
    rw [Nat.mul_add_div (by omega)]
  have e2 : (q + 1) % F = (q % F + 1) % F := by
    conv => lhs; rw [e]
    rw [Nat.mul_add_mod]
  by_cases h : q % F + 1 < F
  · rw [Nat.div_eq_of_lt h, Nat.add_zero] at e1
    rw [Nat.mod_eq_of_lt h] at e2
    exact Or.inl ⟨e1, e2, h⟩
  · have h2 : q % F + 1 = F := by omega
    rw [h2, Nat.div_self (by omega)] at e1
    rw [h2, Nat.mod_self] at e2
    exact Or.inr ⟨e1, e2, by omega⟩
theorem tnw_0 (g : ShG) (w a : Nat) : tnw g w a a = 0 := by
  unfold tnw stw absd
  split <;> simp
theorem tnw_1 {g : ShG} {w a b : Nat} (hF : 2 ≤ sF g w) (h : a = b + 1 ∨ b = a + 1) : tnw g w a b = sS g w := by
  have e : absd a b = 1 := by unfold absd; omega
  unfold tnw stw
  rw [e]
  split
  · rw [show min 1 (sF g w - 1) = 1 from by omega, Nat.one_mul]
  · rw [Nat.one_mul]
theorem wheel_step {g : ShG} (hg : ShW g) {k w : Nat} (hk : k + 1 < tot g) (hw : w < sW g) : (k / wor g w - k / (wor g w * sF g w)) * sS g w + tnw g w (tur g (swp g k w) w (fgo g k w)) (tur g (swp g (k + 1) w) w (fgo g (k + 1) w)) = ((k + 1) / wor g w - (k + 1) / (wor g w * sF g w)) * sS g w := by
  have h4 := hg.1
  have hF := (hg.2.1 w hw).1
  have hW := wor_b hg w
  have ea : aft g w = wor g w * sF g w := by rw [aft_s g (w := w) (by omega), Nat.mul_comm]; rfl
  rw [swp_div hg (k := k) (by omega) w (by omega), swp_div hg (k := k + 1) hk w (by omega), ea, ← Nat.div_div_eq_div_mul, ← Nat.div_div_eq_div_mul]
  unfold fgo
  have hq : (k + 1) / wor g w = k / wor g w ∨ (k + 1) / wor g w = k / wor g w + 1 := by
    by_cases h1 : wor g w = 1
    · rw [h1, Nat.div_one, Nat.div_one]; exact Or.inr rfl
    · rcases dig_step (F := wor g w) (q := k) (by omega) with h | h
      · exact Or.inl h.1
      · exact Or.inr h.1
  generalize k / wor g w = q at hq ⊢
  generalize (k + 1) / wor g w = q2 at hq ⊢
  rcases hq with e | e
  · rw [e, tnw_0, Nat.add_zero]
  · subst e
    have hle : q / sF g w ≤ q := Nat.div_le_self _ _
    rcases dig_step (q := q) hF with ⟨h1, h2, h3⟩ | ⟨h1, h2, h3⟩
    · rw [h1, h2, tnw_1 hF (by unfold tur; split <;> omega), ← Nat.succ_mul]
      exact congrArg (· * sS g w) (by omega)
    · rw [h1, h2, h3, show tur g (q / sF g w) w (sF g w - 1) = tur g (q / sF g w + 1) w 0 from by unfold tur; split <;> split <;> omega, tnw_0, Nat.add_zero]
      exact congrArg (· * sS g w) (by omega)
theorem len_step {g : ShG} (hg : ShW g) {k : Nat} (hk : k + 1 < tot g) : lenC g k + trn g (thr g k (sW g)) (thr g (k + 1) (sW g)) = lenC g (k + 1) := by
  unfold lenC trn
  rw [← sumN_add]
  refine sumN_cg _ (fun w hw => ?_)
  rw [thr_dig hg k hw, thr_dig hg (k + 1) hw]
  exact wheel_step hg hk hw
theorem len_0 (g : ShG) : lenC g 0 = 0 := by
  unfold lenC
  rw [sumN_cg _ (f2 := fun _ => 0) (fun w _ => by simp), sumN_0]
theorem lw_1 {x : Int32} (h : ¬ x.toInt64 < 1) : ¬ x < 1 := fun q => h (by rw [Int64.lt_iff_toInt_lt, ix64]; exact Int32.lt_iff_toInt_lt.mp q)
theorem lw_2 {x : Int32} {n : Nat} (hn : n < 2 ^ 31) (h : ¬ lN n < x.toInt64) : x ≤ nI n := by
  rw [Int64.lt_iff_toInt_lt, ix64, pk_lT (by omega)] at h
  rw [Int32.le_iff_toInt_le, nI_toInt hn]
  omega
theorem lw_n {x : Int32} {n : Nat} (hn : n < 2 ^ 31) (h : x.toInt64 < 1 ∨ lN n < x.toInt64) : ixN (x - 1) n = none := by
  by_cases h1 : x < 1
  · exact len_no1 hn h1
  · refine len_no2 hn h1 (fun q => ?_)
    rcases h with h | h
    · rw [Int64.lt_iff_toInt_lt, ix64] at h
      exact h1 (Int32.lt_iff_toInt_lt.mpr h)
    · rw [Int64.lt_iff_toInt_lt, ix64, pk_lT (by omega)] at h
      rw [Int32.le_iff_toInt_le, nI_toInt hn] at q
      omega
theorem m_length {d : Nat} {h : Hp} {g : ShG} {l : LkG} {x : Int32} {Q : Po} (ms : MS g l h) (k : ∀ h1, Fq scM h h1 → Q (.int (fLength g x)) h1) : wpC (d + 3) true 270 [.ref 130, .int x] h Q := by
  have hN := tot_b ms.1.1
  have h4 := ms.1.1.1
  have h8 := ms.1.1.2.2.2.1
  have he := evr_b ms.1.1
  have hev : evr g = 2 ^ sC g - 1 := rfl
  have hm4 := ms.1.1.2.2.2.2.2.1
  have hkb := ms.1.1.2.2.2.2.2.2.1
  refine go_in rfl ?_
  refine exf_go 10 (show vp_in 4 41523 ∧ (Go (d + 2) true 270 14 [.ref 130, .int x, mk_, mk_] [.int (rI h 131 4), .long 1, .long x.toInt64] (uI h 130 0 0) Q) from ⟨(vp_in_nI (n := 4) (by decide) (by decide)), ?_⟩)
  rw [show (rI h 131 4 : Int32) = nI (tot g) from ms_N ms]
  refine exf_go 1 (show Go (d + 2) true 270 15 [.ref 130, .int x, mk_, mk_] [.long ((nI (tot g)).toInt64), .long 1, .long x.toInt64] (uI h 130 0 0) Q from ?_)
  rw [show ((nI (tot g)).toInt64 : Int64) = lN (tot g) from nI_l (n := (tot g)) (by omega)]
  refine exf_go 1 (show wpC (d + 2) true 183 [.long x.toInt64, .long 1, .long (lN (tot g))] (uI h 130 0 0) (fun r h' => Go (d + 2) true 270 18 [.ref 130, .int x, mk_, mk_] [r] h' Q) from ?_)
  refine m_within (fun u1 v1 => ?_) (fun u1 => ?_)
  · skip
    obtain ⟨j, e1, e2, e3⟩ := len_in (n := tot g) (by omega) (lw_1 u1) (lw_2 (by omega) v1)
    subst e2
    show Go (d + 2) true 270 18 [.ref 130, .int (nI (j + 1)), mk_, mk_] [.int 1] (uI h 130 0 0) Q
    refine exf_go 1 (show (¬ (1 : Int32) = 0 → Go (d + 2) true 270 24 [.ref 130, .int (nI (j + 1)), mk_, mk_] [] (uI h 130 0 0) Q) ∧ (¬ (¬ (1 : Int32) = 0) → Go (d + 2) true 270 21 [.ref 130, .int (nI (j + 1)), mk_, mk_] [] (uI h 130 0 0) Q) from ⟨fun c1 => ?_, fun c1 => ?_⟩)
    · skip
      refine exf_go 4 (show Go (d + 2) true 270 28 [.ref 130, .int (nI (j + 1)), .int 0, .int 1] [] (uI h 130 0 0) Q from ?_)
      have L28 : ∀ (k28 : Nat) (i s : Nat), (j - i) < k28 → (i ≤ j) → (s = lenC g i) → Go (d + 2) true 270 28 [.ref 130, .int (nI (j + 1)), .int (nI s), .int (nI (i + 1))] [] (uI h 130 0 0) Q := by
        intro k28
        induction k28 with
        | zero => intro i s hk; exact absurd hk (Nat.not_lt_zero _)
        | succ k28 ih28 =>
          intro i s hk hi hs
          refine exf_go 3 (show ((nI (j + 1)) ≤ (nI (i + 1)) → Go (d + 2) true 270 58 [.ref 130, .int (nI (j + 1)), .int (nI s), .int (nI (i + 1))] [] (uI h 130 0 0) Q) ∧ (¬ ((nI (j + 1)) ≤ (nI (i + 1))) → Go (d + 2) true 270 33 [.ref 130, .int (nI (j + 1)), .int (nI s), .int (nI (i + 1))] [] (uI h 130 0 0) Q) from ⟨fun c2 => ?_, fun c2 => ?_⟩)
          · skip
            have c2 : (j + 1) ≤ (i + 1) := (nI_leI (a := (j + 1)) (b := (i + 1)) (by omega) (by omega)).mp c2
            refine exf_go 2 (show Q (.int (nI s)) (uI h 130 0 0) from ?_)
            simp only [fLength, e1] at k
            rw [← show i = j from by omega, ← hs] at k
            exact k _ (Fq.uI' Fq.rfl' _ _ _ rfl)
          · skip
            have c2 : ¬ (j + 1) ≤ (i + 1) := fun q => c2 ((nI_leI (a := (j + 1)) (b := (i + 1)) (by omega) (by omega)).mpr q)
            refine exf_go 6 (show Go (d + 2) true 270 39 [.ref 130, .int (nI (j + 1)), .int (nI s), .int (nI (i + 1))] [.int ((nI (i + 1)) - 1), .ref 130, .ref 130, .int (nI s)] (uI h 130 0 0) Q from ?_)
            rw [show ((nI (i + 1)) - 1 : Int32) = nI i from nI_pred i]
            refine exf_go 1 (show wpC (d + 2) true 266 [.ref 130, .int (nI i)] (uI h 130 0 0) (fun r h' => Go (d + 2) true 270 42 [.ref 130, .int (nI (j + 1)), .int (nI s), .int (nI (i + 1))] [r, .ref 130, .int (nI s)] h' Q) from ?_)
            refine m_throughOf (ms_fq ms (Fq.uI' Fq.rfl' _ _ _ rfl)) (k0 := i) (by omega) ?_
            have htl1 := thr_lt ms.1.1 i (sW g); have hb4 := bef_4 ms.1.1 (w := sW g) (by omega)
            show Go (d + 2) true 270 42 [.ref 130, .int (nI (j + 1)), .int (nI s), .int (nI (i + 1))] [.int (nI (thr g i (sW g))), .ref 130, .int (nI s)] (uI h 130 0 0) Q
            refine exf_go 3 (show wpC (d + 2) true 266 [.ref 130, .int (nI (i + 1))] (uI h 130 0 0) (fun r h' => Go (d + 2) true 270 47 [.ref 130, .int (nI (j + 1)), .int (nI s), .int (nI (i + 1))] [r, .int (nI (thr g i (sW g))), .ref 130, .int (nI s)] h' Q) from ?_)
            refine m_throughOf (ms_fq ms (Fq.uI' Fq.rfl' _ _ _ rfl)) (k0 := (i + 1)) (by omega) ?_
            have htl2 := thr_lt ms.1.1 (i + 1) (sW g); have hb4 := bef_4 ms.1.1 (w := sW g) (by omega)
            show Go (d + 2) true 270 47 [.ref 130, .int (nI (j + 1)), .int (nI s), .int (nI (i + 1))] [.int (nI (thr g (i + 1) (sW g))), .int (nI (thr g i (sW g))), .ref 130, .int (nI s)] (uI h 130 0 0) Q
            refine exf_go 1 (show wpC (d + 2) true 251 [.ref 130, .int (nI (thr g i (sW g))), .int (nI (thr g (i + 1) (sW g)))] (uI h 130 0 0) (fun r h' => Go (d + 2) true 270 50 [.ref 130, .int (nI (j + 1)), .int (nI s), .int (nI (i + 1))] [r, .int (nI s)] h' Q) from ?_)
            refine m_turns (ms_fq ms (Fq.uI' Fq.rfl' _ _ _ rfl)) (by omega) (by omega) ?_
            have := trn_b ms.1.1 (thr g i (sW g)) (thr g (i + 1) (sW g))
            show Go (d + 2) true 270 50 [.ref 130, .int (nI (j + 1)), .int (nI s), .int (nI (i + 1))] [.int (nI (trn g (thr g i (sW g)) (thr g (i + 1) (sW g)))), .int (nI s)] (uI h 130 0 0) Q
            refine exf_go 1 (show Go (d + 2) true 270 51 [.ref 130, .int (nI (j + 1)), .int (nI s), .int (nI (i + 1))] [.int ((nI s) + (nI (trn g (thr g i (sW g)) (thr g (i + 1) (sW g)))))] (uI h 130 0 0) Q from ?_)
            rw [show ((nI s) + (nI (trn g (thr g i (sW g)) (thr g (i + 1) (sW g)))) : Int32) = nI (s + (trn g (thr g i (sW g)) (thr g (i + 1) (sW g)))) from nI_add s (trn g (thr g i (sW g)) (thr g (i + 1) (sW g)))]
            refine exf_go 2 (show Go (d + 2) true 270 55 [.ref 130, .int (nI (j + 1)), .int (nI (s + (trn g (thr g i (sW g)) (thr g (i + 1) (sW g))))), .int ((nI (i + 1)) + 1)] [] (uI h 130 0 0) Q from ?_)
            rw [show ((nI (i + 1)) + 1 : Int32) = nI ((i + 1) + 1) from nI_add (i + 1) 1]
            refine exf_go 1 (show Go (d + 2) true 270 28 [.ref 130, .int (nI (j + 1)), .int (nI (s + (trn g (thr g i (sW g)) (thr g (i + 1) (sW g))))), .int (nI ((i + 1) + 1))] [] (uI h 130 0 0) Q from ?_)
            exact ih28 (i + 1) (s + (trn g (thr g i (sW g)) (thr g (i + 1) (sW g)))) (by omega) (by omega) (by rw [hs]; exact len_step ms.1.1 (by omega))
      exact L28 (j + 1) 0 0 (by omega) (by omega) (len_0 g).symm
    · skip
      exact absurd (by decide) c1
  · skip
    have e1 := lw_n (n := tot g) (by omega) u1
    show Go (d + 2) true 270 18 [.ref 130, .int x, mk_, mk_] [.int 0] (uI h 130 0 0) Q
    refine exf_go 1 (show (¬ (0 : Int32) = 0 → Go (d + 2) true 270 24 [.ref 130, .int x, mk_, mk_] [] (uI h 130 0 0) Q) ∧ (¬ (¬ (0 : Int32) = 0) → Go (d + 2) true 270 21 [.ref 130, .int x, mk_, mk_] [] (uI h 130 0 0) Q) from ⟨fun c3 => ?_, fun c3 => ?_⟩)
    · skip
      exact absurd c3 (by decide)
    · skip
      refine exf_go 2 (show Q (.int (-3)) (uI h 130 0 0) from ?_)
      simp only [fLength, e1] at k
      exact k _ (Fq.uI' Fq.rfl' _ _ _ rfl)
