/-! The model: halves are laid, and turns by them are turns. -/
theorem aft_mul (g : ShG) : ∀ j w, w + j ≤ 4 → ∃ m, aft g w = m * aft g (w + j)
  | 0, w, _ => ⟨1, by rw [Nat.one_mul]; rfl⟩
  | j + 1, w, h => by
    obtain ⟨m, e⟩ := aft_mul g j (w + 1) (by omega)
    refine ⟨sF g w * m, ?_⟩
    rw [aft_s g (by omega), e, show w + 1 + j = w + (j + 1) from by omega, Nat.mul_assoc]
theorem fgo_aft (g : ShG) (x w : Nat) : fgo g x w = x / aft g (w + 1) % sF g w := rfl
theorem trn_cut {g : ShG} (h : ShW g) {v : Nat} (hv : v ≤ 4) (x y : Nat) : trn g (x / aft g v * aft g v) (y / aft g v * aft g v) + trn g (x % aft g v) (y % aft g v) = trn g x y := by
  have hB := (aft_b h hv).1
  have up : ∀ x w, w < v → fgo g (x / aft g v * aft g v) w = fgo g x w ∧ fgo g (x % aft g v) w = 0 := fun x w hw => by
    obtain ⟨m, e⟩ := aft_mul g (v - (w + 1)) (w + 1) (by omega)
    rw [show w + 1 + (v - (w + 1)) = v from by omega] at e
    have hp := (aft_b h (w := w + 1) (by omega)).1
    have hm : 0 < m := Nat.pos_of_ne_zero (fun q => by rw [q, Nat.zero_mul] at e; omega)
    rw [fgo_aft, fgo_aft, fgo_aft, e]
    constructor
    · rw [Nat.mul_div_mul_right _ _ hB, Nat.div_div_eq_div_mul, Nat.mul_comm]
    · have h1 := Nat.mod_lt x hB
      have h2 := Nat.le_mul_of_pos_left (aft g v) hm
      rw [Nat.div_eq_of_lt (by omega), Nat.zero_mod]
  have lo : ∀ x w, v ≤ w → w < 4 → fgo g (x / aft g v * aft g v) w = 0 ∧ fgo g (x % aft g v) w = fgo g x w := fun x w hw h4 => by
    obtain ⟨m, e⟩ := aft_mul g (w - v) v (by omega)
    rw [show v + (w - v) = w from by omega, aft_s g h4, ← Nat.mul_assoc] at e
    have hp := (aft_b h (w := w + 1) (by omega)).1
    rw [fgo_aft, fgo_aft, fgo_aft, e]
    constructor
    · rw [← Nat.mul_assoc, Nat.mul_div_cancel _ hp, ← Nat.mul_assoc, Nat.mul_mod_left]
    · rw [Nat.mod_mul_left_div_self, Nat.mod_mul_left_mod]
  rw [trn_4 h, trn_4 h, trn_4 h, ← sumN_add]
  refine sumN_cg 4 (fun w hw => ?_)
  by_cases c : w < v
  · rw [(up x w c).1, (up x w c).2, (up y w c).1, (up y w c).2, tnw_0, Nat.add_zero]
  · rw [(lo x w (by omega) hw).1, (lo x w (by omega) hw).2, (lo y w (by omega) hw).1, (lo y w (by omega) hw).2, tnw_0, Nat.zero_add]
theorem half_b {g : ShG} (h : ShW g) {B : Nat} (e : B = aft g (sW g - 2)) : 0 < B ∧ B ≤ 100 ∧ tot g / B ≤ 100 ∧ tot g / B * B = tot g := by
  have h4 := h.1
  have ht := tot_b h
  have f0 := sF_b h 0; have f1 := sF_b h 1; have f2 := sF_b h 2; have f3 := sF_b h 3
  have k : ∀ U, tot g = U * B → 0 < B → B ≤ 100 → U ≤ 100 → 0 < B ∧ B ≤ 100 ∧ tot g / B ≤ 100 ∧ tot g / B * B = tot g := fun U hU h0 h1 h2 => by
    have e2 : tot g / B = U := by rw [hU, Nat.mul_div_cancel _ h0]
    exact ⟨h0, h1, by rw [e2]; exact h2, by rw [e2]; exact hU.symm⟩
  by_cases c2 : sW g ≤ 2
  · have e3 := (h.2.2.1 2 c2).1
    have e4 := (h.2.2.1 3 (by omega)).1
    have eB : B = tot g := by rw [e, show sW g - 2 = 0 from by omega]; rfl
    have hb := mul_b f0 f1
    have et : tot g = sF g 0 * sF g 1 := by show sF g 0 * (sF g 1 * (sF g 2 * sF g 3)) = _; rw [e3, e4, Nat.mul_one]
    exact k 1 (by rw [Nat.one_mul, eB]) (by omega) (by omega) (by omega)
  · by_cases c3 : sW g = 3
    · have e4 := (h.2.2.1 3 (by omega)).1
      have eB : B = sF g 1 * sF g 2 := by rw [e, c3]; show sF g 1 * (sF g 2 * sF g 3) = _; rw [e4, Nat.mul_one]
      have hb := mul_b f1 f2
      refine k (sF g 0) ?_ (by omega) (by omega) (by omega)
      rw [eB]; show sF g 0 * (sF g 1 * (sF g 2 * sF g 3)) = _; rw [e4, Nat.mul_one]
    · have eB : B = lwr g := by rw [e, show sW g - 2 = 2 from by omega]; rfl
      have hb := lwr_b h
      have hu := upp_b h
      exact k (upp g) (by rw [eB]; exact tot_ul g) (by omega) (by omega) hu.2
theorem m_halves {d : Nat} {h : Hp} {g : ShG} {l : LkG} {Q : Po} (ms : MS g l h) (k : ∀ h1, Fq scM h h1 → MHV g (aft g (sW g - 2)) h1 → Q mk_ h1) : wpC (d + 2) true 285 [.ref 130] h Q := by
  have h4w := ms.1.1.1
  obtain ⟨B, hBd⟩ : ∃ B, B = aft g (sW g - 2) := ⟨_, rfl⟩
  rw [← hBd] at k
  have htb := tot_b ms.1.1
  obtain ⟨hB0, hB100, hT, hTB⟩ := half_b ms.1.1 hBd
  refine go_in rfl ?_
  have X22 : ∀ (v : Nat), (v = sW g - 2) → Go (d + 1) true 285 22 [.ref 130, mk_, mk_, mk_] [.int (nI v)] h Q := by
    intro v hv
    refine exf_go 6 (show Go (d + 1) true 285 30 [.ref 130, .int (nI v), .int (nI v), mk_] [] (uI h 130 34 1) Q from ?_)
    have L30 : ∀ (k30 : Nat) (w b : Nat) (h1 : Hp), (sW g - w) < k30 → (v ≤ w) → (w ≤ sW g) → (Fq scM h h1) → (rI h1 130 34 = nI b) → (b * aft g w = B) → Go (d + 1) true 285 30 [.ref 130, .int (nI v), .int (nI w), mk_] [] h1 Q := by
      intro k30
      induction k30 with
      | zero => intro w b h1 hk; exact absurd hk (Nat.not_lt_zero _)
      | succ k30 ih30 =>
        intro w b h1 hk hw1 hw2 q1 hb hb2
        have ms1 := ms_fq ms q1
        have hbb : b ≤ 100 := Nat.le_trans (Nat.le_mul_of_pos_right b (aft_b ms.1.1 (w := w) (by omega)).1) (hb2 ▸ hB100)
        refine exf_go 5 (show vp_in 1 41523 ∧ (Go (d + 1) true 285 37 [.ref 130, .int (nI v), .int (nI w), mk_] [.int (rI h1 131 1), .int (nI w)] h1 Q) from ⟨(vp_in_nI (n := 1) (by decide) (by decide)), ?_⟩)
        rw [show (rI h1 131 1 : Int32) = nI (sW g) from ms_W ms1]
        refine exf_go 1 (show ((nI (sW g)) ≤ (nI w) → Go (d + 1) true 285 64 [.ref 130, .int (nI v), .int (nI w), mk_] [] h1 Q) ∧ (¬ ((nI (sW g)) ≤ (nI w)) → Go (d + 1) true 285 40 [.ref 130, .int (nI v), .int (nI w), mk_] [] h1 Q) from ⟨fun c1 => ?_, fun c1 => ?_⟩)
        · skip
          have c1 : (sW g) ≤ w := (nI_leI (a := (sW g)) (b := w) (by omega) (by omega)).mp c1
          refine exf_go 2 (show Go (d + 1) true 285 66 [.ref 130, .int (nI v), .int 0, mk_] [] h1 Q from ?_)
          have L66 : ∀ (k66 : Nat) (z3 : Value) (a : Nat) (h2 : Hp), (tot g / B - a) < k66 → (a ≤ tot g / B) → (Fq scM h h2) → (rI h2 130 34 = nI B) → (∀ x y, x < a → y < tot g / B → rI h2 145 (100 * x + y) = nI (trn g (x * B) (y * B))) → Go (d + 1) true 285 66 [.ref 130, .int (nI v), .int (nI a), z3] [] h2 Q := by
            intro k66
            induction k66 with
            | zero => intro z3 a h2 hk; exact absurd hk (Nat.not_lt_zero _)
            | succ k66 ih66 =>
              intro z3 a h2 hk ha q2 hB2 hF
              have ms2 := ms_fq ms q2
              refine exf_go 5 (show vp_in 4 41523 ∧ (Go (d + 1) true 285 73 [.ref 130, .int (nI v), .int (nI a), z3] [.int (rI h2 131 4), .int (nI a)] h2 Q) from ⟨(vp_in_nI (n := 4) (by decide) (by decide)), ?_⟩)
              rw [show (rI h2 131 4 : Int32) = nI (tot g) from ms_N ms2]
              refine exf_go 2 (show Go (d + 1) true 285 77 [.ref 130, .int (nI v), .int (nI a), z3] [.int (rI h2 130 34), .int (nI (tot g)), .int (nI a)] h2 Q from ?_)
              rw [show (rI h2 130 34 : Int32) = nI B from hB2]
              refine exf_go 1 (show ¬ (nI B) = 0 ∧ (Go (d + 1) true 285 78 [.ref 130, .int (nI v), .int (nI a), z3] [.int ((nI (tot g)) / (nI B)), .int (nI a)] h2 Q) from ⟨(nI_ne0 (n := B) (by omega) (by omega)), ?_⟩)
              rw [show ((nI (tot g)) / (nI B) : Int32) = nI ((tot g) / B) from pk_div (a := (tot g)) (d := B) (by omega) (by omega) (by omega)]
              refine exf_go 1 (show ((nI ((tot g) / B)) ≤ (nI a) → Go (d + 1) true 285 137 [.ref 130, .int (nI v), .int (nI a), z3] [] h2 Q) ∧ (¬ ((nI ((tot g) / B)) ≤ (nI a)) → Go (d + 1) true 285 81 [.ref 130, .int (nI v), .int (nI a), z3] [] h2 Q) from ⟨fun c2 => ?_, fun c2 => ?_⟩)
              · skip
                have c2 : ((tot g) / B) ≤ a := (nI_leI (a := ((tot g) / B)) (b := a) (by omega) (by omega)).mp c2
                refine exf_go 2 (show Go (d + 1) true 285 139 [.ref 130, .int (nI v), .int 0, z3] [] h2 Q from ?_)
                have L139 : ∀ (k139 : Nat) (z3 : Value) (a : Nat) (h4 : Hp), (B - a) < k139 → (a ≤ B) → (Fq scM h h4) → (rI h4 130 34 = nI B) → (∀ x y, x < tot g / B → y < tot g / B → rI h4 145 (100 * x + y) = nI (trn g (x * B) (y * B))) → (∀ x y, x < a → y < B → rI h4 146 (100 * x + y) = nI (trn g x y)) → Go (d + 1) true 285 139 [.ref 130, .int (nI v), .int (nI a), z3] [] h4 Q := by
                  intro k139
                  induction k139 with
                  | zero => intro z3 a h4 hk; exact absurd hk (Nat.not_lt_zero _)
                  | succ k139 ih139 =>
                    intro z3 a h4 hk ha q4 hB4 hF4 hG
                    have ms4 := ms_fq ms q4
                    refine exf_go 3 (show Go (d + 1) true 285 144 [.ref 130, .int (nI v), .int (nI a), z3] [.int (rI h4 130 34), .int (nI a)] h4 Q from ?_)
                    rw [show (rI h4 130 34 : Int32) = nI B from hB4]
                    refine exf_go 1 (show ((nI B) ≤ (nI a) → Go (d + 1) true 285 186 [.ref 130, .int (nI v), .int (nI a), z3] [] h4 Q) ∧ (¬ ((nI B) ≤ (nI a)) → Go (d + 1) true 285 147 [.ref 130, .int (nI v), .int (nI a), z3] [] h4 Q) from ⟨fun c3 => ?_, fun c3 => ?_⟩)
                    · skip
                      have c3 : B ≤ a := (nI_leI (a := B) (b := a) (by omega) (by omega)).mp c3
                      refine exf_go 1 (show Q (mk_) h4 from ?_)
                      exact k h4 q4 ⟨⟨hB0, hB100, hT, hTB⟩, hB4, hF4, fun x y hx hy => hG x y (by omega) hy⟩
                    · skip
                      have c3 : ¬ B ≤ a := fun q => c3 ((nI_leI (a := B) (b := a) (by omega) (by omega)).mpr q)
                      refine exf_go 2 (show Go (d + 1) true 285 149 [.ref 130, .int (nI v), .int (nI a), .int 0] [] h4 Q from ?_)
                      have L149 : ∀ (k149 : Nat) (c : Nat) (h5 : Hp), (B - c) < k149 → (c ≤ B) → (Fq scM h h5) → (rI h5 130 34 = nI B) → (∀ x y, x < tot g / B → y < tot g / B → rI h5 145 (100 * x + y) = nI (trn g (x * B) (y * B))) → (∀ x y, x < a → y < B → rI h5 146 (100 * x + y) = nI (trn g x y)) → (∀ y, y < c → rI h5 146 (100 * a + y) = nI (trn g a y)) → Go (d + 1) true 285 149 [.ref 130, .int (nI v), .int (nI a), .int (nI c)] [] h5 Q := by
                        intro k149
                        induction k149 with
                        | zero => intro c h5 hk; exact absurd hk (Nat.not_lt_zero _)
                        | succ k149 ih149 =>
                          intro c h5 hk hc q5 hB5 hF5 hG5 hR
                          have ms5 := ms_fq ms q5
                          refine exf_go 3 (show Go (d + 1) true 285 154 [.ref 130, .int (nI v), .int (nI a), .int (nI c)] [.int (rI h5 130 34), .int (nI c)] h5 Q from ?_)
                          rw [show (rI h5 130 34 : Int32) = nI B from hB5]
                          refine exf_go 1 (show ((nI B) ≤ (nI c) → Go (d + 1) true 285 180 [.ref 130, .int (nI v), .int (nI a), .int (nI c)] [] h5 Q) ∧ (¬ ((nI B) ≤ (nI c)) → Go (d + 1) true 285 157 [.ref 130, .int (nI v), .int (nI a), .int (nI c)] [] h5 Q) from ⟨fun c4 => ?_, fun c4 => ?_⟩)
                          · skip
                            have c4 : B ≤ c := (nI_leI (a := B) (b := c) (by omega) (by omega)).mp c4
                            refine exf_go 1 (show Go (d + 1) true 285 183 [.ref 130, .int (nI v), .int ((nI a) + 1), .int (nI c)] [] h5 Q from ?_)
                            rw [show ((nI a) + 1 : Int32) = nI (a + 1) from nI_add a 1]
                            refine exf_go 1 (show Go (d + 1) true 285 139 [.ref 130, .int (nI v), .int (nI (a + 1)), .int (nI c)] [] h5 Q from ?_)
                            exact ih139 (.int (nI c)) (a + 1) h5 (by omega) (by omega) q5 hB5 hF5 (fun x y hx hy => (Decidable.em (x = a)).elim (fun e => by rw [e]; exact hR y (by omega)) (fun e => hG5 x y (by omega) hy))
                          · skip
                            have c4 : ¬ B ≤ c := fun q => c4 ((nI_leI (a := B) (b := c) (by omega) (by omega)).mpr q)
                            refine exf_go 5 (show Go (d + 1) true 285 165 [.ref 130, .int (nI v), .int (nI a), .int (nI c)] [.int (100 * (nI a)), .ref 146] h5 Q from ?_)
                            rw [show (100 * (nI a) : Int32) = nI (100 * a) from pk_mul 100 a]
                            refine exf_go 2 (show Go (d + 1) true 285 167 [.ref 130, .int (nI v), .int (nI a), .int (nI c)] [.int ((nI (100 * a)) + (nI c)), .ref 146] h5 Q from ?_)
                            rw [show ((nI (100 * a)) + (nI c) : Int32) = nI ((100 * a) + c) from nI_add (100 * a) c]
                            refine exf_go 4 (show wpC (d + 1) true 251 [.ref 130, .int (nI a), .int (nI c)] h5 (fun r h' => Go (d + 1) true 285 173 [.ref 130, .int (nI v), .int (nI a), .int (nI c)] [r, .int (nI ((100 * a) + c)), .ref 146] h' Q) from ?_)
                            refine m_turns ms5 (by omega) (by omega) ?_
                            have := trn_b ms.1.1 a c
                            show Go (d + 1) true 285 173 [.ref 130, .int (nI v), .int (nI a), .int (nI c)] [.int (nI (trn g a c)), .int (nI ((100 * a) + c)), .ref 146] h5 Q
                            refine exf_go 2 (show vp_in (nI ((100 * a) + c)) 10000 ∧ (Go (d + 1) true 285 177 [.ref 130, .int (nI v), .int (nI a), .int ((nI c) + 1)] [] (uI h5 146 ((nI ((100 * a) + c)).toNatClampNeg) (nI (trn g a c))) Q) from ⟨(vp_in_nI (by omega) (by omega)), ?_⟩)
                            rw [show ((nI c) + 1 : Int32) = nI (c + 1) from nI_add c 1]
                            refine exf_go 1 (show Go (d + 1) true 285 149 [.ref 130, .int (nI v), .int (nI a), .int (nI (c + 1))] [] (uI h5 146 ((nI ((100 * a) + c)).toNatClampNeg) (nI (trn g a c))) Q from ?_)
                            exact ih149 (c + 1) _ (by omega) (by omega) (q5.uI' _ _ _ rfl) hB5 hF5 (fun x y hx hy => by rw [nI_clamp (by omega), rI_uI_at (by omega)]; exact hG5 x y hx hy) (fun y hy => (Decidable.em (y = c)).elim (fun e => by rw [nI_clamp (by omega), e, rI_uI_eq]) (fun e => by rw [nI_clamp (by omega), rI_uI_at (by omega)]; exact hR y (by omega)))
                      exact L149 (B + 1) 0 h4 (by omega) (by omega) q4 hB4 hF4 hG (fun y hy => absurd hy (Nat.not_lt_zero _))
                exact L139 (B + 1) z3 0 h2 (by omega) (by omega) q2 hB2 (fun x y hx hy => hF x y (by omega) hy) (fun x y hx _ => absurd hx (Nat.not_lt_zero _))
              · skip
                have c2 : ¬ ((tot g) / B) ≤ a := fun q => c2 ((nI_leI (a := ((tot g) / B)) (b := a) (by omega) (by omega)).mpr q)
                refine exf_go 2 (show Go (d + 1) true 285 83 [.ref 130, .int (nI v), .int (nI a), .int 0] [] h2 Q from ?_)
                have L83 : ∀ (k83 : Nat) (c : Nat) (h3 : Hp), (tot g / B - c) < k83 → (c ≤ tot g / B) → (Fq scM h h3) → (rI h3 130 34 = nI B) → (∀ x y, x < a → y < tot g / B → rI h3 145 (100 * x + y) = nI (trn g (x * B) (y * B))) → (∀ y, y < c → rI h3 145 (100 * a + y) = nI (trn g (a * B) (y * B))) → Go (d + 1) true 285 83 [.ref 130, .int (nI v), .int (nI a), .int (nI c)] [] h3 Q := by
                  intro k83
                  induction k83 with
                  | zero => intro c h3 hk; exact absurd hk (Nat.not_lt_zero _)
                  | succ k83 ih83 =>
                    intro c h3 hk hc q3 hB3 hF3 hR
                    have ms3 := ms_fq ms q3
                    have haB : a * B ≤ 10000 := Nat.mul_le_mul (show a ≤ 100 from by omega) hB100
                    have hcB : c * B ≤ 10000 := Nat.mul_le_mul (show c ≤ 100 from by omega) hB100
                    refine exf_go 5 (show vp_in 4 41523 ∧ (Go (d + 1) true 285 90 [.ref 130, .int (nI v), .int (nI a), .int (nI c)] [.int (rI h3 131 4), .int (nI c)] h3 Q) from ⟨(vp_in_nI (n := 4) (by decide) (by decide)), ?_⟩)
                    rw [show (rI h3 131 4 : Int32) = nI (tot g) from ms_N ms3]
                    refine exf_go 2 (show Go (d + 1) true 285 94 [.ref 130, .int (nI v), .int (nI a), .int (nI c)] [.int (rI h3 130 34), .int (nI (tot g)), .int (nI c)] h3 Q from ?_)
                    rw [show (rI h3 130 34 : Int32) = nI B from hB3]
                    refine exf_go 1 (show ¬ (nI B) = 0 ∧ (Go (d + 1) true 285 95 [.ref 130, .int (nI v), .int (nI a), .int (nI c)] [.int ((nI (tot g)) / (nI B)), .int (nI c)] h3 Q) from ⟨(nI_ne0 (n := B) (by omega) (by omega)), ?_⟩)
                    rw [show ((nI (tot g)) / (nI B) : Int32) = nI ((tot g) / B) from pk_div (a := (tot g)) (d := B) (by omega) (by omega) (by omega)]
                    refine exf_go 1 (show ((nI ((tot g) / B)) ≤ (nI c) → Go (d + 1) true 285 131 [.ref 130, .int (nI v), .int (nI a), .int (nI c)] [] h3 Q) ∧ (¬ ((nI ((tot g) / B)) ≤ (nI c)) → Go (d + 1) true 285 98 [.ref 130, .int (nI v), .int (nI a), .int (nI c)] [] h3 Q) from ⟨fun c5 => ?_, fun c5 => ?_⟩)
                    · skip
                      have c5 : ((tot g) / B) ≤ c := (nI_leI (a := ((tot g) / B)) (b := c) (by omega) (by omega)).mp c5
                      refine exf_go 1 (show Go (d + 1) true 285 134 [.ref 130, .int (nI v), .int ((nI a) + 1), .int (nI c)] [] h3 Q from ?_)
                      rw [show ((nI a) + 1 : Int32) = nI (a + 1) from nI_add a 1]
                      refine exf_go 1 (show Go (d + 1) true 285 66 [.ref 130, .int (nI v), .int (nI (a + 1)), .int (nI c)] [] h3 Q from ?_)
                      exact ih66 (.int (nI c)) (a + 1) h3 (by omega) (by omega) q3 hB3 (fun x y hx hy => (Decidable.em (x = a)).elim (fun e => by rw [e]; exact hR y (by omega)) (fun e => hF3 x y (by omega) hy))
                    · skip
                      have c5 : ¬ ((tot g) / B) ≤ c := fun q => c5 ((nI_leI (a := ((tot g) / B)) (b := c) (by omega) (by omega)).mpr q)
                      refine exf_go 5 (show Go (d + 1) true 285 106 [.ref 130, .int (nI v), .int (nI a), .int (nI c)] [.int (100 * (nI a)), .ref 145] h3 Q from ?_)
                      rw [show (100 * (nI a) : Int32) = nI (100 * a) from pk_mul 100 a]
                      refine exf_go 2 (show Go (d + 1) true 285 108 [.ref 130, .int (nI v), .int (nI a), .int (nI c)] [.int ((nI (100 * a)) + (nI c)), .ref 145] h3 Q from ?_)
                      rw [show ((nI (100 * a)) + (nI c) : Int32) = nI ((100 * a) + c) from nI_add (100 * a) c]
                      refine exf_go 4 (show Go (d + 1) true 285 114 [.ref 130, .int (nI v), .int (nI a), .int (nI c)] [.int (rI h3 130 34), .int (nI a), .ref 130, .int (nI ((100 * a) + c)), .ref 145] h3 Q from ?_)
                      rw [show (rI h3 130 34 : Int32) = nI B from hB3]
                      refine exf_go 1 (show Go (d + 1) true 285 115 [.ref 130, .int (nI v), .int (nI a), .int (nI c)] [.int ((nI a) * (nI B)), .ref 130, .int (nI ((100 * a) + c)), .ref 145] h3 Q from ?_)
                      rw [show ((nI a) * (nI B) : Int32) = nI (a * B) from pk_mul a B]
                      refine exf_go 3 (show Go (d + 1) true 285 120 [.ref 130, .int (nI v), .int (nI a), .int (nI c)] [.int (rI h3 130 34), .int (nI c), .int (nI (a * B)), .ref 130, .int (nI ((100 * a) + c)), .ref 145] h3 Q from ?_)
                      rw [show (rI h3 130 34 : Int32) = nI B from hB3]
                      refine exf_go 1 (show Go (d + 1) true 285 121 [.ref 130, .int (nI v), .int (nI a), .int (nI c)] [.int ((nI c) * (nI B)), .int (nI (a * B)), .ref 130, .int (nI ((100 * a) + c)), .ref 145] h3 Q from ?_)
                      rw [show ((nI c) * (nI B) : Int32) = nI (c * B) from pk_mul c B]
                      refine exf_go 1 (show wpC (d + 1) true 251 [.ref 130, .int (nI (a * B)), .int (nI (c * B))] h3 (fun r h' => Go (d + 1) true 285 124 [.ref 130, .int (nI v), .int (nI a), .int (nI c)] [r, .int (nI ((100 * a) + c)), .ref 145] h' Q) from ?_)
                      refine m_turns ms3 (by omega) (by omega) ?_
                      have := trn_b ms.1.1 (a * B) (c * B)
                      show Go (d + 1) true 285 124 [.ref 130, .int (nI v), .int (nI a), .int (nI c)] [.int (nI (trn g (a * B) (c * B))), .int (nI ((100 * a) + c)), .ref 145] h3 Q
                      refine exf_go 2 (show vp_in (nI ((100 * a) + c)) 10000 ∧ (Go (d + 1) true 285 128 [.ref 130, .int (nI v), .int (nI a), .int ((nI c) + 1)] [] (uI h3 145 ((nI ((100 * a) + c)).toNatClampNeg) (nI (trn g (a * B) (c * B)))) Q) from ⟨(vp_in_nI (by omega) (by omega)), ?_⟩)
                      rw [show ((nI c) + 1 : Int32) = nI (c + 1) from nI_add c 1]
                      refine exf_go 1 (show Go (d + 1) true 285 83 [.ref 130, .int (nI v), .int (nI a), .int (nI (c + 1))] [] (uI h3 145 ((nI ((100 * a) + c)).toNatClampNeg) (nI (trn g (a * B) (c * B)))) Q from ?_)
                      exact ih83 (c + 1) _ (by omega) (by omega) (q3.uI' _ _ _ rfl) hB3 (fun x y hx hy => by rw [nI_clamp (by omega), rI_uI_at (by omega)]; exact hF3 x y hx hy) (fun y hy => (Decidable.em (y = c)).elim (fun e => by rw [nI_clamp (by omega), e, rI_uI_eq]) (fun e => by rw [nI_clamp (by omega), rI_uI_at (by omega)]; exact hR y (by omega)))
                exact L83 (tot g / B + 1) 0 h2 (by omega) (by omega) q2 hB2 hF (fun y hy => absurd hy (Nat.not_lt_zero _))
          exact L66 (tot g / B + 1) mk_ 0 h1 (Nat.lt_succ_of_le (Nat.sub_le _ _)) (Nat.zero_le _) q1 (by rw [hb, ← hb2, show w = sW g from by omega, aft_W ms.1.1, Nat.mul_one]) (fun x y hx _ => absurd hx (Nat.not_lt_zero _))
        · skip
          have c1 : ¬ (sW g) ≤ w := fun q => c1 ((nI_leI (a := (sW g)) (b := w) (by omega) (by omega)).mpr q)
          refine exf_go 3 (show Go (d + 1) true 285 45 [.ref 130, .int (nI v), .int (nI w), mk_] [.int (rI h1 130 34), .ref 130] h1 Q from ?_)
          rw [show (rI h1 130 34 : Int32) = nI b from hb]
          refine exf_go 5 (show Go (d + 1) true 285 53 [.ref 130, .int (nI v), .int (nI w), mk_] [.int (10 + (nI w)), .ref 131, .int (nI b), .ref 130] h1 Q from ?_)
          rw [show (10 + (nI w) : Int32) = nI (10 + w) from nI_add 10 w]
          refine exf_go 1 (show vp_in (nI (10 + w)) 41523 ∧ (Go (d + 1) true 285 54 [.ref 130, .int (nI v), .int (nI w), mk_] [.int (rI h1 131 ((nI (10 + w)).toNatClampNeg)), .int (nI b), .ref 130] h1 Q) from ⟨(vp_in_nI (by omega) (by omega)), ?_⟩)
          rw [show (rI h1 131 ((nI (10 + w)).toNatClampNeg) : Int32) = nI (sF g w) from ms_F ms1 (n := w) (by omega)]
          have := sF_b ms1.1.1 w
          refine exf_go 1 (show Go (d + 1) true 285 55 [.ref 130, .int (nI v), .int (nI w), mk_] [.int ((nI b) * (nI (sF g w))), .ref 130] h1 Q from ?_)
          rw [show ((nI b) * (nI (sF g w)) : Int32) = nI (b * (sF g w)) from pk_mul b (sF g w)]
          refine exf_go 2 (show Go (d + 1) true 285 61 [.ref 130, .int (nI v), .int ((nI w) + 1), mk_] [] (uI h1 130 34 (nI (b * (sF g w)))) Q from ?_)
          rw [show ((nI w) + 1 : Int32) = nI (w + 1) from nI_add w 1]
          refine exf_go 1 (show Go (d + 1) true 285 30 [.ref 130, .int (nI v), .int (nI (w + 1)), mk_] [] (uI h1 130 34 (nI (b * (sF g w)))) Q from ?_)
          exact ih30 (w + 1) _ _ (by omega) (by omega) (by omega) (q1.uI' _ _ _ rfl) rfl (by rw [Nat.mul_assoc, ← aft_s g (by omega)]; exact hb2)
    exact L30 (sW g + 1) v 1 _ (by omega) (by omega) (by omega) (Fq.rfl'.uI' _ _ _ rfl) rfl (by rw [Nat.one_mul, hBd, hv])
  refine exf_go 4 (show vp_in 1 41523 ∧ (Go (d + 1) true 285 6 [.ref 130, mk_, mk_, mk_] [.int (rI h 131 1)] h Q) from ⟨(vp_in_nI (n := 1) (by decide) (by decide)), ?_⟩)
  rw [show (rI h 131 1 : Int32) = nI (sW g) from ms_W ms]
  refine exf_go 2 (show ((nI (sW g)) ≤ 2 → Go (d + 1) true 285 21 [.ref 130, mk_, mk_, mk_] [] h Q) ∧ (¬ ((nI (sW g)) ≤ 2) → Go (d + 1) true 285 10 [.ref 130, mk_, mk_, mk_] [] h Q) from ⟨fun c6 => ?_, fun c6 => ?_⟩)
  · skip
    have c6 : (sW g) ≤ 2 := (nI_leI (a := (sW g)) (b := 2) (by omega) (by omega)).mp c6
    refine exf_go 1 (show Go (d + 1) true 285 22 [.ref 130, mk_, mk_, mk_] [.int 0] h Q from ?_)
    exact X22 0 (by omega)
  · skip
    have c6 : ¬ (sW g) ≤ 2 := fun q => c6 ((nI_leI (a := (sW g)) (b := 2) (by omega) (by omega)).mpr q)
    refine exf_go 4 (show vp_in 1 41523 ∧ (Go (d + 1) true 285 16 [.ref 130, mk_, mk_, mk_] [.int (rI h 131 1)] h Q) from ⟨(vp_in_nI (n := 1) (by decide) (by decide)), ?_⟩)
    rw [show (rI h 131 1 : Int32) = nI (sW g) from ms_W ms]
    refine exf_go 2 (show Go (d + 1) true 285 18 [.ref 130, mk_, mk_, mk_] [.int ((nI (sW g)) - 2)] h Q from ?_)
    rw [show ((nI (sW g)) - 2 : Int32) = nI ((sW g) - 2) from pk_sub (a := (sW g)) (b := 2) (by omega)]
    refine exf_go 1 (show Go (d + 1) true 285 22 [.ref 130, mk_, mk_, mk_] [.int (nI ((sW g) - 2))] h Q from ?_)
    exact X22 ((sW g) - 2) (by omega)
