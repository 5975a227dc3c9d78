/-! The model: which clues hold for which numbers. -/
/-- codes of clues: from where to where -/
abbrev CdG : Type := (Nat → Nat) × (Nat → Nat) × (Nat → Nat) × Nat
/-- the codes, their beginnings and ends, how many -/
def tvd (g : ShG) (q : CdG) (nn c : Nat) : Bool := decide (evl (wvI (sW g) (fgo g nn) nn) q.1 (q.2.2.1 c - q.2.1 c) (q.2.1 c) [] = [1])
def msk (f : Nat → Bool) : Nat → Nat
  | 0 => 0
  | c + 1 => msk f c ||| (if f c = true then 2 ^ c else 0)
def hlds (g : ShG) (q : CdG) (nn : Nat) : Nat := msk (tvd g q nn) (sC g)
theorem msk_b (f : Nat → Bool) : ∀ c, msk f c < 2 ^ c
  | 0 => by rw [msk]; decide
  | c + 1 => by
    rw [msk]
    have h1 := msk_b f c
    refine Nat.or_lt_two_pow (by rw [Nat.pow_succ]; omega) ?_
    split
    · rw [Nat.pow_succ]; have := Nat.two_pow_pos c; omega
    · exact Nat.two_pow_pos _
theorem msk_8 (f : Nat → Bool) {c : Nat} (h : c ≤ 8) : msk f c < 256 := Nat.lt_of_lt_of_le (msk_b f c) (Nat.pow_le_pow_right (by decide) h)
/-- the shed and its codes are such as can be read -/
def CdW (g : ShG) (q : CdG) : Prop := q.2.2.2 ≤ 900 ∧ ∀ c, c < sC g → q.2.2.1 c ≤ q.2.2.2 ∧ Sg (sW g) q.1 (q.2.1 c) (q.2.2.1 c) true 18
/-- the model's row `fresh` while holds are laid -/
def MF (g : ShG) (q : CdG) (h : Hp) : Prop := (ShW g ∧ CdW g q) ∧ (rI h 134 1 = nI (sW g) ∧ rI h 134 2 = nI (sC g) ∧ rI h 134 4 = nI (tot g)) ∧ (∀ w, w < sW g → rI h 134 (10 + w) = nI (sF g w)) ∧ (∀ c, c < sC g → rI h 134 (30 + c) = nI (q.2.1 c) ∧ rI h 134 (38 + c) = nI (q.2.2.1 c - q.2.1 c)) ∧ ∀ j, j < q.2.2.2 → rI h 134 (2941 + j) = nI (q.1 j)
def sLh (a i : Nat) : Bool := Nat.beq a 135 || Nat.beq a 136 || (Nat.beq a 134 && Nat.ble 3841 i)
theorem sLh_c {j : Nat} : sLh 134 (3841 + j) = true := by
  unfold sLh
  rw [show Nat.beq 134 134 = true from rfl, Bool.true_and, show Nat.ble 3841 (3841 + j) = true from Nat.ble_eq_true_of_le (by omega), Bool.or_true]
theorem sLh_n {i : Nat} (h : i < 3841) : sLh 134 i = false := by
  unfold sLh
  rw [show Nat.beq 134 135 = false from rfl, show Nat.beq 134 136 = false from rfl, show Nat.beq 134 134 = true from rfl, Bool.true_and, Bool.false_or, Bool.false_or, Bool.eq_false_iff]
  intro z
  have := Nat.le_of_ble_eq_true z
  omega
theorem mf_fq {g : ShG} {q : CdG} {h h1 : Hp} (mf : MF g q h) (r : Fq sLh h h1) : MF g q h1 := by
  have h4 := mf.1.1.1
  have h8 := mf.1.1.2.2.2.1
  have h9 := mf.1.2.1
  exact ⟨mf.1, ⟨(r.1 134 1 rfl).1.trans mf.2.1.1, (r.1 134 2 rfl).1.trans mf.2.1.2.1, (r.1 134 4 rfl).1.trans mf.2.1.2.2⟩, fun w hw => (r.1 134 _ (sLh_n (by omega))).1.trans (mf.2.2.1 w hw), fun c hc => ⟨(r.1 134 _ (sLh_n (by omega))).1.trans (mf.2.2.2.1 c hc).1, (r.1 134 _ (sLh_n (by omega))).1.trans (mf.2.2.2.1 c hc).2⟩, fun j hj => (r.1 134 _ (sLh_n (by omega))).1.trans (mf.2.2.2.2 j hj)⟩
def s135 (a _ : Nat) : Bool := Nat.beq a 135
theorem m_laysFig {d : Nat} {h : Hp} {g : ShG} {q : CdG} {nn : Nat} {Q : Po} (mf : MF g q h) (hnn : nn < 2 ^ 31) (k : ∀ h1, Fq s135 h h1 → FG (fgo g nn) (sW g) h1 → Q mk_ h1) : wpC (d + 1) true 210 [.ref 130, .ref 134, .int (nI nn)] h Q := by
  have h4 := mf.1.1.1
  refine go_in rfl ?_
  refine exf_go 5 (show vp_in 1 13841 ∧ (Go d true 210 5 [.ref 130, .ref 134, .int (nI nn), .int (nI nn), mk_] [.int (rI h 134 1)] h Q) from ⟨(vp_in_nI (n := 1) (by decide) (by decide)), ?_⟩)
  rw [show (rI h 134 1 : Int32) = nI (sW g) from mf.2.1.1]
  refine exf_go 3 (show Go d true 210 9 [.ref 130, .ref 134, .int (nI nn), .int (nI nn), .int ((nI (sW g)) - 1)] [] h Q from ?_)
  have L9 : ∀ (k9 : Nat) (u m : Nat) (hL : Hp), u < k9 → (u ≤ sW g) → (m = nn / aft g u) → (Fq s135 h hL) → (∀ w, u ≤ w → w < sW g → rI hL 135 w = nI (fgo g nn w)) → Go d true 210 9 [.ref 130, .ref 134, .int (nI nn), .int (nI m), .int ((nI u) - 1)] [] hL Q := by
    intro k9
    induction k9 with
    | zero => intro u m hL hk; exact absurd hk (Nat.not_lt_zero _)
    | succ k9 ih9 =>
      intro u m hL hk hu hm qL hfl
      have hmb : m ≤ nn := by rw [hm]; exact Nat.div_le_self _ _
      have mfL : MF g q hL := mf_fq mf (qL.mono (fun a i e => by unfold sLh at e; unfold s135; cases hz : Nat.beq a 135 <;> simp_all))
      rcases u with _ | u
      · skip
        rw [show nI 0 - 1 = (-1 : Int32) from by decide]
        show Go d true 210 9 [.ref 130, .ref 134, .int (nI nn), .int (nI m), .int (-1)] [] hL Q
        refine exf_go 2 (show (((-1) : Int32) < 0 → Go d true 210 46 [.ref 130, .ref 134, .int (nI nn), .int (nI m), .int (-1)] [] hL Q) ∧ (¬ (((-1) : Int32) < 0) → Go d true 210 14 [.ref 130, .ref 134, .int (nI nn), .int (nI m), .int (-1)] [] hL Q) from ⟨fun c1 => ?_, fun c1 => ?_⟩)
        · skip
          refine exf_go 1 (show Q (mk_) hL from ?_)
          exact k _ qL ⟨⟨mf.1.1.1, fun w => by have := fgo_lt mf.1.1 nn w; have := sF_b mf.1.1 w; omega⟩, mfL.2.1.1, fun w hw => hfl w (Nat.zero_le _) hw⟩
        · skip
          exact absurd (by decide) c1
      · skip
        rw [nI_pred]
        show Go d true 210 9 [.ref 130, .ref 134, .int (nI nn), .int (nI m), .int (nI u)] [] hL Q
        refine exf_go 2 (show ((nI u) < 0 → Go d true 210 46 [.ref 130, .ref 134, .int (nI nn), .int (nI m), .int (nI u)] [] hL Q) ∧ (¬ ((nI u) < 0) → Go d true 210 14 [.ref 130, .ref 134, .int (nI nn), .int (nI m), .int (nI u)] [] hL Q) from ⟨fun c2 => ?_, fun c2 => ?_⟩)
        · skip
          have c2 : u < 0 := (nI_ltI (a := u) (b := 0) (by omega) (by omega)).mp c2
          exfalso; omega
        · skip
          have c2 : ¬ u < 0 := fun q => c2 ((nI_ltI (a := u) (b := 0) (by omega) (by omega)).mpr q)
          refine exf_go 8 (show Go d true 210 27 [.ref 130, .ref 134, .int (nI nn), .int (nI m), .int (nI u)] [.int (10 + (nI u)), .ref 134, .int (nI m), .int (nI u), .ref 135] hL Q from ?_)
          rw [show (10 + (nI u) : Int32) = nI (10 + u) from nI_add 10 u]
          refine exf_go 1 (show vp_in (nI (10 + u)) 13841 ∧ (Go d true 210 28 [.ref 130, .ref 134, .int (nI nn), .int (nI m), .int (nI u)] [.int (rI hL 134 ((nI (10 + u)).toNatClampNeg)), .int (nI m), .int (nI u), .ref 135] hL Q) from ⟨(vp_in_nI (by omega) (by omega)), ?_⟩)
          rw [show (rI hL 134 ((nI (10 + u)).toNatClampNeg) : Int32) = nI (sF g u) from by rw [nI_clamp (by omega)]; exact mfL.2.2.1 _ (by omega)]
          have hfb := sF_b mf.1.1 u
          refine exf_go 1 (show ¬ (nI (sF g u)) = 0 ∧ (Go d true 210 29 [.ref 130, .ref 134, .int (nI nn), .int (nI m), .int (nI u)] [.int ((nI m) - (nI m) / (nI (sF g u)) * (nI (sF g u))), .int (nI u), .ref 135] hL Q) from ⟨(nI_ne0 (n := (sF g u)) (by omega) (by omega)), ?_⟩)
          rw [show ((nI m) - (nI m) / (nI (sF g u)) * (nI (sF g u)) : Int32) = nI (m % (sF g u)) from pk_rem (a := m) (d := (sF g u)) (by omega) (by omega) (by omega)]
          refine exf_go 6 (show vp_in (nI u) 4 ∧ (Go d true 210 37 [.ref 130, .ref 134, .int (nI nn), .int (nI m), .int (nI u)] [.int (10 + (nI u)), .ref 134, .int (nI m)] (uI hL 135 ((nI u).toNatClampNeg) (nI (m % (sF g u)))) Q) from ⟨(vp_in_nI (by omega) (by omega)), ?_⟩)
          rw [show (10 + (nI u) : Int32) = nI (10 + u) from nI_add 10 u]
          refine exf_go 1 (show vp_in (nI (10 + u)) 13841 ∧ (Go d true 210 38 [.ref 130, .ref 134, .int (nI nn), .int (nI m), .int (nI u)] [.int (rI hL 134 ((nI (10 + u)).toNatClampNeg)), .int (nI m)] (uI hL 135 ((nI u).toNatClampNeg) (nI (m % (sF g u)))) Q) from ⟨(vp_in_nI (by omega) (by omega)), ?_⟩)
          rw [show (rI hL 134 ((nI (10 + u)).toNatClampNeg) : Int32) = nI (sF g u) from by rw [nI_clamp (by omega)]; exact mfL.2.2.1 _ (by omega)]
          have hfb := sF_b mf.1.1 u
          refine exf_go 1 (show ¬ (nI (sF g u)) = 0 ∧ (Go d true 210 39 [.ref 130, .ref 134, .int (nI nn), .int (nI m), .int (nI u)] [.int ((nI m) / (nI (sF g u)))] (uI hL 135 ((nI u).toNatClampNeg) (nI (m % (sF g u)))) Q) from ⟨(nI_ne0 (n := (sF g u)) (by omega) (by omega)), ?_⟩)
          rw [show ((nI m) / (nI (sF g u)) : Int32) = nI (m / (sF g u)) from pk_div (a := m) (d := (sF g u)) (by omega) (by omega) (by omega)]
          refine exf_go 2 (show Go d true 210 43 [.ref 130, .ref 134, .int (nI nn), .int (nI (m / (sF g u))), .int ((nI u) + (-1))] [] (uI hL 135 ((nI u).toNatClampNeg) (nI (m % (sF g u)))) Q from ?_)
          rw [show ((nI u) + (-1) : Int32) = (nI u) - 1 from by show _ = nI u - 1; exact (Int32.sub_eq_add_neg _ _).symm]
          refine exf_go 1 (show Go d true 210 9 [.ref 130, .ref 134, .int (nI nn), .int (nI (m / (sF g u))), .int ((nI u) - 1)] [] (uI hL 135 ((nI u).toNatClampNeg) (nI (m % (sF g u)))) Q from ?_)
          rw [show (nI u).toNatClampNeg = u from nI_clamp (by omega)]
          have hm2 : m / sF g u = nn / aft g u := by rw [hm, Nat.div_div_eq_div_mul, Nat.mul_comm, ← aft_s g (by omega)]
          have hf2 : ∀ w, u ≤ w → w < sW g → rI (uI hL 135 u (nI (m % sF g u))) 135 w = nI (fgo g nn w) := by
            intro w h1 h2
            rcases Nat.eq_or_lt_of_le h1 with e | e
            · subst e; rw [rI_uI_eq]; unfold fgo; rw [hm]; rfl
            · rw [rI_uI_at (by omega)]; exact hfl w (by omega) h2
          exact ih9 u (m / sF g u) _ (by omega) (by omega) hm2 (qL.uI' _ _ _ rfl) hf2
  exact L9 ((sW g) + 1) (sW g) nn _ (by omega) (by omega) (by rw [aft_W mf.1.1, Nat.div_one]) Fq.rfl' (fun w h1 h2 => absurd h1 (by omega))
theorem s136_L (a i : Nat) (e : sLh a i = false) : s136 a i = false := by
  unfold sLh at e; unfold s136; cases hz : Nat.beq a 136 <;> simp_all
theorem s135_L (a i : Nat) (e : sLh a i = false) : s135 a i = false := by
  unfold sLh at e; unfold s135; cases hz : Nat.beq a 135 <;> simp_all
/-- how the clue c comes out -/
theorem clue_rok {g : ShG} {q : CdG} {nn c : Nat} (hc : c < sC g) (cw : CdW g q) : rok (sW g) (wvI (sW g) (fgo g nn) nn) q.1 18 (fun l => (∃ v, l = [v] ∧ b01 v) ∧ l = evl (wvI (sW g) (fgo g nn) nn) q.1 (q.2.2.1 c - q.2.1 c) (q.2.1 c) []) (q.2.2.1 c - q.2.1 c) (q.2.1 c) [] := by
  have h := (cw.2 c hc).2
  exact rok_evl _ _ _ (h.2 _ 18 [] (fun l => ∃ v, l = [v] ∧ b01 v) (by decide) (fun v hv => ⟨v, rfl, hv rfl⟩))
theorem m_laysHolds {d : Nat} {h : Hp} {g : ShG} {q : CdG} {Q : Po} (mf : MF g q h) (k : ∀ h1, Fq sLh h h1 → (∀ j, j < tot g → rI h1 134 (3841 + j) = nI (hlds g q j)) → Q mk_ h1) : wpC (d + 3) true 214 [.ref 130] h Q := by
  have h4 := mf.1.1.1; have hC8 := mf.1.1.2.2.2.1; have h9 := mf.1.2.1; have hN := tot_b mf.1.1
  refine go_in rfl ?_
  refine exf_go 2 (show Go (d + 2) true 214 2 [.ref 130, .int 0, mk_] [] h Q from ?_)
  have L2 : ∀ (k2 : Nat) (z2 : Value) (nn : Nat) (hL : Hp), (tot g - nn) < k2 → (nn ≤ tot g) → (Fq sLh h hL) → (∀ j, j < nn → rI hL 134 (3841 + j) = nI (hlds g q j)) → Go (d + 2) true 214 2 [.ref 130, .int (nI nn), z2] [] hL Q := by
    intro k2
    induction k2 with
    | zero => intro z2 nn hL hk; exact absurd hk (Nat.not_lt_zero _)
    | succ k2 ih2 =>
      intro z2 nn hL hk hnn qL hdn
      have mfL := mf_fq mf qL
      refine exf_go 5 (show vp_in 4 13841 ∧ (Go (d + 2) true 214 9 [.ref 130, .int (nI nn), z2] [.int (rI hL 134 4), .int (nI nn)] hL Q) from ⟨(vp_in_nI (n := 4) (by decide) (by decide)), ?_⟩)
      rw [show (rI hL 134 4 : Int32) = nI (tot g) from mfL.2.1.2.2]
      refine exf_go 1 (show ((nI (tot g)) ≤ (nI nn) → Go (d + 2) true 214 85 [.ref 130, .int (nI nn), z2] [] hL Q) ∧ (¬ ((nI (tot g)) ≤ (nI nn)) → Go (d + 2) true 214 12 [.ref 130, .int (nI nn), z2] [] hL Q) from ⟨fun c1 => ?_, fun c1 => ?_⟩)
      · skip
        have c1 : (tot g) ≤ nn := (nI_leI (a := (tot g)) (b := nn) (by omega) (by omega)).mp c1
        refine exf_go 1 (show Q (mk_) hL from ?_)
        exact k _ qL (fun j hj => hdn j (by omega))
      · skip
        have c1 : ¬ (tot g) ≤ nn := fun q => c1 ((nI_leI (a := (tot g)) (b := nn) (by omega) (by omega)).mpr q)
        refine exf_go 5 (show wpC (d + 2) true 210 [.ref 130, .ref 134, .int (nI nn)] hL (fun _ h' => Go (d + 2) true 214 21 [.ref 130, .int (nI nn), z2] [] h' Q) from ?_)
        refine m_laysFig (nn := nn) mfL (by omega) (fun h1 q1 fg1 => ?_)
        have r1 := qL.tr (q1.mono s135_L); have mf1 := mf_fq mf r1
        have hd1 : ∀ j, j < nn → rI h1 134 (3841 + j) = nI (hlds g q j) := fun j hj => (q1.1 134 _ rfl).1.trans (hdn j hj)
        show Go (d + 2) true 214 21 [.ref 130, .int (nI nn), z2] [] h1 Q
        refine exf_go 5 (show Go (d + 2) true 214 30 [.ref 130, .int (nI nn), z2] [.int (3841 + (nI nn)), .ref 134] h1 Q from ?_)
        rw [show (3841 + (nI nn) : Int32) = nI (3841 + nn) from nI_add 3841 nn]
        refine exf_go 4 (show vp_in (nI (3841 + nn)) 13841 ∧ (Go (d + 2) true 214 34 [.ref 130, .int (nI nn), .int 0] [] (uI h1 134 ((nI (3841 + nn)).toNatClampNeg) 0) Q) from ⟨(vp_in_nI (by omega) (by omega)), ?_⟩)
        have L34 : ∀ (k34 : Nat) (c : Nat) (hC : Hp), (sC g - c) < k34 → (c ≤ sC g) → (Fq sLh h hC) → (FG (fgo g nn) (sW g) hC) → (rI hC 134 (3841 + nn) = nI (msk (tvd g q nn) c)) → (∀ j, j < nn → rI hC 134 (3841 + j) = nI (hlds g q j)) → Go (d + 2) true 214 34 [.ref 130, .int (nI nn), .int (nI c)] [] hC Q := by
          intro k34
          induction k34 with
          | zero => intro c hC hk; exact absurd hk (Nat.not_lt_zero _)
          | succ k34 ih34 =>
            intro c hC hk hc qC fgC hcur hdC
            have mfC := mf_fq mf qC
            have hmb := msk_8 (tvd g q nn) (c := c) (by omega)
            refine exf_go 5 (show vp_in 2 13841 ∧ (Go (d + 2) true 214 41 [.ref 130, .int (nI nn), .int (nI c)] [.int (rI hC 134 2), .int (nI c)] hC Q) from ⟨(vp_in_nI (n := 2) (by decide) (by decide)), ?_⟩)
            rw [show (rI hC 134 2 : Int32) = nI (sC g) from mfC.2.1.2.1]
            have hC8 := mf.1.1.2.2.2.1
            refine exf_go 1 (show ((nI (sC g)) ≤ (nI c) → Go (d + 2) true 214 79 [.ref 130, .int (nI nn), .int (nI c)] [] hC Q) ∧ (¬ ((nI (sC g)) ≤ (nI c)) → Go (d + 2) true 214 44 [.ref 130, .int (nI nn), .int (nI c)] [] hC Q) from ⟨fun c2 => ?_, fun c2 => ?_⟩)
            · skip
              have c2 : (sC g) ≤ c := (nI_leI (a := (sC g)) (b := c) (by omega) (by omega)).mp c2
              refine exf_go 1 (show Go (d + 2) true 214 82 [.ref 130, .int ((nI nn) + 1), .int (nI c)] [] hC Q from ?_)
              rw [show ((nI nn) + 1 : Int32) = nI (nn + 1) from nI_add nn 1]
              refine exf_go 1 (show Go (d + 2) true 214 2 [.ref 130, .int (nI (nn + 1)), .int (nI c)] [] hC Q from ?_)
              have hdf : ∀ j, j < nn + 1 → rI hC 134 (3841 + j) = nI (hlds g q j) := by
                intro j hj
                rcases Nat.lt_or_ge j nn with z | z
                · exact hdC j z
                · rw [show j = nn from by omega, hcur]; unfold hlds; rw [show c = sC g from by omega]
              exact ih2 (.int (nI c)) (nn + 1) hC (by omega) (by omega) qC hdf
            · skip
              have c2 : ¬ (sC g) ≤ c := fun q => c2 ((nI_leI (a := (sC g)) (b := c) (by omega) (by omega)).mpr q)
              refine exf_go 5 (show Go (d + 2) true 214 53 [.ref 130, .int (nI nn), .int (nI c)] [.int (3841 + (nI nn)), .ref 134] hC Q from ?_)
              rw [show (3841 + (nI nn) : Int32) = nI (3841 + nn) from nI_add 3841 nn]
              refine exf_go 2 (show vp_in (nI (3841 + nn)) 13841 ∧ (Go (d + 2) true 214 55 [.ref 130, .int (nI nn), .int (nI c)] [.int (rI hC 134 ((nI (3841 + nn)).toNatClampNeg)), .int (nI (3841 + nn)), .ref 134] hC Q) from ⟨(vp_in_nI (by omega) (by omega)), ?_⟩)
              rw [show (rI hC 134 ((nI (3841 + nn)).toNatClampNeg) : Int32) = nI (msk (tvd g q nn) c) from by rw [nI_clamp (by omega)]; exact hcur]
              refine exf_go 4 (show wpC (d + 2) true 213 [.ref 130, .int (nI c), .int (nI nn)] hC (fun r h' => Go (d + 2) true 214 61 [.ref 130, .int (nI nn), .int (nI c)] [r, .int (nI (msk (tvd g q nn) c)), .int (nI (3841 + nn)), .ref 134] h' Q) from ?_)
              have hcs := mfC.2.2.2.1 c (by omega); have hcw := mf.1.2.2 c (by omega); have hcl := hcw.2.1
              refine m_holdsFor (f := fgo g nn) (code := q.1) (a := q.2.1 c) (m := q.2.2.1 c - q.2.1 c) fgC (by omega) (by omega) hcs.1 hcs.2 (by omega) (fun j hj => mfC.2.2.2.2 j (by omega)) (clue_rok (by omega) mf.1.2) (fun l hl => hl.1) (fun hp h2 q2 => ?_) (fun hp h2 q2 => ?_)
              · skip
                have htv : tvd g q nn c = true := decide_eq_true hp.2.symm
                show Go (d + 2) true 214 61 [.ref 130, .int (nI nn), .int (nI c)] [.int 1, .int (nI (msk (tvd g q nn) c)), .int (nI (3841 + nn)), .ref 134] h2 Q
                refine exf_go 1 (show ((1 : Int32) = 0 → Go (d + 2) true 214 70 [.ref 130, .int (nI nn), .int (nI c)] [.int (nI (msk (tvd g q nn) c)), .int (nI (3841 + nn)), .ref 134] h2 Q) ∧ (¬ ((1 : Int32) = 0) → Go (d + 2) true 214 64 [.ref 130, .int (nI nn), .int (nI c)] [.int (nI (msk (tvd g q nn) c)), .int (nI (3841 + nn)), .ref 134] h2 Q) from ⟨fun c3 => ?_, fun c3 => ?_⟩)
                · skip
                  exact absurd c3 (by decide)
                · skip
                  refine exf_go 3 (show Go (d + 2) true 214 67 [.ref 130, .int (nI nn), .int (nI c)] [.int (1 <<< ((nI c) &&& 31)), .int (nI (msk (tvd g q nn) c)), .int (nI (3841 + nn)), .ref 134] h2 Q from ?_)
                  rw [show (1 <<< ((nI c) &&& 31) : Int32) = nI (2 ^ c) from nI_1shl (k := c) (by omega)]
                  refine exf_go 2 (show Go (d + 2) true 214 72 [.ref 130, .int (nI nn), .int (nI c)] [.int ((nI (msk (tvd g q nn) c)) ||| (nI (2 ^ c))), .int (nI (3841 + nn)), .ref 134] h2 Q from ?_)
                  rw [show ((nI (msk (tvd g q nn) c)) ||| (nI (2 ^ c)) : Int32) = nI ((msk (tvd g q nn) c) ||| (2 ^ c)) from nI_or (msk (tvd g q nn) c) (2 ^ c)]
                  refine exf_go 2 (show vp_in (nI (3841 + nn)) 13841 ∧ (Go (d + 2) true 214 76 [.ref 130, .int (nI nn), .int ((nI c) + 1)] [] (uI h2 134 ((nI (3841 + nn)).toNatClampNeg) (nI ((msk (tvd g q nn) c) ||| (2 ^ c)))) Q) from ⟨(vp_in_nI (by omega) (by omega)), ?_⟩)
                  rw [show ((nI c) + 1 : Int32) = nI (c + 1) from nI_add c 1]
                  refine exf_go 1 (show Go (d + 2) true 214 34 [.ref 130, .int (nI nn), .int (nI (c + 1))] [] (uI h2 134 ((nI (3841 + nn)).toNatClampNeg) (nI ((msk (tvd g q nn) c) ||| (2 ^ c)))) Q from ?_)
                  rw [show (nI (3841 + nn)).toNatClampNeg = 3841 + nn from nI_clamp (by omega)]
                  exact ih34 (c + 1) _ (by omega) (by omega) ((qC.tr (q2.mono s136_L)).uI' _ _ _ sLh_c) ⟨fgC.1, (rI_uI_at (by omega)).trans ((q2.1 134 1 rfl).1.trans fgC.2.1), fun w hw => (q2.1 135 w rfl).1.trans (fgC.2.2 w hw)⟩ (rI_uI_eq.trans (by rw [msk, htv]; rfl)) (fun j hj => (rI_uI_at (by omega)).trans ((q2.1 134 _ rfl).1.trans (hdC j hj)))
              · skip
                have htv : tvd g q nn c = false := decide_eq_false (fun z => absurd (hp.2.trans z) (by decide))
                show Go (d + 2) true 214 61 [.ref 130, .int (nI nn), .int (nI c)] [.int 0, .int (nI (msk (tvd g q nn) c)), .int (nI (3841 + nn)), .ref 134] h2 Q
                refine exf_go 1 (show ((0 : Int32) = 0 → Go (d + 2) true 214 70 [.ref 130, .int (nI nn), .int (nI c)] [.int (nI (msk (tvd g q nn) c)), .int (nI (3841 + nn)), .ref 134] h2 Q) ∧ (¬ ((0 : Int32) = 0) → Go (d + 2) true 214 64 [.ref 130, .int (nI nn), .int (nI c)] [.int (nI (msk (tvd g q nn) c)), .int (nI (3841 + nn)), .ref 134] h2 Q) from ⟨fun c4 => ?_, fun c4 => ?_⟩)
                · skip
                  refine exf_go 2 (show Go (d + 2) true 214 72 [.ref 130, .int (nI nn), .int (nI c)] [.int ((nI (msk (tvd g q nn) c)) ||| 0), .int (nI (3841 + nn)), .ref 134] h2 Q from ?_)
                  rw [show ((nI (msk (tvd g q nn) c)) ||| 0 : Int32) = nI ((msk (tvd g q nn) c) ||| 0) from nI_or (msk (tvd g q nn) c) 0]
                  refine exf_go 2 (show vp_in (nI (3841 + nn)) 13841 ∧ (Go (d + 2) true 214 76 [.ref 130, .int (nI nn), .int ((nI c) + 1)] [] (uI h2 134 ((nI (3841 + nn)).toNatClampNeg) (nI ((msk (tvd g q nn) c) ||| 0))) Q) from ⟨(vp_in_nI (by omega) (by omega)), ?_⟩)
                  rw [show ((nI c) + 1 : Int32) = nI (c + 1) from nI_add c 1]
                  refine exf_go 1 (show Go (d + 2) true 214 34 [.ref 130, .int (nI nn), .int (nI (c + 1))] [] (uI h2 134 ((nI (3841 + nn)).toNatClampNeg) (nI ((msk (tvd g q nn) c) ||| 0))) Q from ?_)
                  rw [show (nI (3841 + nn)).toNatClampNeg = 3841 + nn from nI_clamp (by omega)]
                  exact ih34 (c + 1) _ (by omega) (by omega) ((qC.tr (q2.mono s136_L)).uI' _ _ _ sLh_c) ⟨fgC.1, (rI_uI_at (by omega)).trans ((q2.1 134 1 rfl).1.trans fgC.2.1), fun w hw => (q2.1 135 w rfl).1.trans (fgC.2.2 w hw)⟩ (rI_uI_eq.trans (by rw [msk, htv]; rfl)) (fun j hj => (rI_uI_at (by omega)).trans ((q2.1 134 _ rfl).1.trans (hdC j hj)))
                · skip
                  exact absurd (by decide) c4
        rw [show (nI (3841 + nn)).toNatClampNeg = 3841 + nn from nI_clamp (by omega)]
        exact L34 ((sC g) + 1) 0 _ (by omega) (by omega) (r1.uI' _ _ _ sLh_c) ⟨fg1.1, (rI_uI_at (by omega)).trans fg1.2.1, fg1.2.2⟩ (rI_uI_eq.trans rfl) (fun j hj => (rI_uI_at (by omega)).trans (hd1 j hj))
  exact L2 ((tot g) + 1) mk_ 0 h (by omega) (by omega) Fq.rfl' (fun j hj => absurd hj (Nat.not_lt_zero _))
