/-! The model: tried, felt, left. -/
theorem ms_fq {g : ShG} {l : LkG} {h h1 : Hp} (ms : MS g l h) (q : Fq scM h h1) : MS g l h1 := by
  unfold MS at *
  rw [q.I (a := 131) (fun _ => rfl)]
  exact ms
theorem us31 : ∀ k, k < 32 → (((nI k).toUInt32 &&& Int32.toUInt32 31).toBitVec % 32).toNat = k := by decide +kernel
theorem tb_ush (x : Int32) {j : Nat} (hj : j < 32) : (x.toUInt32 >>> ((nI j).toUInt32 &&& Int32.toUInt32 31)).toInt32 &&& 1 = nI (tbt x j) := by
  rw [pk_and _ 1 (by decide), pk_ushr x (nI j) j (us31 j hj)]
  rfl
/-- the weights that the model has laid -/
def MW (g : ShG) (kn : Nat) (h : Hp) : Prop := kn < 256 ∧ ∀ m, m < 256 → rJ h 137 m = lN (if m ≤ evr g then wtK g kn m else 0)
theorem mw_at {g : ShG} {l : LkG} {kn : Nat} {h : Hp} (ms : MS g l h) (mw : MW g kn h) {m : Nat} (hm : m < 2 ^ sC g) : rJ h 137 (nI m).toNatClampNeg = lN (wtK g kn m) := by
  have e := evr_b ms.1.1
  rw [nI_clamp (by omega), mw.2 m (by omega), if_pos (by unfold evr; omega)]
def elg (g : ShG) (l : LkG) (kn : Nat) (b : Bool) (n : Nat) : Bool := decide (0 < wtK g kn (sH g n)) && (decide (lT l n = 0) && (!b || decide (agA g l n = 1)))
theorem agr_all {g : ShG} {l : LkG} {n : Nat} : ∀ w, (∀ u, u < w → btn (lF l u) (fgo g n u) = 1) → agr g l n w = 1
  | 0, _ => rfl
  | w + 1, h => by rw [agr, agr_all w (fun u hu => h u (by omega)), h w (by omega)]
theorem agr_no {g : ShG} {l : LkG} {n u : Nat} (hb : btn (lF l u) (fgo g n u) = 0) : ∀ w, u < w → agr g l n w = 0
  | 0, h => absurd h (Nat.not_lt_zero _)
  | w + 1, h => by
    by_cases e : u = w
    · subst e; rw [agr, hb, Nat.mul_zero]
    · rw [agr, agr_no hb w (by omega), Nat.zero_mul]
theorem m_isTried {d : Nat} {h : Hp} {g : ShG} {l : LkG} {n : Nat} {Q : Po} (ms : MS g l h) (hn : n < tot g) (k1 : lT l n = 1 → Q (.int 1) h) (k0 : lT l n = 0 → Q (.int 0) h) : wpC (d + 1) true 221 [.ref 130, .int (nI n)] h Q := by
  have h4 := ms.1.1.1
  have hN := tot_b ms.1.1
  have hl := ms.1.2.2.2.1 n
  refine go_in rfl ?_
  refine exf_go 6 (show ¬ 32 = 0 ∧ (Go d true 221 10 [.ref 130, .int (nI n)] [.int ((nI n) / 32), .int 58, .ref 131] h Q) from ⟨(by decide), ?_⟩)
  rw [show ((nI n) / 32 : Int32) = nI (n / 32) from pk_div (a := n) (d := 32) (by omega) (by omega) (by omega)]
  refine exf_go 1 (show Go d true 221 11 [.ref 130, .int (nI n)] [.int (58 + (nI (n / 32))), .ref 131] h Q from ?_)
  rw [show (58 + (nI (n / 32)) : Int32) = nI (58 + (n / 32)) from nI_add 58 (n / 32)]
  refine exf_go 4 (show vp_in (nI (58 + (n / 32))) 41523 ∧ ¬ 32 = 0 ∧ (Go d true 221 16 [.ref 130, .int (nI n)] [.int ((nI n) - (nI n) / 32 * 32), .int (rI h 131 ((nI (58 + (n / 32))).toNatClampNeg))] h Q) from ⟨(vp_in_nI (by omega) (by omega)), (by decide), ?_⟩)
  rw [show ((nI n) - (nI n) / 32 * 32 : Int32) = nI (n % 32) from pk_rem (a := n) (d := 32) (by omega) (by omega) (by omega)]
  refine exf_go 3 (show Go d true 221 19 [.ref 130, .int (nI n)] [.int ((((rI h 131 ((nI (58 + (n / 32))).toNatClampNeg)).toUInt32 >>> ((nI (n % 32)).toUInt32 &&& Int32.toUInt32 31)).toInt32) &&& 1)] h Q from ?_)
  rw [show ((((rI h 131 ((nI (58 + (n / 32))).toNatClampNeg)).toUInt32 >>> ((nI (n % 32)).toUInt32 &&& Int32.toUInt32 31)).toInt32) &&& 1 : Int32) = nI (lT l n) from by rw [tb_ush _ (by omega), nI_clamp (by omega)]; exact congrArg nI (ms.2.2.2 n hn)]
  refine exf_go 2 (show (¬ (nI (lT l n)) = 1 → Go d true 221 27 [.ref 130, .int (nI n)] [] h Q) ∧ (¬ (¬ (nI (lT l n)) = 1) → Go d true 221 23 [.ref 130, .int (nI n)] [] h Q) from ⟨fun c1 => ?_, fun c1 => ?_⟩)
  · skip
    have c1 : ¬ (lT l n) = 1 := fun q => c1 ((nI_eq (a := (lT l n)) (b := 1) (by omega) (by omega)).mpr q)
    refine exf_go 2 (show ((0 : Int32) = 0 ∨ (0 : Int32) = 1) ∧ Q (.int 0) h from ⟨(by first | exact Or.inl rfl | exact Or.inr rfl | assumption), ?_⟩)
    exact k0 (by omega)
  · skip
    have c1 : (lT l n) = 1 := (nI_eq (a := (lT l n)) (b := 1) (by omega) (by omega)).mp (Classical.not_not.mp c1)
    refine exf_go 3 (show ((1 : Int32) = 0 ∨ (1 : Int32) = 1) ∧ Q (.int 1) h from ⟨(by first | exact Or.inl rfl | exact Or.inr rfl | assumption), ?_⟩)
    exact k1 c1
theorem m_isFelt {d : Nat} {h : Hp} {g : ShG} {l : LkG} {n : Nat} {Q : Po} (ms : MS g l h) (hn : n < tot g) (k1 : agA g l n = 1 → Q (.int 1) h) (k0 : agA g l n = 0 → Q (.int 0) h) : wpC (d + 2) true 224 [.ref 130, .int (nI n)] h Q := by
  have h4 := ms.1.1.1
  have hN := tot_b ms.1.1
  refine go_in rfl ?_
  refine exf_go 6 (show vp_in 1 41523 ∧ (Go (d + 1) true 224 8 [.ref 130, .int (nI n), .int (nI n), mk_] [.int (rI h 131 1)] h Q) from ⟨(vp_in_nI (n := 1) (by decide) (by decide)), ?_⟩)
  rw [show (rI h 131 1 : Int32) = nI (sW g) from ms_W ms]
  refine exf_go 2 (show Go (d + 1) true 224 10 [.ref 130, .int (nI n), .int (nI n), mk_] [.int ((nI (sW g)) - 1)] h Q from ?_)
  rw [show ((nI (sW g)) - 1 : Int32) = pI (sW g) from pI_sub _]
  refine exf_go 1 (show Go (d + 1) true 224 11 [.ref 130, .int (nI n), .int (nI n), .int (pI (sW g))] [] h Q from ?_)
  have L11 : ∀ (k11 : Nat) (v a : Nat), v < k11 → (v ≤ sW g) → (a = n / aft g v) → (∀ u, v ≤ u → u < sW g → btn (lF l u) (fgo g n u) = 1) → Go (d + 1) true 224 11 [.ref 130, .int (nI n), .int (nI a), .int (pI v)] [] h Q := by
    intro k11
    induction k11 with
    | zero => intro v a hk; exact absurd hk (Nat.not_lt_zero _)
    | succ k11 ih11 =>
      intro v a hk hv ha hu
      have hq1 := Nat.div_le_self n (aft g v)
      rcases v with _ | u
      · skip
        show Go (d + 1) true 224 11 [.ref 130, .int (nI n), .int (nI a), .int (-1)] [] h Q
        refine exf_go 2 (show (((-1) : Int32) < 0 → Go (d + 1) true 224 62 [.ref 130, .int (nI n), .int (nI a), .int (-1)] [] h Q) ∧ (¬ (((-1) : Int32) < 0) → Go (d + 1) true 224 15 [.ref 130, .int (nI n), .int (nI a), .int (-1)] [] h Q) from ⟨fun c1 => ?_, fun c1 => ?_⟩)
        · skip
          refine exf_go 2 (show ((1 : Int32) = 0 ∨ (1 : Int32) = 1) ∧ Q (.int 1) h from ⟨(by first | exact Or.inl rfl | exact Or.inr rfl | assumption), ?_⟩)
          first | exact absurd (show u < 0 by assumption) (Nat.not_lt_zero _) | exact k1 (agr_all _ (fun u hu2 => hu u (Nat.zero_le _) hu2))
        · skip
          exact absurd (by decide) c1
      · skip
        have hf := sF_b ms.1.1 u; have ea : a % sF g u = fgo g n u := by rw [ha]; rfl
        have la := fgo_lt ms.1.1 n u; have lf := ms.1.2.2.2.2 u
        show Go (d + 1) true 224 11 [.ref 130, .int (nI n), .int (nI a), .int (nI u)] [] h Q
        refine exf_go 2 (show ((nI u) < 0 → Go (d + 1) true 224 62 [.ref 130, .int (nI n), .int (nI a), .int (nI u)] [] h Q) ∧ (¬ ((nI u) < 0) → Go (d + 1) true 224 15 [.ref 130, .int (nI n), .int (nI a), .int (nI u)] [] h Q) from ⟨fun c2 => ?_, fun c2 => ?_⟩)
        · skip
          have c2 : u < 0 := (nI_ltI (a := u) (b := 0) (by omega) (by omega)).mp c2
          refine exf_go 2 (show ((1 : Int32) = 0 ∨ (1 : Int32) = 1) ∧ Q (.int 1) h from ⟨(by first | exact Or.inl rfl | exact Or.inr rfl | assumption), ?_⟩)
          first | exact absurd (show u < 0 by assumption) (Nat.not_lt_zero _) | exact k1 (agr_all _ (fun u hu2 => hu u (Nat.zero_le _) hu2))
        · skip
          have c2 : ¬ u < 0 := fun q => c2 ((nI_ltI (a := u) (b := 0) (by omega) (by omega)).mpr q)
          refine exf_go 5 (show Go (d + 1) true 224 23 [.ref 130, .int (nI n), .int (nI a), .int (nI u)] [.int (54 + (nI u)), .ref 131] h Q from ?_)
          rw [show (54 + (nI u) : Int32) = nI (54 + u) from nI_add 54 u]
          refine exf_go 1 (show vp_in (nI (54 + u)) 41523 ∧ (Go (d + 1) true 224 24 [.ref 130, .int (nI n), .int (nI a), .int (nI u)] [.int (rI h 131 ((nI (54 + u)).toNatClampNeg))] h Q) from ⟨(vp_in_nI (by omega) (by omega)), ?_⟩)
          rw [show (rI h 131 ((nI (54 + u)).toNatClampNeg) : Int32) = nI (lF l u) from ms_Fe ms (n := u) (by omega)]
          refine exf_go 1 (show Go (d + 1) true 224 25 [.ref 130, .int (nI n), .int (nI a), .int (nI u)] [.long ((nI (lF l u)).toInt64)] h Q from ?_)
          rw [show ((nI (lF l u)).toInt64 : Int64) = lN (lF l u) from nI_l (n := (lF l u)) (by omega)]
          refine exf_go 6 (show Go (d + 1) true 224 34 [.ref 130, .int (nI n), .int (nI a), .int (nI u)] [.int (10 + (nI u)), .ref 131, .int (nI a), .long (lN (lF l u))] h Q from ?_)
          rw [show (10 + (nI u) : Int32) = nI (10 + u) from nI_add 10 u]
          refine exf_go 1 (show vp_in (nI (10 + u)) 41523 ∧ (Go (d + 1) true 224 35 [.ref 130, .int (nI n), .int (nI a), .int (nI u)] [.int (rI h 131 ((nI (10 + u)).toNatClampNeg)), .int (nI a), .long (lN (lF l u))] h Q) from ⟨(vp_in_nI (by omega) (by omega)), ?_⟩)
          rw [show (rI h 131 ((nI (10 + u)).toNatClampNeg) : Int32) = nI (sF g u) from ms_F ms (n := u) (by omega)]
          have := sF_b ms.1.1 u
          refine exf_go 1 (show ¬ (nI (sF g u)) = 0 ∧ (Go (d + 1) true 224 36 [.ref 130, .int (nI n), .int (nI a), .int (nI u)] [.int ((nI a) - (nI a) / (nI (sF g u)) * (nI (sF g u))), .long (lN (lF l u))] h Q) from ⟨(nI_ne0 (n := (sF g u)) (by omega) (by omega)), ?_⟩)
          rw [show ((nI a) - (nI a) / (nI (sF g u)) * (nI (sF g u)) : Int32) = nI (a % (sF g u)) from pk_rem (a := a) (d := (sF g u)) (by omega) (by omega) (by omega)]
          refine exf_go 1 (show wpC (d + 1) true 196 [.long (lN (lF l u)), .int (nI (a % (sF g u)))] h (fun r h' => Go (d + 1) true 224 39 [.ref 130, .int (nI n), .int (nI a), .int (nI u)] [r] h' Q) from ?_)
          refine m_isIn (s := (lF l u)) (j := (a % (sF g u))) (by omega) (by omega) (fun b3 => ?_) (fun b3 => ?_)
          · skip
            show Go (d + 1) true 224 39 [.ref 130, .int (nI n), .int (nI a), .int (nI u)] [.int 1] h Q
            refine exf_go 1 (show (¬ (1 : Int32) = 0 → Go (d + 1) true 224 44 [.ref 130, .int (nI n), .int (nI a), .int (nI u)] [] h Q) ∧ (¬ (¬ (1 : Int32) = 0) → Go (d + 1) true 224 42 [.ref 130, .int (nI n), .int (nI a), .int (nI u)] [] h Q) from ⟨fun c4 => ?_, fun c4 => ?_⟩)
            · skip
              refine exf_go 6 (show Go (d + 1) true 224 53 [.ref 130, .int (nI n), .int (nI a), .int (nI u)] [.int (10 + (nI u)), .ref 131, .int (nI a)] h Q from ?_)
              rw [show (10 + (nI u) : Int32) = nI (10 + u) from nI_add 10 u]
              refine exf_go 1 (show vp_in (nI (10 + u)) 41523 ∧ (Go (d + 1) true 224 54 [.ref 130, .int (nI n), .int (nI a), .int (nI u)] [.int (rI h 131 ((nI (10 + u)).toNatClampNeg)), .int (nI a)] h Q) from ⟨(vp_in_nI (by omega) (by omega)), ?_⟩)
              rw [show (rI h 131 ((nI (10 + u)).toNatClampNeg) : Int32) = nI (sF g u) from ms_F ms (n := u) (by omega)]
              have := sF_b ms.1.1 u
              refine exf_go 1 (show ¬ (nI (sF g u)) = 0 ∧ (Go (d + 1) true 224 55 [.ref 130, .int (nI n), .int (nI a), .int (nI u)] [.int ((nI a) / (nI (sF g u)))] h Q) from ⟨(nI_ne0 (n := (sF g u)) (by omega) (by omega)), ?_⟩)
              rw [show ((nI a) / (nI (sF g u)) : Int32) = nI (a / (sF g u)) from pk_div (a := a) (d := (sF g u)) (by omega) (by omega) (by omega)]
              refine exf_go 2 (show Go (d + 1) true 224 59 [.ref 130, .int (nI n), .int (nI (a / (sF g u))), .int ((nI u) + (-1))] [] h Q from ?_)
              rw [show ((nI u) + (-1) : Int32) = pI u from pI_inc u]
              refine exf_go 1 (show Go (d + 1) true 224 11 [.ref 130, .int (nI n), .int (nI (a / (sF g u))), .int (pI u)] [] h Q from ?_)
              exact ih11 u (a / sF g u) (by omega) (by omega) (by rw [ha, Nat.div_div_eq_div_mul, aft_s g (w := u) (by omega), Nat.mul_comm]) (fun u2 h1 h2 => (Nat.eq_or_lt_of_le h1).elim (fun e => by subst e; rw [← ea]; assumption) (fun e => hu u2 e h2))
            · skip
              exact absurd (by decide) c4
          · skip
            show Go (d + 1) true 224 39 [.ref 130, .int (nI n), .int (nI a), .int (nI u)] [.int 0] h Q
            refine exf_go 1 (show (¬ (0 : Int32) = 0 → Go (d + 1) true 224 44 [.ref 130, .int (nI n), .int (nI a), .int (nI u)] [] h Q) ∧ (¬ (¬ (0 : Int32) = 0) → Go (d + 1) true 224 42 [.ref 130, .int (nI n), .int (nI a), .int (nI u)] [] h Q) from ⟨fun c5 => ?_, fun c5 => ?_⟩)
            · skip
              exact absurd c5 (by decide)
            · skip
              refine exf_go 2 (show ((0 : Int32) = 0 ∨ (0 : Int32) = 1) ∧ Q (.int 0) h from ⟨(by first | exact Or.inl rfl | exact Or.inr rfl | assumption), ?_⟩)
              exact k0 (agr_no (u := u) (by rw [← ea]; assumption) _ (by omega))
  exact L11 (4 + 1) (sW g) n (by omega) (Nat.le_refl _) (by rw [aft_W ms.1.1, Nat.div_one]) (fun u h1 h2 => absurd h1 (by omega))
theorem m_isLeft1 {d : Nat} {h : Hp} {g : ShG} {l : LkG} {n kn : Nat} {Q : Po} (ms : MS g l h) (mw : MW g kn h) (hn : n < tot g) (k1 : elg g l kn true n = true → Q (.int 1) h) (k0 : elg g l kn true n = false → Q (.int 0) h) : wpC (d + 3) true 226 [.ref 130, .int (nI n), .int 1] h Q := by
  have h4 := ms.1.1.1
  have hN := tot_b ms.1.1
  have hH0 := hH ms.1.1 n
  have e := evr_b ms.1.1
  have hw := wtK_b ms.1.1 kn (sH g n)
  refine go_in rfl ?_
  refine exf_go 7 (show Go (d + 2) true 226 13 [.ref 130, .int (nI n), .int 1] [.int (3841 + (nI n)), .ref 131, .ref 137] h Q from ?_)
  rw [show (3841 + (nI n) : Int32) = nI (3841 + n) from nI_add 3841 n]
  refine exf_go 1 (show vp_in (nI (3841 + n)) 41523 ∧ (Go (d + 2) true 226 14 [.ref 130, .int (nI n), .int 1] [.int (rI h 131 ((nI (3841 + n)).toNatClampNeg)), .ref 137] h Q) from ⟨(vp_in_nI (by omega) (by omega)), ?_⟩)
  rw [show (rI h 131 ((nI (3841 + n)).toNatClampNeg) : Int32) = nI (sH g n) from ms_H ms (n := n) (by omega)]
  have := sH_b ms.1.1 n
  refine exf_go 1 (show vp_in (nI (sH g n)) 256 ∧ (Go (d + 2) true 226 15 [.ref 130, .int (nI n), .int 1] [.long (rJ h 137 ((nI (sH g n)).toNatClampNeg))] h Q) from ⟨(vp_in_nI (by omega) (by omega)), ?_⟩)
  rw [show (rJ h 137 ((nI (sH g n)).toNatClampNeg) : Int64) = lN (wtK g kn (sH g n)) from mw_at ms mw (m := (sH g n)) (by omega)]
  refine exf_go 3 (show ((lg_cmp (lN (wtK g kn (sH g n))) 0) ≤ 0 → Go (d + 2) true 226 44 [.ref 130, .int (nI n), .int 1] [] h Q) ∧ (¬ ((lg_cmp (lN (wtK g kn (sH g n))) 0) ≤ 0) → Go (d + 2) true 226 20 [.ref 130, .int (nI n), .int 1] [] h Q) from ⟨fun c1 => ?_, fun c1 => ?_⟩)
  · skip
    have c1 : (lN (wtK g kn (sH g n))) ≤ 0 := (lg_cmp_le _ _).mp c1
    have c1 : (wtK g kn (sH g n)) ≤ 0 := (pk_lLE (a := (wtK g kn (sH g n))) (b := 0) (by omega) (by omega)).mp c1
    refine exf_go 2 (show ((0 : Int32) = 0 ∨ (0 : Int32) = 1) ∧ Q (.int 0) h from ⟨(by first | exact Or.inl rfl | exact Or.inr rfl | assumption), ?_⟩)
    refine k0 ?_
    first | (simp [elg, *]; done) | (simp [elg, *]; omega)
  · skip
    have c1 : ¬ ((lN (wtK g kn (sH g n))) ≤ 0) := fun q => c1 ((lg_cmp_le _ _).mpr q)
    have c1 : ¬ ((wtK g kn (sH g n)) ≤ 0) := fun q => c1 ((pk_lLE (a := (wtK g kn (sH g n))) (b := 0) (by omega) (by omega)).mpr q)
    refine exf_go 3 (show wpC (d + 2) true 221 [.ref 130, .int (nI n)] h (fun r h' => Go (d + 2) true 226 25 [.ref 130, .int (nI n), .int 1] [r] h' Q) from ?_)
    refine m_isTried ms (by omega) (fun b2 => ?_) (fun b2 => ?_)
    · skip
      show Go (d + 2) true 226 25 [.ref 130, .int (nI n), .int 1] [.int 1] h Q
      refine exf_go 1 (show (¬ (1 : Int32) = 0 → Go (d + 2) true 226 44 [.ref 130, .int (nI n), .int 1] [] h Q) ∧ (¬ (¬ (1 : Int32) = 0) → Go (d + 2) true 226 28 [.ref 130, .int (nI n), .int 1] [] h Q) from ⟨fun c3 => ?_, fun c3 => ?_⟩)
      · skip
        refine exf_go 2 (show ((0 : Int32) = 0 ∨ (0 : Int32) = 1) ∧ Q (.int 0) h from ⟨(by first | exact Or.inl rfl | exact Or.inr rfl | assumption), ?_⟩)
        refine k0 ?_
        first | (simp [elg, *]; done) | (simp [elg, *]; omega)
      · skip
        exact absurd (by decide) c3
    · skip
      show Go (d + 2) true 226 25 [.ref 130, .int (nI n), .int 1] [.int 0] h Q
      refine exf_go 1 (show (¬ (0 : Int32) = 0 → Go (d + 2) true 226 44 [.ref 130, .int (nI n), .int 1] [] h Q) ∧ (¬ (¬ (0 : Int32) = 0) → Go (d + 2) true 226 28 [.ref 130, .int (nI n), .int 1] [] h Q) from ⟨fun c4 => ?_, fun c4 => ?_⟩)
      · skip
        exact absurd c4 (by decide)
      · skip
        refine exf_go 2 (show ((1 : Int32) = 0 → Go (d + 2) true 226 40 [.ref 130, .int (nI n), .int 1] [] h Q) ∧ (¬ ((1 : Int32) = 0) → Go (d + 2) true 226 32 [.ref 130, .int (nI n), .int 1] [] h Q) from ⟨fun c5 => ?_, fun c5 => ?_⟩)
        · skip
          exact absurd c5 (by decide)
        · skip
          refine exf_go 3 (show wpC (d + 2) true 224 [.ref 130, .int (nI n)] h (fun r h' => Go (d + 2) true 226 37 [.ref 130, .int (nI n), .int 1] [r] h' Q) from ?_)
          refine m_isFelt ms (by omega) (fun b6 => ?_) (fun b6 => ?_)
          · skip
            show Go (d + 2) true 226 37 [.ref 130, .int (nI n), .int 1] [.int 1] h Q
            refine exf_go 1 (show ((1 : Int32) = 0 → Go (d + 2) true 226 44 [.ref 130, .int (nI n), .int 1] [] h Q) ∧ (¬ ((1 : Int32) = 0) → Go (d + 2) true 226 40 [.ref 130, .int (nI n), .int 1] [] h Q) from ⟨fun c7 => ?_, fun c7 => ?_⟩)
            · skip
              exact absurd c7 (by decide)
            · skip
              refine exf_go 3 (show ((1 : Int32) = 0 ∨ (1 : Int32) = 1) ∧ Q (.int 1) h from ⟨(by first | exact Or.inl rfl | exact Or.inr rfl | assumption), ?_⟩)
              refine k1 ?_
              first | (simp [elg, *]; done) | (simp [elg, *]; omega)
          · skip
            show Go (d + 2) true 226 37 [.ref 130, .int (nI n), .int 1] [.int 0] h Q
            refine exf_go 1 (show ((0 : Int32) = 0 → Go (d + 2) true 226 44 [.ref 130, .int (nI n), .int 1] [] h Q) ∧ (¬ ((0 : Int32) = 0) → Go (d + 2) true 226 40 [.ref 130, .int (nI n), .int 1] [] h Q) from ⟨fun c8 => ?_, fun c8 => ?_⟩)
            · skip
              refine exf_go 2 (show ((0 : Int32) = 0 ∨ (0 : Int32) = 1) ∧ Q (.int 0) h from ⟨(by first | exact Or.inl rfl | exact Or.inr rfl | assumption), ?_⟩)
              refine k0 ?_
              first | (simp [elg, *]; done) | (simp [elg, *]; omega)
            · skip
              exact absurd (by decide) c8
theorem m_isLeft0 {d : Nat} {h : Hp} {g : ShG} {l : LkG} {n kn : Nat} {Q : Po} (ms : MS g l h) (mw : MW g kn h) (hn : n < tot g) (k1 : elg g l kn false n = true → Q (.int 1) h) (k0 : elg g l kn false n = false → Q (.int 0) h) : wpC (d + 3) true 226 [.ref 130, .int (nI n), .int 0] h Q := by
  have h4 := ms.1.1.1
  have hN := tot_b ms.1.1
  have hH0 := hH ms.1.1 n
  have e := evr_b ms.1.1
  have hw := wtK_b ms.1.1 kn (sH g n)
  refine go_in rfl ?_
  refine exf_go 7 (show Go (d + 2) true 226 13 [.ref 130, .int (nI n), .int 0] [.int (3841 + (nI n)), .ref 131, .ref 137] h Q from ?_)
  rw [show (3841 + (nI n) : Int32) = nI (3841 + n) from nI_add 3841 n]
  refine exf_go 1 (show vp_in (nI (3841 + n)) 41523 ∧ (Go (d + 2) true 226 14 [.ref 130, .int (nI n), .int 0] [.int (rI h 131 ((nI (3841 + n)).toNatClampNeg)), .ref 137] h Q) from ⟨(vp_in_nI (by omega) (by omega)), ?_⟩)
  rw [show (rI h 131 ((nI (3841 + n)).toNatClampNeg) : Int32) = nI (sH g n) from ms_H ms (n := n) (by omega)]
  have := sH_b ms.1.1 n
  refine exf_go 1 (show vp_in (nI (sH g n)) 256 ∧ (Go (d + 2) true 226 15 [.ref 130, .int (nI n), .int 0] [.long (rJ h 137 ((nI (sH g n)).toNatClampNeg))] h Q) from ⟨(vp_in_nI (by omega) (by omega)), ?_⟩)
  rw [show (rJ h 137 ((nI (sH g n)).toNatClampNeg) : Int64) = lN (wtK g kn (sH g n)) from mw_at ms mw (m := (sH g n)) (by omega)]
  refine exf_go 3 (show ((lg_cmp (lN (wtK g kn (sH g n))) 0) ≤ 0 → Go (d + 2) true 226 44 [.ref 130, .int (nI n), .int 0] [] h Q) ∧ (¬ ((lg_cmp (lN (wtK g kn (sH g n))) 0) ≤ 0) → Go (d + 2) true 226 20 [.ref 130, .int (nI n), .int 0] [] h Q) from ⟨fun c1 => ?_, fun c1 => ?_⟩)
  · skip
    have c1 : (lN (wtK g kn (sH g n))) ≤ 0 := (lg_cmp_le _ _).mp c1
    have c1 : (wtK g kn (sH g n)) ≤ 0 := (pk_lLE (a := (wtK g kn (sH g n))) (b := 0) (by omega) (by omega)).mp c1
    refine exf_go 2 (show ((0 : Int32) = 0 ∨ (0 : Int32) = 1) ∧ Q (.int 0) h from ⟨(by first | exact Or.inl rfl | exact Or.inr rfl | assumption), ?_⟩)
    refine k0 ?_
    first | (simp [elg, *]; done) | (simp [elg, *]; omega)
  · skip
    have c1 : ¬ ((lN (wtK g kn (sH g n))) ≤ 0) := fun q => c1 ((lg_cmp_le _ _).mpr q)
    have c1 : ¬ ((wtK g kn (sH g n)) ≤ 0) := fun q => c1 ((pk_lLE (a := (wtK g kn (sH g n))) (b := 0) (by omega) (by omega)).mpr q)
    refine exf_go 3 (show wpC (d + 2) true 221 [.ref 130, .int (nI n)] h (fun r h' => Go (d + 2) true 226 25 [.ref 130, .int (nI n), .int 0] [r] h' Q) from ?_)
    refine m_isTried ms (by omega) (fun b2 => ?_) (fun b2 => ?_)
    · skip
      show Go (d + 2) true 226 25 [.ref 130, .int (nI n), .int 0] [.int 1] h Q
      refine exf_go 1 (show (¬ (1 : Int32) = 0 → Go (d + 2) true 226 44 [.ref 130, .int (nI n), .int 0] [] h Q) ∧ (¬ (¬ (1 : Int32) = 0) → Go (d + 2) true 226 28 [.ref 130, .int (nI n), .int 0] [] h Q) from ⟨fun c3 => ?_, fun c3 => ?_⟩)
      · skip
        refine exf_go 2 (show ((0 : Int32) = 0 ∨ (0 : Int32) = 1) ∧ Q (.int 0) h from ⟨(by first | exact Or.inl rfl | exact Or.inr rfl | assumption), ?_⟩)
        refine k0 ?_
        first | (simp [elg, *]; done) | (simp [elg, *]; omega)
      · skip
        exact absurd (by decide) c3
    · skip
      show Go (d + 2) true 226 25 [.ref 130, .int (nI n), .int 0] [.int 0] h Q
      refine exf_go 1 (show (¬ (0 : Int32) = 0 → Go (d + 2) true 226 44 [.ref 130, .int (nI n), .int 0] [] h Q) ∧ (¬ (¬ (0 : Int32) = 0) → Go (d + 2) true 226 28 [.ref 130, .int (nI n), .int 0] [] h Q) from ⟨fun c4 => ?_, fun c4 => ?_⟩)
      · skip
        exact absurd c4 (by decide)
      · skip
        refine exf_go 2 (show ((0 : Int32) = 0 → Go (d + 2) true 226 40 [.ref 130, .int (nI n), .int 0] [] h Q) ∧ (¬ ((0 : Int32) = 0) → Go (d + 2) true 226 32 [.ref 130, .int (nI n), .int 0] [] h Q) from ⟨fun c5 => ?_, fun c5 => ?_⟩)
        · skip
          refine exf_go 3 (show ((1 : Int32) = 0 ∨ (1 : Int32) = 1) ∧ Q (.int 1) h from ⟨(by first | exact Or.inl rfl | exact Or.inr rfl | assumption), ?_⟩)
          refine k1 ?_
          first | (simp [elg, *]; done) | (simp [elg, *]; omega)
        · skip
          exact absurd (by decide) c5
