/-! The model: one row of numbers. -/
/-- the bit j of an int -/
def tbt (x : Int32) (j : Nat) : Nat := x.toBitVec.toNat / 2 ^ j % 2
/-- a shed and what was done, as the row F -/
def MA (F : Nat → Int32) (g : ShG) (l : LkG) : Prop := (ShW g ∧ LkW g l) ∧ (F 0 = nI (sL g) ∧ F 1 = nI (sW g) ∧ F 2 = nI (sC g) ∧ F 3 = nI (sM g) ∧ F 4 = nI (tot g) ∧ F 5 = nI (sP g) ∧ F 6 = nI (sBA g) ∧ F 7 = nI (sBS g) ∧ F 8 = nI (sSw g) ∧ F 9 = oI (sO g) ∧ F 50 = nI (lA l) ∧ F 51 = lX l ∧ F 52 = lG l ∧ F 53 = nI (lO l)) ∧ ((∀ w, w < sW g → F (10 + w) = nI (sF g w)) ∧ (∀ w, w < sW g → F (14 + w) = nI (sS g w)) ∧ (∀ w, w < sW g → F (18 + w) = nI (sR g w)) ∧ (∀ c, c < sC g → F (22 + c) = nI (sT g c)) ∧ (∀ m, m < sM g → F (46 + m) = nI (sK g m)) ∧ (∀ w, w < 4 → F (54 + w) = nI (lF l w)) ∧ (∀ n, n < tot g → F (3841 + n) = nI (sH g n))) ∧ ∀ n, n < tot g → tbt (F (58 + n / 32)) (n % 32) = lT l n
def MS (g : ShG) (l : LkG) (h : Hp) : Prop := MA (rI h 131) g l
theorem ms_L {g : ShG} {l : LkG} {h : Hp} (ms : MS g l h) : rI h 131 0 = nI (sL g) := ms.2.1.1
theorem ms_W {g : ShG} {l : LkG} {h : Hp} (ms : MS g l h) : rI h 131 1 = nI (sW g) := ms.2.1.2.1
theorem ms_C {g : ShG} {l : LkG} {h : Hp} (ms : MS g l h) : rI h 131 2 = nI (sC g) := ms.2.1.2.2.1
theorem ms_M {g : ShG} {l : LkG} {h : Hp} (ms : MS g l h) : rI h 131 3 = nI (sM g) := ms.2.1.2.2.2.1
theorem ms_N {g : ShG} {l : LkG} {h : Hp} (ms : MS g l h) : rI h 131 4 = nI (tot g) := ms.2.1.2.2.2.2.1
theorem ms_P {g : ShG} {l : LkG} {h : Hp} (ms : MS g l h) : rI h 131 5 = nI (sP g) := ms.2.1.2.2.2.2.2.1
theorem ms_BA {g : ShG} {l : LkG} {h : Hp} (ms : MS g l h) : rI h 131 6 = nI (sBA g) := ms.2.1.2.2.2.2.2.2.1
theorem ms_BS {g : ShG} {l : LkG} {h : Hp} (ms : MS g l h) : rI h 131 7 = nI (sBS g) := ms.2.1.2.2.2.2.2.2.2.1
theorem ms_Sw {g : ShG} {l : LkG} {h : Hp} (ms : MS g l h) : rI h 131 8 = nI (sSw g) := ms.2.1.2.2.2.2.2.2.2.2.1
theorem ms_O {g : ShG} {l : LkG} {h : Hp} (ms : MS g l h) : rI h 131 9 = oI (sO g) := ms.2.1.2.2.2.2.2.2.2.2.2.1
theorem ms_A {g : ShG} {l : LkG} {h : Hp} (ms : MS g l h) : rI h 131 50 = nI (lA l) := ms.2.1.2.2.2.2.2.2.2.2.2.2.1
theorem ms_X {g : ShG} {l : LkG} {h : Hp} (ms : MS g l h) : rI h 131 51 = lX l := ms.2.1.2.2.2.2.2.2.2.2.2.2.2.1
theorem ms_G {g : ShG} {l : LkG} {h : Hp} (ms : MS g l h) : rI h 131 52 = lG l := ms.2.1.2.2.2.2.2.2.2.2.2.2.2.2.1
theorem ms_Op {g : ShG} {l : LkG} {h : Hp} (ms : MS g l h) : rI h 131 53 = nI (lO l) := ms.2.1.2.2.2.2.2.2.2.2.2.2.2.2.2
theorem ms_F {g : ShG} {l : LkG} {h : Hp} (ms : MS g l h) {n : Nat} (hn : n < sW g) : rI h 131 (nI (10 + n)).toNatClampNeg = nI (sF g n) := by have h1 := ms.1.1.1; have h2 := ms.1.1.2.2.2.1; have h3 := ms.1.1.2.2.2.2.2.1; have h4 := tot_b ms.1.1; rw [nI_clamp (by omega)]; exact ms.2.2.1.1 n hn
theorem ms_S {g : ShG} {l : LkG} {h : Hp} (ms : MS g l h) {n : Nat} (hn : n < sW g) : rI h 131 (nI (14 + n)).toNatClampNeg = nI (sS g n) := by have h1 := ms.1.1.1; have h2 := ms.1.1.2.2.2.1; have h3 := ms.1.1.2.2.2.2.2.1; have h4 := tot_b ms.1.1; rw [nI_clamp (by omega)]; exact ms.2.2.1.2.1 n hn
theorem ms_R {g : ShG} {l : LkG} {h : Hp} (ms : MS g l h) {n : Nat} (hn : n < sW g) : rI h 131 (nI (18 + n)).toNatClampNeg = nI (sR g n) := by have h1 := ms.1.1.1; have h2 := ms.1.1.2.2.2.1; have h3 := ms.1.1.2.2.2.2.2.1; have h4 := tot_b ms.1.1; rw [nI_clamp (by omega)]; exact ms.2.2.1.2.2.1 n hn
theorem ms_T {g : ShG} {l : LkG} {h : Hp} (ms : MS g l h) {n : Nat} (hn : n < sC g) : rI h 131 (nI (22 + n)).toNatClampNeg = nI (sT g n) := by have h1 := ms.1.1.1; have h2 := ms.1.1.2.2.2.1; have h3 := ms.1.1.2.2.2.2.2.1; have h4 := tot_b ms.1.1; rw [nI_clamp (by omega)]; exact ms.2.2.1.2.2.2.1 n hn
theorem ms_K {g : ShG} {l : LkG} {h : Hp} (ms : MS g l h) {n : Nat} (hn : n < sM g) : rI h 131 (nI (46 + n)).toNatClampNeg = nI (sK g n) := by have h1 := ms.1.1.1; have h2 := ms.1.1.2.2.2.1; have h3 := ms.1.1.2.2.2.2.2.1; have h4 := tot_b ms.1.1; rw [nI_clamp (by omega)]; exact ms.2.2.1.2.2.2.2.1 n hn
theorem ms_Fe {g : ShG} {l : LkG} {h : Hp} (ms : MS g l h) {n : Nat} (hn : n < 4) : rI h 131 (nI (54 + n)).toNatClampNeg = nI (lF l n) := by have h1 := ms.1.1.1; have h2 := ms.1.1.2.2.2.1; have h3 := ms.1.1.2.2.2.2.2.1; have h4 := tot_b ms.1.1; rw [nI_clamp (by omega)]; exact ms.2.2.1.2.2.2.2.2.1 n hn
theorem ms_H {g : ShG} {l : LkG} {h : Hp} (ms : MS g l h) {n : Nat} (hn : n < tot g) : rI h 131 (nI (3841 + n)).toNatClampNeg = nI (sH g n) := by have h1 := ms.1.1.1; have h2 := ms.1.1.2.2.2.1; have h3 := ms.1.1.2.2.2.2.2.1; have h4 := tot_b ms.1.1; rw [nI_clamp (by omega)]; exact ms.2.2.1.2.2.2.2.2.2 n hn
theorem nI_dec {n : Nat} (h : 1 ≤ n) : nI n + (-1) = nI (n - 1) := by
  obtain ⟨m, rfl⟩ : ∃ m, n = m + 1 := ⟨n - 1, by omega⟩
  exact pk_m1 m
/-- one less -/
def pI : Nat → Int32
  | 0 => -1
  | n + 1 => nI n
theorem pI_sub (n : Nat) : nI n - 1 = pI n := by
  cases n with
  | zero => decide
  | succ n => exact nI_pred n
theorem pI_inc (n : Nat) : nI n + (-1) = pI n := by
  cases n with
  | zero => decide
  | succ n => exact pk_m1 n
theorem l63 : ∀ k, k < 32 → (((nI k).toInt64 &&& 63).toBitVec.smod 64).toNat = k := by decide +kernel
theorem lN_shr {a k : Nat} (ha : a < 2 ^ 63) (hk : k < 32) : lN a >>> ((nI k).toInt64 &&& 63) = lN (a / 2 ^ k) := by
  apply Int64.toInt_inj.mp
  have h2 : a / 2 ^ k ≤ a := Nat.div_le_self _ _
  have e : (lN a >>> ((nI k).toInt64 &&& 63)).toInt = (lN a).toInt >>> k := by
    show ((lN a).toBitVec.sshiftRight (((nI k).toInt64 &&& 63).toBitVec.smod 64).toNat).toInt = _
    rw [l63 k hk, BitVec.toInt_sshiftRight]
    rfl
  rw [e, pk_lT ha, pk_lT (by omega), Int.shiftRight_eq_div_pow]
  rfl
theorem lN_and (a b : Nat) : lN a &&& lN b = lN (a &&& b) := by
  apply Int64.toBitVec_inj.mp
  show BitVec.ofNat 64 a &&& BitVec.ofNat 64 b = BitVec.ofNat 64 (a &&& b)
  rw [BitVec.ofNat_and]
theorem lN_low1 (a : Nat) : lN a &&& 1 = lN (a % 2) := by
  have := lN_and a 1
  rw [Nat.and_one_is_mod] at this
  exact this
theorem m_isIn {d : Nat} {h : Hp} {s j : Nat} {Q : Po} (hs : s < 2 ^ 31) (hj : j < 32) (k1 : btn s j = 1 → Q (.int 1) h) (k0 : btn s j = 0 → Q (.int 0) h) : wpC (d + 1) true 196 [.long (lN s), .int (nI j)] h Q := by
  have hb := btn_le s j
  refine go_in rfl ?_
  refine exf_go 3 (show Go d true 196 3 [.long (lN s), mk_, .int (nI j)] [.long ((lN s) >>> ((nI j).toInt64 &&& 63))] h Q from ?_)
  rw [show ((lN s) >>> ((nI j).toInt64 &&& 63) : Int64) = lN (s / 2 ^ j) from lN_shr (a := s) (k := j) (by omega) (by omega)]
  refine exf_go 2 (show Go d true 196 5 [.long (lN s), mk_, .int (nI j)] [.long ((lN (s / 2 ^ j)) &&& 1)] h Q from ?_)
  rw [show ((lN (s / 2 ^ j)) &&& 1 : Int64) = lN (btn s j) from lN_low1 _]
  refine exf_go 3 (show (¬ (lg_cmp (lN (btn s j)) 1) = 0 → Go d true 196 14 [.long (lN s), mk_, .int (nI j)] [] h Q) ∧ (¬ (¬ (lg_cmp (lN (btn s j)) 1) = 0) → Go d true 196 10 [.long (lN s), mk_, .int (nI j)] [] h Q) from ⟨fun c1 => ?_, fun c1 => ?_⟩)
  · skip
    have c1 : ¬ ((lN (btn s j)) = 1) := fun q => c1 ((lg_cmp_eq _ _).mpr q)
    have c1 : ¬ ((btn s j) = 1) := fun q => c1 ((pk_lEQ (a := (btn s j)) (b := 1) (by omega) (by omega)).mpr q)
    refine exf_go 2 (show ((0 : Int32) = 0 ∨ (0 : Int32) = 1) ∧ Q (.int 0) h from ⟨(by first | exact Or.inl rfl | exact Or.inr rfl | assumption), ?_⟩)
    exact k0 (by omega)
  · skip
    have c1 : (lN (btn s j)) = 1 := (lg_cmp_eq _ _).mp (Classical.not_not.mp c1)
    have c1 : (btn s j) = 1 := (pk_lEQ (a := (btn s j)) (b := 1) (by omega) (by omega)).mp c1
    refine exf_go 3 (show ((1 : Int32) = 0 ∨ (1 : Int32) = 1) ∧ Q (.int 1) h from ⟨(by first | exact Or.inl rfl | exact Or.inr rfl | assumption), ?_⟩)
    exact k1 c1
theorem m_figureOf {d : Nat} {h : Hp} {g : ShG} {l : LkG} {n w : Nat} {Q : Po} (ms : MS g l h) (hn : n < 2 ^ 31) (hw : w < sW g) (k : Q (.int (nI (fgo g n w))) h) : wpC (d + 1) true 220 [.ref 130, .int (nI n), .int (nI w)] h Q := by
  have h4 := ms.1.1.1
  have hN := tot_b ms.1.1
  refine go_in rfl ?_
  refine exf_go 6 (show vp_in 1 41523 ∧ (Go d true 220 8 [.ref 130, .int (nI n), .int (nI w), .int (nI n), mk_] [.int (rI h 131 1)] h Q) from ⟨(vp_in_nI (n := 1) (by decide) (by decide)), ?_⟩)
  rw [show (rI h 131 1 : Int32) = nI (sW g) from ms_W ms]
  refine exf_go 2 (show Go d true 220 10 [.ref 130, .int (nI n), .int (nI w), .int (nI n), mk_] [.int ((nI (sW g)) - 1)] h Q from ?_)
  rw [show ((nI (sW g)) - 1 : Int32) = nI ((sW g) - 1) from pk_sub (a := (sW g)) (b := 1) (by omega)]
  refine exf_go 1 (show Go d true 220 12 [.ref 130, .int (nI n), .int (nI w), .int (nI n), .int (nI ((sW g) - 1))] [] h Q from ?_)
  have L12 : ∀ (k12 : Nat) (u m : Nat), u < k12 → (w ≤ u ∧ u < sW g) → (m = n / wor g u) → Go d true 220 12 [.ref 130, .int (nI n), .int (nI w), .int (nI m), .int (nI u)] [] h Q := by
    intro k12
    induction k12 with
    | zero => intro u m hk; exact absurd hk (Nat.not_lt_zero _)
    | succ k12 ih12 =>
      intro u m hk hu hm
      have hf := sF_b ms.1.1 u; have hq := Nat.div_le_self n (wor g u)
      have hf2 := sF_b ms.1.1 w
      refine exf_go 3 (show ((nI u) ≤ (nI w) → Go d true 220 37 [.ref 130, .int (nI n), .int (nI w), .int (nI m), .int (nI u)] [] h Q) ∧ (¬ ((nI u) ≤ (nI w)) → Go d true 220 18 [.ref 130, .int (nI n), .int (nI w), .int (nI m), .int (nI u)] [] h Q) from ⟨fun c1 => ?_, fun c1 => ?_⟩)
      · skip
        have c1 : u ≤ w := (nI_leI (a := u) (b := w) (by omega) (by omega)).mp c1
        refine exf_go 6 (show Go d true 220 46 [.ref 130, .int (nI n), .int (nI w), .int (nI m), .int (nI u)] [.int (10 + (nI w)), .ref 131, .int (nI m)] h Q from ?_)
        rw [show (10 + (nI w) : Int32) = nI (10 + w) from nI_add 10 w]
        refine exf_go 1 (show vp_in (nI (10 + w)) 41523 ∧ (Go d true 220 47 [.ref 130, .int (nI n), .int (nI w), .int (nI m), .int (nI u)] [.int (rI h 131 ((nI (10 + w)).toNatClampNeg)), .int (nI m)] h Q) from ⟨(vp_in_nI (by omega) (by omega)), ?_⟩)
        rw [show (rI h 131 ((nI (10 + w)).toNatClampNeg) : Int32) = nI (sF g w) from ms_F ms (n := w) (by omega)]
        have := sF_b ms.1.1 w
        refine exf_go 1 (show ¬ (nI (sF g w)) = 0 ∧ (Go d true 220 48 [.ref 130, .int (nI n), .int (nI w), .int (nI m), .int (nI u)] [.int ((nI m) - (nI m) / (nI (sF g w)) * (nI (sF g w)))] h Q) from ⟨(nI_ne0 (n := (sF g w)) (by omega) (by omega)), ?_⟩)
        rw [show ((nI m) - (nI m) / (nI (sF g w)) * (nI (sF g w)) : Int32) = nI (m % (sF g w)) from pk_rem (a := m) (d := (sF g w)) (by omega) (by omega) (by omega)]
        refine exf_go 1 (show Q (.int (nI (m % (sF g w)))) h from ?_)
        rw [show m % (sF g w) = fgo g n w from by rw [hm, show u = w from by omega]; rfl]; exact k
      · skip
        have c1 : ¬ u ≤ w := fun q => c1 ((nI_leI (a := u) (b := w) (by omega) (by omega)).mpr q)
        refine exf_go 6 (show Go d true 220 28 [.ref 130, .int (nI n), .int (nI w), .int (nI m), .int (nI u)] [.int (10 + (nI u)), .ref 131, .int (nI m)] h Q from ?_)
        rw [show (10 + (nI u) : Int32) = nI (10 + u) from nI_add 10 u]
        refine exf_go 1 (show vp_in (nI (10 + u)) 41523 ∧ (Go d true 220 29 [.ref 130, .int (nI n), .int (nI w), .int (nI m), .int (nI u)] [.int (rI h 131 ((nI (10 + u)).toNatClampNeg)), .int (nI m)] h Q) from ⟨(vp_in_nI (by omega) (by omega)), ?_⟩)
        rw [show (rI h 131 ((nI (10 + u)).toNatClampNeg) : Int32) = nI (sF g u) from ms_F ms (n := u) (by omega)]
        have := sF_b ms.1.1 u
        refine exf_go 1 (show ¬ (nI (sF g u)) = 0 ∧ (Go d true 220 30 [.ref 130, .int (nI n), .int (nI w), .int (nI m), .int (nI u)] [.int ((nI m) / (nI (sF g u)))] h Q) from ⟨(nI_ne0 (n := (sF g u)) (by omega) (by omega)), ?_⟩)
        rw [show ((nI m) / (nI (sF g u)) : Int32) = nI (m / (sF g u)) from pk_div (a := m) (d := (sF g u)) (by omega) (by omega) (by omega)]
        refine exf_go 2 (show Go d true 220 34 [.ref 130, .int (nI n), .int (nI w), .int (nI (m / (sF g u))), .int ((nI u) + (-1))] [] h Q from ?_)
        rw [show ((nI u) + (-1) : Int32) = nI (u - 1) from nI_dec (n := u) (by omega)]
        refine exf_go 1 (show Go d true 220 12 [.ref 130, .int (nI n), .int (nI w), .int (nI (m / (sF g u))), .int (nI (u - 1))] [] h Q from ?_)
        exact ih12 (u - 1) (m / sF g u) (by omega) (by omega) (by rw [hm, Nat.div_div_eq_div_mul]; exact congrArg (n / ·) (by have e := aft_s g (w := u) (by omega); rw [show aft g (u + 1) = wor g u from rfl, show u = (u - 1) + 1 from by omega, show aft g (u - 1 + 1) = wor g (u - 1) from rfl] at e; rw [show u - 1 + 1 = u from by omega] at e; rw [e, Nat.mul_comm]))
  exact L12 (4 + 1) (sW g - 1) n (by omega) (by omega) (by have e := aft_W ms.1.1; rw [show sW g = (sW g - 1) + 1 from by omega] at e; rw [show wor g (sW g - 1) = 1 from e, Nat.div_one])
theorem m_turns {d : Nat} {h : Hp} {g : ShG} {l : LkG} {n1 n2 : Nat} {Q : Po} (ms : MS g l h) (hn : n1 < 2 ^ 31) (hn2 : n2 < 2 ^ 31) (k : Q (.int (nI (trn g n1 n2))) h) : wpC (d + 1) true 251 [.ref 130, .int (nI n1), .int (nI n2)] h Q := by
  have h4 := ms.1.1.1
  have hN := tot_b ms.1.1
  refine go_in rfl ?_
  refine exf_go 10 (show vp_in 1 41523 ∧ (Go d true 251 14 [.ref 130, .int (nI n1), .int (nI n2), .int 0, .int (nI n1), .int (nI n2), mk_, mk_, mk_] [.int (rI h 131 1)] h Q) from ⟨(vp_in_nI (n := 1) (by decide) (by decide)), ?_⟩)
  rw [show (rI h 131 1 : Int32) = nI (sW g) from ms_W ms]
  refine exf_go 2 (show Go d true 251 16 [.ref 130, .int (nI n1), .int (nI n2), .int 0, .int (nI n1), .int (nI n2), mk_, mk_, mk_] [.int ((nI (sW g)) - 1)] h Q from ?_)
  rw [show ((nI (sW g)) - 1 : Int32) = pI (sW g) from pI_sub _]
  refine exf_go 1 (show Go d true 251 18 [.ref 130, .int (nI n1), .int (nI n2), .int 0, .int (nI n1), .int (nI n2), .int (pI (sW g)), mk_, mk_] [] h Q from ?_)
  have L18 : ∀ (k18 : Nat) (z7 z8 : Value) (v a b m : Nat), v < k18 → (v ≤ sW g) → (a = n1 / aft g v) → (b = n2 / aft g v) → (m + sumN (fun w => tnw g w (fgo g n1 w) (fgo g n2 w)) v = trn g n1 n2) → Go d true 251 18 [.ref 130, .int (nI n1), .int (nI n2), .int (nI m), .int (nI a), .int (nI b), .int (pI v), z7, z8] [] h Q := by
    intro k18
    induction k18 with
    | zero => intro z7 z8 v a b m hk; exact absurd hk (Nat.not_lt_zero _)
    | succ k18 ih18 =>
      intro z7 z8 v a b m hk hv ha hb hm
      have hq1 := Nat.div_le_self n1 (aft g v); have hq2 := Nat.div_le_self n2 (aft g v); have htr := trn_b ms.1.1 n1 n2
      rcases v with _ | u
      · skip
        show Go d true 251 18 [.ref 130, .int (nI n1), .int (nI n2), .int (nI m), .int (nI a), .int (nI b), .int (-1), z7, z8] [] h Q
        refine exf_go 2 (show (((-1) : Int32) < 0 → Go d true 251 130 [.ref 130, .int (nI n1), .int (nI n2), .int (nI m), .int (nI a), .int (nI b), .int (-1), z7, z8] [] h Q) ∧ (¬ (((-1) : Int32) < 0) → Go d true 251 23 [.ref 130, .int (nI n1), .int (nI n2), .int (nI m), .int (nI a), .int (nI b), .int (-1), z7, z8] [] h Q) from ⟨fun c1 => ?_, fun c1 => ?_⟩)
        · skip
          refine exf_go 2 (show Q (.int (nI m)) h from ?_)
          first | exact absurd (show u < 0 by assumption) (Nat.not_lt_zero _) | (rw [show m = trn g n1 n2 from hm]; exact k)
        · skip
          exact absurd (by decide) c1
      · skip
        have hf := sF_b ms.1.1 u; have hs9 := sS_b ms.1.1 u; have hr1 := sR_b ms.1.1 u; have ea : a % sF g u = fgo g n1 u := by rw [ha]; rfl
        have eb : b % sF g u = fgo g n2 u := by rw [hb]; rfl
        have la := fgo_lt ms.1.1 n1 u; have lb := fgo_lt ms.1.1 n2 u
        show Go d true 251 18 [.ref 130, .int (nI n1), .int (nI n2), .int (nI m), .int (nI a), .int (nI b), .int (nI u), z7, z8] [] h Q
        refine exf_go 2 (show ((nI u) < 0 → Go d true 251 130 [.ref 130, .int (nI n1), .int (nI n2), .int (nI m), .int (nI a), .int (nI b), .int (nI u), z7, z8] [] h Q) ∧ (¬ ((nI u) < 0) → Go d true 251 23 [.ref 130, .int (nI n1), .int (nI n2), .int (nI m), .int (nI a), .int (nI b), .int (nI u), z7, z8] [] h Q) from ⟨fun c2 => ?_, fun c2 => ?_⟩)
        · skip
          have c2 : u < 0 := (nI_ltI (a := u) (b := 0) (by omega) (by omega)).mp c2
          refine exf_go 2 (show Q (.int (nI m)) h from ?_)
          first | exact absurd (show u < 0 by assumption) (Nat.not_lt_zero _) | (rw [show m = trn g n1 n2 from hm]; exact k)
        · skip
          have c2 : ¬ u < 0 := fun q => c2 ((nI_ltI (a := u) (b := 0) (by omega) (by omega)).mpr q)
          refine exf_go 5 (show Go d true 251 32 [.ref 130, .int (nI n1), .int (nI n2), .int (nI m), .int (nI a), .int (nI b), .int (nI u), z7, z8] [.int (10 + (nI u)), .ref 131] h Q from ?_)
          rw [show (10 + (nI u) : Int32) = nI (10 + u) from nI_add 10 u]
          refine exf_go 1 (show vp_in (nI (10 + u)) 41523 ∧ (Go d true 251 33 [.ref 130, .int (nI n1), .int (nI n2), .int (nI m), .int (nI a), .int (nI b), .int (nI u), z7, z8] [.int (rI h 131 ((nI (10 + u)).toNatClampNeg))] h Q) from ⟨(vp_in_nI (by omega) (by omega)), ?_⟩)
          rw [show (rI h 131 ((nI (10 + u)).toNatClampNeg) : Int32) = nI (sF g u) from ms_F ms (n := u) (by omega)]
          have := sF_b ms.1.1 u
          refine exf_go 4 (show ¬ (nI (sF g u)) = 0 ∧ (Go d true 251 40 [.ref 130, .int (nI n1), .int (nI n2), .int (nI m), .int (nI a), .int (nI b), .int (nI u), .int (nI (sF g u)), z8] [.int ((nI a) - (nI a) / (nI (sF g u)) * (nI (sF g u)))] h Q) from ⟨(nI_ne0 (n := (sF g u)) (by omega) (by omega)), ?_⟩)
          rw [show ((nI a) - (nI a) / (nI (sF g u)) * (nI (sF g u)) : Int32) = nI (a % (sF g u)) from pk_rem (a := a) (d := (sF g u)) (by omega) (by omega) (by omega)]
          refine exf_go 3 (show ¬ (nI (sF g u)) = 0 ∧ (Go d true 251 45 [.ref 130, .int (nI n1), .int (nI n2), .int (nI m), .int (nI a), .int (nI b), .int (nI u), .int (nI (sF g u)), z8] [.int ((nI b) - (nI b) / (nI (sF g u)) * (nI (sF g u))), .int (nI (a % (sF g u)))] h Q) from ⟨(nI_ne0 (n := (sF g u)) (by omega) (by omega)), ?_⟩)
          rw [show ((nI b) - (nI b) / (nI (sF g u)) * (nI (sF g u)) : Int32) = nI (b % (sF g u)) from pk_rem (a := b) (d := (sF g u)) (by omega) (by omega) (by omega)]
          refine exf_go 4 (show (0 ≤ ((nI (a % (sF g u))) - (nI (b % (sF g u)))) → Go d true 251 59 [.ref 130, .int (nI n1), .int (nI n2), .int (nI m), .int (nI a), .int (nI b), .int (nI u), .int (nI (sF g u)), .int ((nI (a % (sF g u))) - (nI (b % (sF g u))))] [] h Q) ∧ (¬ (0 ≤ ((nI (a % (sF g u))) - (nI (b % (sF g u))))) → Go d true 251 53 [.ref 130, .int (nI n1), .int (nI n2), .int (nI m), .int (nI a), .int (nI b), .int (nI u), .int (nI (sF g u)), .int ((nI (a % (sF g u))) - (nI (b % (sF g u))))] [] h Q) from ⟨fun c3 => ?_, fun c3 => ?_⟩)
          · skip
            have c3 := (nI_sub_nn (a := a % sF g u) (b := b % sF g u) (by omega) (by omega)).mp c3
            rw [pk_sub (a := a % sF g u) (b := b % sF g u) c3]
            refine exf_go 7 (show Go d true 251 72 [.ref 130, .int (nI n1), .int (nI n2), .int (nI m), .int (nI a), .int (nI b), .int (nI u), .int (nI (sF g u)), .int (nI (a % sF g u - b % sF g u))] [.int (18 + (nI u)), .ref 131] h Q from ?_)
            rw [show (18 + (nI u) : Int32) = nI (18 + u) from nI_add 18 u]
            refine exf_go 1 (show vp_in (nI (18 + u)) 41523 ∧ (Go d true 251 73 [.ref 130, .int (nI n1), .int (nI n2), .int (nI m), .int (nI a), .int (nI b), .int (nI u), .int (nI (sF g u)), .int (nI (a % sF g u - b % sF g u))] [.int (rI h 131 ((nI (18 + u)).toNatClampNeg))] h Q) from ⟨(vp_in_nI (by omega) (by omega)), ?_⟩)
            rw [show (rI h 131 ((nI (18 + u)).toNatClampNeg) : Int32) = nI (sR g u) from ms_R ms (n := u) (by omega)]
            refine exf_go 2 (show (¬ (nI (sR g u)) = 1 → Go d true 251 94 [.ref 130, .int (nI n1), .int (nI n2), .int (nI m), .int (nI a), .int (nI b), .int (nI u), .int (nI (sF g u)), .int (nI (a % sF g u - b % sF g u))] [] h Q) ∧ (¬ (¬ (nI (sR g u)) = 1) → Go d true 251 77 [.ref 130, .int (nI n1), .int (nI n2), .int (nI m), .int (nI a), .int (nI b), .int (nI u), .int (nI (sF g u)), .int (nI (a % sF g u - b % sF g u))] [] h Q) from ⟨fun c4 => ?_, fun c4 => ?_⟩)
            · skip
              have c4 : ¬ (sR g u) = 1 := fun q => c4 ((nI_eq (a := (sR g u)) (b := 1) (by omega) (by omega)).mpr q)
              refine exf_go 7 (show Go d true 251 106 [.ref 130, .int (nI n1), .int (nI n2), .int (nI m), .int (nI a), .int (nI b), .int (nI u), .int (nI (sF g u)), .int (nI (a % sF g u - b % sF g u))] [.int (14 + (nI u)), .ref 131, .int (nI (a % sF g u - b % sF g u)), .int (nI m)] h Q from ?_)
              rw [show (14 + (nI u) : Int32) = nI (14 + u) from nI_add 14 u]
              refine exf_go 1 (show vp_in (nI (14 + u)) 41523 ∧ (Go d true 251 107 [.ref 130, .int (nI n1), .int (nI n2), .int (nI m), .int (nI a), .int (nI b), .int (nI u), .int (nI (sF g u)), .int (nI (a % sF g u - b % sF g u))] [.int (rI h 131 ((nI (14 + u)).toNatClampNeg)), .int (nI (a % sF g u - b % sF g u)), .int (nI m)] h Q) from ⟨(vp_in_nI (by omega) (by omega)), ?_⟩)
              rw [show (rI h 131 ((nI (14 + u)).toNatClampNeg) : Int32) = nI (sS g u) from ms_S ms (n := u) (by omega)]
              refine exf_go 1 (show Go d true 251 108 [.ref 130, .int (nI n1), .int (nI n2), .int (nI m), .int (nI a), .int (nI b), .int (nI u), .int (nI (sF g u)), .int (nI (a % sF g u - b % sF g u))] [.int ((nI (a % sF g u - b % sF g u)) * (nI (sS g u))), .int (nI m)] h Q from ?_)
              rw [show ((nI (a % sF g u - b % sF g u)) * (nI (sS g u)) : Int32) = nI ((a % sF g u - b % sF g u) * (sS g u)) from pk_mul (a % sF g u - b % sF g u) (sS g u)]
              refine exf_go 1 (show Go d true 251 109 [.ref 130, .int (nI n1), .int (nI n2), .int (nI m), .int (nI a), .int (nI b), .int (nI u), .int (nI (sF g u)), .int (nI (a % sF g u - b % sF g u))] [.int ((nI m) + (nI ((a % sF g u - b % sF g u) * (sS g u))))] h Q from ?_)
              rw [show ((nI m) + (nI ((a % sF g u - b % sF g u) * (sS g u))) : Int32) = nI (m + ((a % sF g u - b % sF g u) * (sS g u))) from nI_add m ((a % sF g u - b % sF g u) * (sS g u))]
              refine exf_go 4 (show ¬ (nI (sF g u)) = 0 ∧ (Go d true 251 115 [.ref 130, .int (nI n1), .int (nI n2), .int (nI (m + ((a % sF g u - b % sF g u) * (sS g u)))), .int (nI a), .int (nI b), .int (nI u), .int (nI (sF g u)), .int (nI (a % sF g u - b % sF g u))] [.int ((nI a) / (nI (sF g u)))] h Q) from ⟨(nI_ne0 (n := (sF g u)) (by omega) (by omega)), ?_⟩)
              rw [show ((nI a) / (nI (sF g u)) : Int32) = nI (a / (sF g u)) from pk_div (a := a) (d := (sF g u)) (by omega) (by omega) (by omega)]
              refine exf_go 4 (show ¬ (nI (sF g u)) = 0 ∧ (Go d true 251 122 [.ref 130, .int (nI n1), .int (nI n2), .int (nI (m + ((a % sF g u - b % sF g u) * (sS g u)))), .int (nI (a / (sF g u))), .int (nI b), .int (nI u), .int (nI (sF g u)), .int (nI (a % sF g u - b % sF g u))] [.int ((nI b) / (nI (sF g u)))] h Q) from ⟨(nI_ne0 (n := (sF g u)) (by omega) (by omega)), ?_⟩)
              rw [show ((nI b) / (nI (sF g u)) : Int32) = nI (b / (sF g u)) from pk_div (a := b) (d := (sF g u)) (by omega) (by omega) (by omega)]
              refine exf_go 2 (show Go d true 251 127 [.ref 130, .int (nI n1), .int (nI n2), .int (nI (m + ((a % sF g u - b % sF g u) * (sS g u)))), .int (nI (a / (sF g u))), .int (nI (b / (sF g u))), .int ((nI u) + (-1)), .int (nI (sF g u)), .int (nI (a % sF g u - b % sF g u))] [] h Q from ?_)
              rw [show ((nI u) + (-1) : Int32) = pI u from pI_inc u]
              refine exf_go 1 (show Go d true 251 18 [.ref 130, .int (nI n1), .int (nI n2), .int (nI (m + ((a % sF g u - b % sF g u) * (sS g u)))), .int (nI (a / (sF g u))), .int (nI (b / (sF g u))), .int (pI u), .int (nI (sF g u)), .int (nI (a % sF g u - b % sF g u))] [] h Q from ?_)
              exact ih18 (.int (nI (sF g u))) (.int (nI (a % sF g u - b % sF g u))) u (a / sF g u) (b / sF g u) (m + ((a % sF g u - b % sF g u) * (sS g u))) (by omega) (by omega) (by rw [ha, Nat.div_div_eq_div_mul, aft_s g (w := u) (by omega), Nat.mul_comm]) (by rw [hb, Nat.div_div_eq_div_mul, aft_s g (w := u) (by omega), Nat.mul_comm]) (by rw [← hm, sumN, show tnw g u (fgo g n1 u) (fgo g n2 u) = (a % sF g u - b % sF g u) * (sS g u) from by rw [← ea, ← eb]; unfold tnw stw absd; (first | rw [if_pos (by assumption)] | rw [if_neg (by assumption)]); refine congrArg (· * sS g u) ?_; omega]; omega)
            · skip
              have c4 : (sR g u) = 1 := (nI_eq (a := (sR g u)) (b := 1) (by omega) (by omega)).mp (Classical.not_not.mp c4)
              refine exf_go 3 (show Go d true 251 82 [.ref 130, .int (nI n1), .int (nI n2), .int (nI m), .int (nI a), .int (nI b), .int (nI u), .int (nI (sF g u)), .int (nI (a % sF g u - b % sF g u))] [.int ((nI (sF g u)) - (nI (a % sF g u - b % sF g u)))] h Q from ?_)
              rw [show ((nI (sF g u)) - (nI (a % sF g u - b % sF g u)) : Int32) = nI ((sF g u) - (a % sF g u - b % sF g u)) from pk_sub (a := (sF g u)) (b := (a % sF g u - b % sF g u)) (by omega)]
              refine exf_go 2 (show ((nI (a % sF g u - b % sF g u)) ≤ (nI ((sF g u) - (a % sF g u - b % sF g u))) → Go d true 251 94 [.ref 130, .int (nI n1), .int (nI n2), .int (nI m), .int (nI a), .int (nI b), .int (nI u), .int (nI (sF g u)), .int (nI (a % sF g u - b % sF g u))] [] h Q) ∧ (¬ ((nI (a % sF g u - b % sF g u)) ≤ (nI ((sF g u) - (a % sF g u - b % sF g u)))) → Go d true 251 87 [.ref 130, .int (nI n1), .int (nI n2), .int (nI m), .int (nI a), .int (nI b), .int (nI u), .int (nI (sF g u)), .int (nI (a % sF g u - b % sF g u))] [] h Q) from ⟨fun c5 => ?_, fun c5 => ?_⟩)
              · skip
                have c5 : (a % sF g u - b % sF g u) ≤ ((sF g u) - (a % sF g u - b % sF g u)) := (nI_leI (a := (a % sF g u - b % sF g u)) (b := ((sF g u) - (a % sF g u - b % sF g u))) (by omega) (by omega)).mp c5
                refine exf_go 7 (show Go d true 251 106 [.ref 130, .int (nI n1), .int (nI n2), .int (nI m), .int (nI a), .int (nI b), .int (nI u), .int (nI (sF g u)), .int (nI (a % sF g u - b % sF g u))] [.int (14 + (nI u)), .ref 131, .int (nI (a % sF g u - b % sF g u)), .int (nI m)] h Q from ?_)
                rw [show (14 + (nI u) : Int32) = nI (14 + u) from nI_add 14 u]
                refine exf_go 1 (show vp_in (nI (14 + u)) 41523 ∧ (Go d true 251 107 [.ref 130, .int (nI n1), .int (nI n2), .int (nI m), .int (nI a), .int (nI b), .int (nI u), .int (nI (sF g u)), .int (nI (a % sF g u - b % sF g u))] [.int (rI h 131 ((nI (14 + u)).toNatClampNeg)), .int (nI (a % sF g u - b % sF g u)), .int (nI m)] h Q) from ⟨(vp_in_nI (by omega) (by omega)), ?_⟩)
                rw [show (rI h 131 ((nI (14 + u)).toNatClampNeg) : Int32) = nI (sS g u) from ms_S ms (n := u) (by omega)]
                refine exf_go 1 (show Go d true 251 108 [.ref 130, .int (nI n1), .int (nI n2), .int (nI m), .int (nI a), .int (nI b), .int (nI u), .int (nI (sF g u)), .int (nI (a % sF g u - b % sF g u))] [.int ((nI (a % sF g u - b % sF g u)) * (nI (sS g u))), .int (nI m)] h Q from ?_)
                rw [show ((nI (a % sF g u - b % sF g u)) * (nI (sS g u)) : Int32) = nI ((a % sF g u - b % sF g u) * (sS g u)) from pk_mul (a % sF g u - b % sF g u) (sS g u)]
                refine exf_go 1 (show Go d true 251 109 [.ref 130, .int (nI n1), .int (nI n2), .int (nI m), .int (nI a), .int (nI b), .int (nI u), .int (nI (sF g u)), .int (nI (a % sF g u - b % sF g u))] [.int ((nI m) + (nI ((a % sF g u - b % sF g u) * (sS g u))))] h Q from ?_)
                rw [show ((nI m) + (nI ((a % sF g u - b % sF g u) * (sS g u))) : Int32) = nI (m + ((a % sF g u - b % sF g u) * (sS g u))) from nI_add m ((a % sF g u - b % sF g u) * (sS g u))]
                refine exf_go 4 (show ¬ (nI (sF g u)) = 0 ∧ (Go d true 251 115 [.ref 130, .int (nI n1), .int (nI n2), .int (nI (m + ((a % sF g u - b % sF g u) * (sS g u)))), .int (nI a), .int (nI b), .int (nI u), .int (nI (sF g u)), .int (nI (a % sF g u - b % sF g u))] [.int ((nI a) / (nI (sF g u)))] h Q) from ⟨(nI_ne0 (n := (sF g u)) (by omega) (by omega)), ?_⟩)
                rw [show ((nI a) / (nI (sF g u)) : Int32) = nI (a / (sF g u)) from pk_div (a := a) (d := (sF g u)) (by omega) (by omega) (by omega)]
                refine exf_go 4 (show ¬ (nI (sF g u)) = 0 ∧ (Go d true 251 122 [.ref 130, .int (nI n1), .int (nI n2), .int (nI (m + ((a % sF g u - b % sF g u) * (sS g u)))), .int (nI (a / (sF g u))), .int (nI b), .int (nI u), .int (nI (sF g u)), .int (nI (a % sF g u - b % sF g u))] [.int ((nI b) / (nI (sF g u)))] h Q) from ⟨(nI_ne0 (n := (sF g u)) (by omega) (by omega)), ?_⟩)
                rw [show ((nI b) / (nI (sF g u)) : Int32) = nI (b / (sF g u)) from pk_div (a := b) (d := (sF g u)) (by omega) (by omega) (by omega)]
                refine exf_go 2 (show Go d true 251 127 [.ref 130, .int (nI n1), .int (nI n2), .int (nI (m + ((a % sF g u - b % sF g u) * (sS g u)))), .int (nI (a / (sF g u))), .int (nI (b / (sF g u))), .int ((nI u) + (-1)), .int (nI (sF g u)), .int (nI (a % sF g u - b % sF g u))] [] h Q from ?_)
                rw [show ((nI u) + (-1) : Int32) = pI u from pI_inc u]
                refine exf_go 1 (show Go d true 251 18 [.ref 130, .int (nI n1), .int (nI n2), .int (nI (m + ((a % sF g u - b % sF g u) * (sS g u)))), .int (nI (a / (sF g u))), .int (nI (b / (sF g u))), .int (pI u), .int (nI (sF g u)), .int (nI (a % sF g u - b % sF g u))] [] h Q from ?_)
                exact ih18 (.int (nI (sF g u))) (.int (nI (a % sF g u - b % sF g u))) u (a / sF g u) (b / sF g u) (m + ((a % sF g u - b % sF g u) * (sS g u))) (by omega) (by omega) (by rw [ha, Nat.div_div_eq_div_mul, aft_s g (w := u) (by omega), Nat.mul_comm]) (by rw [hb, Nat.div_div_eq_div_mul, aft_s g (w := u) (by omega), Nat.mul_comm]) (by rw [← hm, sumN, show tnw g u (fgo g n1 u) (fgo g n2 u) = (a % sF g u - b % sF g u) * (sS g u) from by rw [← ea, ← eb]; unfold tnw stw absd; (first | rw [if_pos (by assumption)] | rw [if_neg (by assumption)]); refine congrArg (· * sS g u) ?_; omega]; omega)
              · skip
                have c5 : ¬ (a % sF g u - b % sF g u) ≤ ((sF g u) - (a % sF g u - b % sF g u)) := fun q => c5 ((nI_leI (a := (a % sF g u - b % sF g u)) (b := ((sF g u) - (a % sF g u - b % sF g u))) (by omega) (by omega)).mpr q)
                refine exf_go 3 (show Go d true 251 92 [.ref 130, .int (nI n1), .int (nI n2), .int (nI m), .int (nI a), .int (nI b), .int (nI u), .int (nI (sF g u)), .int (nI (a % sF g u - b % sF g u))] [.int ((nI (sF g u)) - (nI (a % sF g u - b % sF g u)))] h Q from ?_)
                rw [show ((nI (sF g u)) - (nI (a % sF g u - b % sF g u)) : Int32) = nI ((sF g u) - (a % sF g u - b % sF g u)) from pk_sub (a := (sF g u)) (b := (a % sF g u - b % sF g u)) (by omega)]
                refine exf_go 8 (show Go d true 251 106 [.ref 130, .int (nI n1), .int (nI n2), .int (nI m), .int (nI a), .int (nI b), .int (nI u), .int (nI (sF g u)), .int (nI ((sF g u) - (a % sF g u - b % sF g u)))] [.int (14 + (nI u)), .ref 131, .int (nI ((sF g u) - (a % sF g u - b % sF g u))), .int (nI m)] h Q from ?_)
                rw [show (14 + (nI u) : Int32) = nI (14 + u) from nI_add 14 u]
                refine exf_go 1 (show vp_in (nI (14 + u)) 41523 ∧ (Go d true 251 107 [.ref 130, .int (nI n1), .int (nI n2), .int (nI m), .int (nI a), .int (nI b), .int (nI u), .int (nI (sF g u)), .int (nI ((sF g u) - (a % sF g u - b % sF g u)))] [.int (rI h 131 ((nI (14 + u)).toNatClampNeg)), .int (nI ((sF g u) - (a % sF g u - b % sF g u))), .int (nI m)] h Q) from ⟨(vp_in_nI (by omega) (by omega)), ?_⟩)
                rw [show (rI h 131 ((nI (14 + u)).toNatClampNeg) : Int32) = nI (sS g u) from ms_S ms (n := u) (by omega)]
                refine exf_go 1 (show Go d true 251 108 [.ref 130, .int (nI n1), .int (nI n2), .int (nI m), .int (nI a), .int (nI b), .int (nI u), .int (nI (sF g u)), .int (nI ((sF g u) - (a % sF g u - b % sF g u)))] [.int ((nI ((sF g u) - (a % sF g u - b % sF g u))) * (nI (sS g u))), .int (nI m)] h Q from ?_)
                rw [show ((nI ((sF g u) - (a % sF g u - b % sF g u))) * (nI (sS g u)) : Int32) = nI (((sF g u) - (a % sF g u - b % sF g u)) * (sS g u)) from pk_mul ((sF g u) - (a % sF g u - b % sF g u)) (sS g u)]
                refine exf_go 1 (show Go d true 251 109 [.ref 130, .int (nI n1), .int (nI n2), .int (nI m), .int (nI a), .int (nI b), .int (nI u), .int (nI (sF g u)), .int (nI ((sF g u) - (a % sF g u - b % sF g u)))] [.int ((nI m) + (nI (((sF g u) - (a % sF g u - b % sF g u)) * (sS g u))))] h Q from ?_)
                rw [show ((nI m) + (nI (((sF g u) - (a % sF g u - b % sF g u)) * (sS g u))) : Int32) = nI (m + (((sF g u) - (a % sF g u - b % sF g u)) * (sS g u))) from nI_add m (((sF g u) - (a % sF g u - b % sF g u)) * (sS g u))]
                refine exf_go 4 (show ¬ (nI (sF g u)) = 0 ∧ (Go d true 251 115 [.ref 130, .int (nI n1), .int (nI n2), .int (nI (m + (((sF g u) - (a % sF g u - b % sF g u)) * (sS g u)))), .int (nI a), .int (nI b), .int (nI u), .int (nI (sF g u)), .int (nI ((sF g u) - (a % sF g u - b % sF g u)))] [.int ((nI a) / (nI (sF g u)))] h Q) from ⟨(nI_ne0 (n := (sF g u)) (by omega) (by omega)), ?_⟩)
                rw [show ((nI a) / (nI (sF g u)) : Int32) = nI (a / (sF g u)) from pk_div (a := a) (d := (sF g u)) (by omega) (by omega) (by omega)]
                refine exf_go 4 (show ¬ (nI (sF g u)) = 0 ∧ (Go d true 251 122 [.ref 130, .int (nI n1), .int (nI n2), .int (nI (m + (((sF g u) - (a % sF g u - b % sF g u)) * (sS g u)))), .int (nI (a / (sF g u))), .int (nI b), .int (nI u), .int (nI (sF g u)), .int (nI ((sF g u) - (a % sF g u - b % sF g u)))] [.int ((nI b) / (nI (sF g u)))] h Q) from ⟨(nI_ne0 (n := (sF g u)) (by omega) (by omega)), ?_⟩)
                rw [show ((nI b) / (nI (sF g u)) : Int32) = nI (b / (sF g u)) from pk_div (a := b) (d := (sF g u)) (by omega) (by omega) (by omega)]
                refine exf_go 2 (show Go d true 251 127 [.ref 130, .int (nI n1), .int (nI n2), .int (nI (m + (((sF g u) - (a % sF g u - b % sF g u)) * (sS g u)))), .int (nI (a / (sF g u))), .int (nI (b / (sF g u))), .int ((nI u) + (-1)), .int (nI (sF g u)), .int (nI ((sF g u) - (a % sF g u - b % sF g u)))] [] h Q from ?_)
                rw [show ((nI u) + (-1) : Int32) = pI u from pI_inc u]
                refine exf_go 1 (show Go d true 251 18 [.ref 130, .int (nI n1), .int (nI n2), .int (nI (m + (((sF g u) - (a % sF g u - b % sF g u)) * (sS g u)))), .int (nI (a / (sF g u))), .int (nI (b / (sF g u))), .int (pI u), .int (nI (sF g u)), .int (nI ((sF g u) - (a % sF g u - b % sF g u)))] [] h Q from ?_)
                exact ih18 (.int (nI (sF g u))) (.int (nI ((sF g u) - (a % sF g u - b % sF g u)))) u (a / sF g u) (b / sF g u) (m + (((sF g u) - (a % sF g u - b % sF g u)) * (sS g u))) (by omega) (by omega) (by rw [ha, Nat.div_div_eq_div_mul, aft_s g (w := u) (by omega), Nat.mul_comm]) (by rw [hb, Nat.div_div_eq_div_mul, aft_s g (w := u) (by omega), Nat.mul_comm]) (by rw [← hm, sumN, show tnw g u (fgo g n1 u) (fgo g n2 u) = ((sF g u) - (a % sF g u - b % sF g u)) * (sS g u) from by rw [← ea, ← eb]; unfold tnw stw absd; (first | rw [if_pos (by assumption)] | rw [if_neg (by assumption)]); refine congrArg (· * sS g u) ?_; omega]; omega)
          · skip
            have c3 : ¬ b % sF g u ≤ a % sF g u := fun q => c3 ((nI_sub_nn (by omega) (by omega)).mpr q)
            refine exf_go 2 (show Go d true 251 56 [.ref 130, .int (nI n1), .int (nI n2), .int (nI m), .int (nI a), .int (nI b), .int (nI u), .int (nI (sF g u)), .int ((nI (a % (sF g u))) - (nI (b % (sF g u))))] [.int (-((nI (a % (sF g u))) - (nI (b % (sF g u)))))] h Q from ?_)
            rw [show (-((nI (a % (sF g u))) - (nI (b % (sF g u)))) : Int32) = nI (b % sF g u - a % sF g u) from by rw [nI_negsub]; exact pk_sub (by omega)]
            refine exf_go 7 (show Go d true 251 72 [.ref 130, .int (nI n1), .int (nI n2), .int (nI m), .int (nI a), .int (nI b), .int (nI u), .int (nI (sF g u)), .int (nI (b % sF g u - a % sF g u))] [.int (18 + (nI u)), .ref 131] h Q from ?_)
            rw [show (18 + (nI u) : Int32) = nI (18 + u) from nI_add 18 u]
            refine exf_go 1 (show vp_in (nI (18 + u)) 41523 ∧ (Go d true 251 73 [.ref 130, .int (nI n1), .int (nI n2), .int (nI m), .int (nI a), .int (nI b), .int (nI u), .int (nI (sF g u)), .int (nI (b % sF g u - a % sF g u))] [.int (rI h 131 ((nI (18 + u)).toNatClampNeg))] h Q) from ⟨(vp_in_nI (by omega) (by omega)), ?_⟩)
            rw [show (rI h 131 ((nI (18 + u)).toNatClampNeg) : Int32) = nI (sR g u) from ms_R ms (n := u) (by omega)]
            refine exf_go 2 (show (¬ (nI (sR g u)) = 1 → Go d true 251 94 [.ref 130, .int (nI n1), .int (nI n2), .int (nI m), .int (nI a), .int (nI b), .int (nI u), .int (nI (sF g u)), .int (nI (b % sF g u - a % sF g u))] [] h Q) ∧ (¬ (¬ (nI (sR g u)) = 1) → Go d true 251 77 [.ref 130, .int (nI n1), .int (nI n2), .int (nI m), .int (nI a), .int (nI b), .int (nI u), .int (nI (sF g u)), .int (nI (b % sF g u - a % sF g u))] [] h Q) from ⟨fun c6 => ?_, fun c6 => ?_⟩)
            · skip
              have c6 : ¬ (sR g u) = 1 := fun q => c6 ((nI_eq (a := (sR g u)) (b := 1) (by omega) (by omega)).mpr q)
              refine exf_go 7 (show Go d true 251 106 [.ref 130, .int (nI n1), .int (nI n2), .int (nI m), .int (nI a), .int (nI b), .int (nI u), .int (nI (sF g u)), .int (nI (b % sF g u - a % sF g u))] [.int (14 + (nI u)), .ref 131, .int (nI (b % sF g u - a % sF g u)), .int (nI m)] h Q from ?_)
              rw [show (14 + (nI u) : Int32) = nI (14 + u) from nI_add 14 u]
              refine exf_go 1 (show vp_in (nI (14 + u)) 41523 ∧ (Go d true 251 107 [.ref 130, .int (nI n1), .int (nI n2), .int (nI m), .int (nI a), .int (nI b), .int (nI u), .int (nI (sF g u)), .int (nI (b % sF g u - a % sF g u))] [.int (rI h 131 ((nI (14 + u)).toNatClampNeg)), .int (nI (b % sF g u - a % sF g u)), .int (nI m)] h Q) from ⟨(vp_in_nI (by omega) (by omega)), ?_⟩)
              rw [show (rI h 131 ((nI (14 + u)).toNatClampNeg) : Int32) = nI (sS g u) from ms_S ms (n := u) (by omega)]
              refine exf_go 1 (show Go d true 251 108 [.ref 130, .int (nI n1), .int (nI n2), .int (nI m), .int (nI a), .int (nI b), .int (nI u), .int (nI (sF g u)), .int (nI (b % sF g u - a % sF g u))] [.int ((nI (b % sF g u - a % sF g u)) * (nI (sS g u))), .int (nI m)] h Q from ?_)
              rw [show ((nI (b % sF g u - a % sF g u)) * (nI (sS g u)) : Int32) = nI ((b % sF g u - a % sF g u) * (sS g u)) from pk_mul (b % sF g u - a % sF g u) (sS g u)]
              refine exf_go 1 (show Go d true 251 109 [.ref 130, .int (nI n1), .int (nI n2), .int (nI m), .int (nI a), .int (nI b), .int (nI u), .int (nI (sF g u)), .int (nI (b % sF g u - a % sF g u))] [.int ((nI m) + (nI ((b % sF g u - a % sF g u) * (sS g u))))] h Q from ?_)
              rw [show ((nI m) + (nI ((b % sF g u - a % sF g u) * (sS g u))) : Int32) = nI (m + ((b % sF g u - a % sF g u) * (sS g u))) from nI_add m ((b % sF g u - a % sF g u) * (sS g u))]
              refine exf_go 4 (show ¬ (nI (sF g u)) = 0 ∧ (Go d true 251 115 [.ref 130, .int (nI n1), .int (nI n2), .int (nI (m + ((b % sF g u - a % sF g u) * (sS g u)))), .int (nI a), .int (nI b), .int (nI u), .int (nI (sF g u)), .int (nI (b % sF g u - a % sF g u))] [.int ((nI a) / (nI (sF g u)))] h Q) from ⟨(nI_ne0 (n := (sF g u)) (by omega) (by omega)), ?_⟩)
              rw [show ((nI a) / (nI (sF g u)) : Int32) = nI (a / (sF g u)) from pk_div (a := a) (d := (sF g u)) (by omega) (by omega) (by omega)]
              refine exf_go 4 (show ¬ (nI (sF g u)) = 0 ∧ (Go d true 251 122 [.ref 130, .int (nI n1), .int (nI n2), .int (nI (m + ((b % sF g u - a % sF g u) * (sS g u)))), .int (nI (a / (sF g u))), .int (nI b), .int (nI u), .int (nI (sF g u)), .int (nI (b % sF g u - a % sF g u))] [.int ((nI b) / (nI (sF g u)))] h Q) from ⟨(nI_ne0 (n := (sF g u)) (by omega) (by omega)), ?_⟩)
              rw [show ((nI b) / (nI (sF g u)) : Int32) = nI (b / (sF g u)) from pk_div (a := b) (d := (sF g u)) (by omega) (by omega) (by omega)]
              refine exf_go 2 (show Go d true 251 127 [.ref 130, .int (nI n1), .int (nI n2), .int (nI (m + ((b % sF g u - a % sF g u) * (sS g u)))), .int (nI (a / (sF g u))), .int (nI (b / (sF g u))), .int ((nI u) + (-1)), .int (nI (sF g u)), .int (nI (b % sF g u - a % sF g u))] [] h Q from ?_)
              rw [show ((nI u) + (-1) : Int32) = pI u from pI_inc u]
              refine exf_go 1 (show Go d true 251 18 [.ref 130, .int (nI n1), .int (nI n2), .int (nI (m + ((b % sF g u - a % sF g u) * (sS g u)))), .int (nI (a / (sF g u))), .int (nI (b / (sF g u))), .int (pI u), .int (nI (sF g u)), .int (nI (b % sF g u - a % sF g u))] [] h Q from ?_)
              exact ih18 (.int (nI (sF g u))) (.int (nI (b % sF g u - a % sF g u))) u (a / sF g u) (b / sF g u) (m + ((b % sF g u - a % sF g u) * (sS g u))) (by omega) (by omega) (by rw [ha, Nat.div_div_eq_div_mul, aft_s g (w := u) (by omega), Nat.mul_comm]) (by rw [hb, Nat.div_div_eq_div_mul, aft_s g (w := u) (by omega), Nat.mul_comm]) (by rw [← hm, sumN, show tnw g u (fgo g n1 u) (fgo g n2 u) = (b % sF g u - a % sF g u) * (sS g u) from by rw [← ea, ← eb]; unfold tnw stw absd; (first | rw [if_pos (by assumption)] | rw [if_neg (by assumption)]); refine congrArg (· * sS g u) ?_; omega]; omega)
            · skip
              have c6 : (sR g u) = 1 := (nI_eq (a := (sR g u)) (b := 1) (by omega) (by omega)).mp (Classical.not_not.mp c6)
              refine exf_go 3 (show Go d true 251 82 [.ref 130, .int (nI n1), .int (nI n2), .int (nI m), .int (nI a), .int (nI b), .int (nI u), .int (nI (sF g u)), .int (nI (b % sF g u - a % sF g u))] [.int ((nI (sF g u)) - (nI (b % sF g u - a % sF g u)))] h Q from ?_)
              rw [show ((nI (sF g u)) - (nI (b % sF g u - a % sF g u)) : Int32) = nI ((sF g u) - (b % sF g u - a % sF g u)) from pk_sub (a := (sF g u)) (b := (b % sF g u - a % sF g u)) (by omega)]
              refine exf_go 2 (show ((nI (b % sF g u - a % sF g u)) ≤ (nI ((sF g u) - (b % sF g u - a % sF g u))) → Go d true 251 94 [.ref 130, .int (nI n1), .int (nI n2), .int (nI m), .int (nI a), .int (nI b), .int (nI u), .int (nI (sF g u)), .int (nI (b % sF g u - a % sF g u))] [] h Q) ∧ (¬ ((nI (b % sF g u - a % sF g u)) ≤ (nI ((sF g u) - (b % sF g u - a % sF g u)))) → Go d true 251 87 [.ref 130, .int (nI n1), .int (nI n2), .int (nI m), .int (nI a), .int (nI b), .int (nI u), .int (nI (sF g u)), .int (nI (b % sF g u - a % sF g u))] [] h Q) from ⟨fun c7 => ?_, fun c7 => ?_⟩)
              · skip
                have c7 : (b % sF g u - a % sF g u) ≤ ((sF g u) - (b % sF g u - a % sF g u)) := (nI_leI (a := (b % sF g u - a % sF g u)) (b := ((sF g u) - (b % sF g u - a % sF g u))) (by omega) (by omega)).mp c7
                refine exf_go 7 (show Go d true 251 106 [.ref 130, .int (nI n1), .int (nI n2), .int (nI m), .int (nI a), .int (nI b), .int (nI u), .int (nI (sF g u)), .int (nI (b % sF g u - a % sF g u))] [.int (14 + (nI u)), .ref 131, .int (nI (b % sF g u - a % sF g u)), .int (nI m)] h Q from ?_)
                rw [show (14 + (nI u) : Int32) = nI (14 + u) from nI_add 14 u]
                refine exf_go 1 (show vp_in (nI (14 + u)) 41523 ∧ (Go d true 251 107 [.ref 130, .int (nI n1), .int (nI n2), .int (nI m), .int (nI a), .int (nI b), .int (nI u), .int (nI (sF g u)), .int (nI (b % sF g u - a % sF g u))] [.int (rI h 131 ((nI (14 + u)).toNatClampNeg)), .int (nI (b % sF g u - a % sF g u)), .int (nI m)] h Q) from ⟨(vp_in_nI (by omega) (by omega)), ?_⟩)
                rw [show (rI h 131 ((nI (14 + u)).toNatClampNeg) : Int32) = nI (sS g u) from ms_S ms (n := u) (by omega)]
                refine exf_go 1 (show Go d true 251 108 [.ref 130, .int (nI n1), .int (nI n2), .int (nI m), .int (nI a), .int (nI b), .int (nI u), .int (nI (sF g u)), .int (nI (b % sF g u - a % sF g u))] [.int ((nI (b % sF g u - a % sF g u)) * (nI (sS g u))), .int (nI m)] h Q from ?_)
                rw [show ((nI (b % sF g u - a % sF g u)) * (nI (sS g u)) : Int32) = nI ((b % sF g u - a % sF g u) * (sS g u)) from pk_mul (b % sF g u - a % sF g u) (sS g u)]
                refine exf_go 1 (show Go d true 251 109 [.ref 130, .int (nI n1), .int (nI n2), .int (nI m), .int (nI a), .int (nI b), .int (nI u), .int (nI (sF g u)), .int (nI (b % sF g u - a % sF g u))] [.int ((nI m) + (nI ((b % sF g u - a % sF g u) * (sS g u))))] h Q from ?_)
                rw [show ((nI m) + (nI ((b % sF g u - a % sF g u) * (sS g u))) : Int32) = nI (m + ((b % sF g u - a % sF g u) * (sS g u))) from nI_add m ((b % sF g u - a % sF g u) * (sS g u))]
                refine exf_go 4 (show ¬ (nI (sF g u)) = 0 ∧ (Go d true 251 115 [.ref 130, .int (nI n1), .int (nI n2), .int (nI (m + ((b % sF g u - a % sF g u) * (sS g u)))), .int (nI a), .int (nI b), .int (nI u), .int (nI (sF g u)), .int (nI (b % sF g u - a % sF g u))] [.int ((nI a) / (nI (sF g u)))] h Q) from ⟨(nI_ne0 (n := (sF g u)) (by omega) (by omega)), ?_⟩)
                rw [show ((nI a) / (nI (sF g u)) : Int32) = nI (a / (sF g u)) from pk_div (a := a) (d := (sF g u)) (by omega) (by omega) (by omega)]
                refine exf_go 4 (show ¬ (nI (sF g u)) = 0 ∧ (Go d true 251 122 [.ref 130, .int (nI n1), .int (nI n2), .int (nI (m + ((b % sF g u - a % sF g u) * (sS g u)))), .int (nI (a / (sF g u))), .int (nI b), .int (nI u), .int (nI (sF g u)), .int (nI (b % sF g u - a % sF g u))] [.int ((nI b) / (nI (sF g u)))] h Q) from ⟨(nI_ne0 (n := (sF g u)) (by omega) (by omega)), ?_⟩)
                rw [show ((nI b) / (nI (sF g u)) : Int32) = nI (b / (sF g u)) from pk_div (a := b) (d := (sF g u)) (by omega) (by omega) (by omega)]
                refine exf_go 2 (show Go d true 251 127 [.ref 130, .int (nI n1), .int (nI n2), .int (nI (m + ((b % sF g u - a % sF g u) * (sS g u)))), .int (nI (a / (sF g u))), .int (nI (b / (sF g u))), .int ((nI u) + (-1)), .int (nI (sF g u)), .int (nI (b % sF g u - a % sF g u))] [] h Q from ?_)
                rw [show ((nI u) + (-1) : Int32) = pI u from pI_inc u]
                refine exf_go 1 (show Go d true 251 18 [.ref 130, .int (nI n1), .int (nI n2), .int (nI (m + ((b % sF g u - a % sF g u) * (sS g u)))), .int (nI (a / (sF g u))), .int (nI (b / (sF g u))), .int (pI u), .int (nI (sF g u)), .int (nI (b % sF g u - a % sF g u))] [] h Q from ?_)
                exact ih18 (.int (nI (sF g u))) (.int (nI (b % sF g u - a % sF g u))) u (a / sF g u) (b / sF g u) (m + ((b % sF g u - a % sF g u) * (sS g u))) (by omega) (by omega) (by rw [ha, Nat.div_div_eq_div_mul, aft_s g (w := u) (by omega), Nat.mul_comm]) (by rw [hb, Nat.div_div_eq_div_mul, aft_s g (w := u) (by omega), Nat.mul_comm]) (by rw [← hm, sumN, show tnw g u (fgo g n1 u) (fgo g n2 u) = (b % sF g u - a % sF g u) * (sS g u) from by rw [← ea, ← eb]; unfold tnw stw absd; (first | rw [if_pos (by assumption)] | rw [if_neg (by assumption)]); refine congrArg (· * sS g u) ?_; omega]; omega)
              · skip
                have c7 : ¬ (b % sF g u - a % sF g u) ≤ ((sF g u) - (b % sF g u - a % sF g u)) := fun q => c7 ((nI_leI (a := (b % sF g u - a % sF g u)) (b := ((sF g u) - (b % sF g u - a % sF g u))) (by omega) (by omega)).mpr q)
                refine exf_go 3 (show Go d true 251 92 [.ref 130, .int (nI n1), .int (nI n2), .int (nI m), .int (nI a), .int (nI b), .int (nI u), .int (nI (sF g u)), .int (nI (b % sF g u - a % sF g u))] [.int ((nI (sF g u)) - (nI (b % sF g u - a % sF g u)))] h Q from ?_)
                rw [show ((nI (sF g u)) - (nI (b % sF g u - a % sF g u)) : Int32) = nI ((sF g u) - (b % sF g u - a % sF g u)) from pk_sub (a := (sF g u)) (b := (b % sF g u - a % sF g u)) (by omega)]
                refine exf_go 8 (show Go d true 251 106 [.ref 130, .int (nI n1), .int (nI n2), .int (nI m), .int (nI a), .int (nI b), .int (nI u), .int (nI (sF g u)), .int (nI ((sF g u) - (b % sF g u - a % sF g u)))] [.int (14 + (nI u)), .ref 131, .int (nI ((sF g u) - (b % sF g u - a % sF g u))), .int (nI m)] h Q from ?_)
                rw [show (14 + (nI u) : Int32) = nI (14 + u) from nI_add 14 u]
                refine exf_go 1 (show vp_in (nI (14 + u)) 41523 ∧ (Go d true 251 107 [.ref 130, .int (nI n1), .int (nI n2), .int (nI m), .int (nI a), .int (nI b), .int (nI u), .int (nI (sF g u)), .int (nI ((sF g u) - (b % sF g u - a % sF g u)))] [.int (rI h 131 ((nI (14 + u)).toNatClampNeg)), .int (nI ((sF g u) - (b % sF g u - a % sF g u))), .int (nI m)] h Q) from ⟨(vp_in_nI (by omega) (by omega)), ?_⟩)
                rw [show (rI h 131 ((nI (14 + u)).toNatClampNeg) : Int32) = nI (sS g u) from ms_S ms (n := u) (by omega)]
                refine exf_go 1 (show Go d true 251 108 [.ref 130, .int (nI n1), .int (nI n2), .int (nI m), .int (nI a), .int (nI b), .int (nI u), .int (nI (sF g u)), .int (nI ((sF g u) - (b % sF g u - a % sF g u)))] [.int ((nI ((sF g u) - (b % sF g u - a % sF g u))) * (nI (sS g u))), .int (nI m)] h Q from ?_)
                rw [show ((nI ((sF g u) - (b % sF g u - a % sF g u))) * (nI (sS g u)) : Int32) = nI (((sF g u) - (b % sF g u - a % sF g u)) * (sS g u)) from pk_mul ((sF g u) - (b % sF g u - a % sF g u)) (sS g u)]
                refine exf_go 1 (show Go d true 251 109 [.ref 130, .int (nI n1), .int (nI n2), .int (nI m), .int (nI a), .int (nI b), .int (nI u), .int (nI (sF g u)), .int (nI ((sF g u) - (b % sF g u - a % sF g u)))] [.int ((nI m) + (nI (((sF g u) - (b % sF g u - a % sF g u)) * (sS g u))))] h Q from ?_)
                rw [show ((nI m) + (nI (((sF g u) - (b % sF g u - a % sF g u)) * (sS g u))) : Int32) = nI (m + (((sF g u) - (b % sF g u - a % sF g u)) * (sS g u))) from nI_add m (((sF g u) - (b % sF g u - a % sF g u)) * (sS g u))]
                refine exf_go 4 (show ¬ (nI (sF g u)) = 0 ∧ (Go d true 251 115 [.ref 130, .int (nI n1), .int (nI n2), .int (nI (m + (((sF g u) - (b % sF g u - a % sF g u)) * (sS g u)))), .int (nI a), .int (nI b), .int (nI u), .int (nI (sF g u)), .int (nI ((sF g u) - (b % sF g u - a % sF g u)))] [.int ((nI a) / (nI (sF g u)))] h Q) from ⟨(nI_ne0 (n := (sF g u)) (by omega) (by omega)), ?_⟩)
                rw [show ((nI a) / (nI (sF g u)) : Int32) = nI (a / (sF g u)) from pk_div (a := a) (d := (sF g u)) (by omega) (by omega) (by omega)]
                refine exf_go 4 (show ¬ (nI (sF g u)) = 0 ∧ (Go d true 251 122 [.ref 130, .int (nI n1), .int (nI n2), .int (nI (m + (((sF g u) - (b % sF g u - a % sF g u)) * (sS g u)))), .int (nI (a / (sF g u))), .int (nI b), .int (nI u), .int (nI (sF g u)), .int (nI ((sF g u) - (b % sF g u - a % sF g u)))] [.int ((nI b) / (nI (sF g u)))] h Q) from ⟨(nI_ne0 (n := (sF g u)) (by omega) (by omega)), ?_⟩)
                rw [show ((nI b) / (nI (sF g u)) : Int32) = nI (b / (sF g u)) from pk_div (a := b) (d := (sF g u)) (by omega) (by omega) (by omega)]
                refine exf_go 2 (show Go d true 251 127 [.ref 130, .int (nI n1), .int (nI n2), .int (nI (m + (((sF g u) - (b % sF g u - a % sF g u)) * (sS g u)))), .int (nI (a / (sF g u))), .int (nI (b / (sF g u))), .int ((nI u) + (-1)), .int (nI (sF g u)), .int (nI ((sF g u) - (b % sF g u - a % sF g u)))] [] h Q from ?_)
                rw [show ((nI u) + (-1) : Int32) = pI u from pI_inc u]
                refine exf_go 1 (show Go d true 251 18 [.ref 130, .int (nI n1), .int (nI n2), .int (nI (m + (((sF g u) - (b % sF g u - a % sF g u)) * (sS g u)))), .int (nI (a / (sF g u))), .int (nI (b / (sF g u))), .int (pI u), .int (nI (sF g u)), .int (nI ((sF g u) - (b % sF g u - a % sF g u)))] [] h Q from ?_)
                exact ih18 (.int (nI (sF g u))) (.int (nI ((sF g u) - (b % sF g u - a % sF g u)))) u (a / sF g u) (b / sF g u) (m + (((sF g u) - (b % sF g u - a % sF g u)) * (sS g u))) (by omega) (by omega) (by rw [ha, Nat.div_div_eq_div_mul, aft_s g (w := u) (by omega), Nat.mul_comm]) (by rw [hb, Nat.div_div_eq_div_mul, aft_s g (w := u) (by omega), Nat.mul_comm]) (by rw [← hm, sumN, show tnw g u (fgo g n1 u) (fgo g n2 u) = ((sF g u) - (b % sF g u - a % sF g u)) * (sS g u) from by rw [← ea, ← eb]; unfold tnw stw absd; (first | rw [if_pos (by assumption)] | rw [if_neg (by assumption)]); refine congrArg (· * sS g u) ?_; omega]; omega)
  exact L18 (4 + 1) mk_ mk_ (sW g) n1 n2 0 (by omega) (Nat.le_refl _) (by rw [aft_W ms.1.1, Nat.div_one]) (by rw [aft_W ms.1.1, Nat.div_one]) (Nat.zero_add _)
theorem ix64 {x : Int32} : x.toInt64.toInt = x.toInt := Int32.toInt_toInt64 x
theorem wi_in {x : Int32} {n : Nat} (hn : n < 2 ^ 31) (h1 : ¬ x.toInt64 < 0) (h2 : ¬ (pI n).toInt64 < x.toInt64) : ∃ j, ixN x n = some j ∧ x = nI j ∧ j < n := by
  have a : ¬ x < 0 := fun q => h1 (by rw [Int64.lt_iff_toInt_lt, ix64]; exact Int32.lt_iff_toInt_lt.mp q)
  refine ix_in hn a (fun q => h2 ?_)
  rw [Int64.lt_iff_toInt_lt, ix64, ix64]
  rw [Int32.le_iff_toInt_le, nI_toInt hn] at q
  cases n with
  | zero => show (-1 : Int) < x.toInt; omega
  | succ n => show (nI n).toInt < x.toInt; rw [nI_toInt (by omega)]; omega
theorem wi_neg {x : Int32} {n : Nat} (h1 : x.toInt64 < 0) : ixN x n = none := by
  apply ix_neg
  rw [Int64.lt_iff_toInt_lt, ix64] at h1
  exact Int32.lt_iff_toInt_lt.mpr h1
theorem wi_ge {x : Int32} {n : Nat} (hn : n < 2 ^ 31) (h2 : (pI n).toInt64 < x.toInt64) : ixN x n = none := by
  apply ix_ge
  rw [Int64.lt_iff_toInt_lt, ix64, ix64] at h2
  rw [Int32.le_iff_toInt_le, nI_toInt hn]
  cases n with
  | zero => have h3 : (-1 : Int) < x.toInt := h2; show (0 : Int) ≤ x.toInt; omega
  | succ n => have h3 : (nI n).toInt < x.toInt := h2; rw [nI_toInt (by omega)] at h3; omega
theorem m_within {d : Nat} {h : Hp} {a b c : Int64} {Q : Po} (k1 : ¬ a < b → ¬ c < a → Q (.int 1) h) (k0 : a < b ∨ c < a → Q (.int 0) h) : wpC (d + 1) true 183 [.long a, .long b, .long c] h Q := by
  refine go_in rfl ?_
  refine exf_go 4 (show ((lg_cmp a b) < 0 → Go d true 183 17 [.long a, mk_, .long b, mk_, .long c, mk_] [] h Q) ∧ (¬ ((lg_cmp a b) < 0) → Go d true 183 6 [.long a, mk_, .long b, mk_, .long c, mk_] [] h Q) from ⟨fun c1 => ?_, fun c1 => ?_⟩)
  · skip
    have c1 : a < b := (lg_cmp_lt _ _).mp c1
    refine exf_go 2 (show ((0 : Int32) = 0 ∨ (0 : Int32) = 1) ∧ Q (.int 0) h from ⟨(by first | exact Or.inl rfl | exact Or.inr rfl | assumption), ?_⟩)
    first | exact k0 (Or.inl c1) | exact k0 (Or.inr c2)
  · skip
    have c1 : ¬ (a < b) := fun q => c1 ((lg_cmp_lt _ _).mpr q)
    refine exf_go 4 (show (0 < (lg_cmp a c) → Go d true 183 17 [.long a, mk_, .long b, mk_, .long c, mk_] [] h Q) ∧ (¬ (0 < (lg_cmp a c)) → Go d true 183 13 [.long a, mk_, .long b, mk_, .long c, mk_] [] h Q) from ⟨fun c2 => ?_, fun c2 => ?_⟩)
    · skip
      have c2 : c < a := (lg_cmp_gt _ _).mp c2
      refine exf_go 2 (show ((0 : Int32) = 0 ∨ (0 : Int32) = 1) ∧ Q (.int 0) h from ⟨(by first | exact Or.inl rfl | exact Or.inr rfl | assumption), ?_⟩)
      first | exact k0 (Or.inl c1) | exact k0 (Or.inr c2)
    · skip
      have c2 : ¬ (c < a) := fun q => c2 ((lg_cmp_gt _ _).mpr q)
      refine exf_go 3 (show ((1 : Int32) = 0 ∨ (1 : Int32) = 1) ∧ Q (.int 1) h from ⟨(by first | exact Or.inl rfl | exact Or.inr rfl | assumption), ?_⟩)
      exact k1 c1 c2
theorem m_isWheel {d : Nat} {h : Hp} {g : ShG} {l : LkG} {x : Int32} {Q : Po} (ms : MS g l h) (k1 : ∀ j, ixN x (sW g) = some j → x = nI j → j < sW g → Q (.int 1) h) (k0 : ixN x (sW g) = none → Q (.int 0) h) : wpC (d + 2) true 219 [.ref 130, .int x] h Q := by
  refine go_in rfl ?_
  refine exf_go 7 (show vp_in 1 41523 ∧ (Go (d + 1) true 219 9 [.ref 130, .int x] [.int (rI h 131 1), .long 0, .long x.toInt64] h Q) from ⟨(vp_in_nI (n := 1) (by decide) (by decide)), ?_⟩)
  rw [show (rI h 131 1 : Int32) = nI (sW g) from ms_W ms]
  refine exf_go 2 (show Go (d + 1) true 219 11 [.ref 130, .int x] [.int ((nI (sW g)) - 1), .long 0, .long x.toInt64] h Q from ?_)
  rw [show ((nI (sW g)) - 1 : Int32) = pI (sW g) from pI_sub _]
  refine exf_go 2 (show wpC (d + 1) true 183 [.long x.toInt64, .long 0, .long ((pI (sW g)).toInt64)] h (fun r h' => Go (d + 1) true 219 15 [.ref 130, .int x] [r] h' Q) from ?_)
  refine m_within (fun u1 v1 => ?_) (fun u1 => ?_)
  · skip
    show Go (d + 1) true 219 15 [.ref 130, .int x] [.int 1] h Q
    refine exf_go 1 (show ((1 : Int32) = 0 ∨ (1 : Int32) = 1) ∧ Q (.int 1) h from ⟨(by first | exact Or.inl rfl | exact Or.inr rfl | assumption), ?_⟩)
    obtain ⟨j, e1, e2, e3⟩ := wi_in (by have := ms.1.1.1; omega) u1 v1
    exact k1 j e1 e2 e3
  · skip
    show Go (d + 1) true 219 15 [.ref 130, .int x] [.int 0] h Q
    refine exf_go 1 (show ((0 : Int32) = 0 ∨ (0 : Int32) = 1) ∧ Q (.int 0) h from ⟨(by first | exact Or.inl rfl | exact Or.inr rfl | assumption), ?_⟩)
    exact k0 (u1.elim wi_neg (wi_ge (by have := ms.1.1.1; omega)))
theorem m_isMate {d : Nat} {h : Hp} {g : ShG} {l : LkG} {x : Int32} {Q : Po} (ms : MS g l h) (k1 : ∀ j, ixN x (sM g) = some j → x = nI j → j < sM g → Q (.int 1) h) (k0 : ixN x (sM g) = none → Q (.int 0) h) : wpC (d + 2) true 276 [.ref 130, .int x] h Q := by
  refine go_in rfl ?_
  refine exf_go 7 (show vp_in 3 41523 ∧ (Go (d + 1) true 276 9 [.ref 130, .int x] [.int (rI h 131 3), .long 0, .long x.toInt64] h Q) from ⟨(vp_in_nI (n := 3) (by decide) (by decide)), ?_⟩)
  rw [show (rI h 131 3 : Int32) = nI (sM g) from ms_M ms]
  refine exf_go 2 (show Go (d + 1) true 276 11 [.ref 130, .int x] [.int ((nI (sM g)) - 1), .long 0, .long x.toInt64] h Q from ?_)
  rw [show ((nI (sM g)) - 1 : Int32) = pI (sM g) from pI_sub _]
  refine exf_go 2 (show wpC (d + 1) true 183 [.long x.toInt64, .long 0, .long ((pI (sM g)).toInt64)] h (fun r h' => Go (d + 1) true 276 15 [.ref 130, .int x] [r] h' Q) from ?_)
  refine m_within (fun u1 v1 => ?_) (fun u1 => ?_)
  · skip
    show Go (d + 1) true 276 15 [.ref 130, .int x] [.int 1] h Q
    refine exf_go 1 (show ((1 : Int32) = 0 ∨ (1 : Int32) = 1) ∧ Q (.int 1) h from ⟨(by first | exact Or.inl rfl | exact Or.inr rfl | assumption), ?_⟩)
    obtain ⟨j, e1, e2, e3⟩ := wi_in (by have := ms.1.1.2.2.2.2.2.1; omega) u1 v1
    exact k1 j e1 e2 e3
  · skip
    show Go (d + 1) true 276 15 [.ref 130, .int x] [.int 0] h Q
    refine exf_go 1 (show ((0 : Int32) = 0 ∨ (0 : Int32) = 1) ∧ Q (.int 0) h from ⟨(by first | exact Or.inl rfl | exact Or.inr rfl | assumption), ?_⟩)
    exact k0 (u1.elim wi_neg (wi_ge (by have := ms.1.1.2.2.2.2.2.1; omega)))
theorem m_isNumber {d : Nat} {h : Hp} {g : ShG} {l : LkG} {x : Int32} {Q : Po} (ms : MS g l h) (k1 : ∀ j, ixN x (tot g) = some j → x = nI j → j < tot g → Q (.int 1) h) (k0 : ixN x (tot g) = none → Q (.int 0) h) : wpC (d + 2) true 218 [.ref 130, .long x.toInt64] h Q := by
  refine go_in rfl ?_
  refine exf_go 6 (show vp_in 4 41523 ∧ (Go (d + 1) true 218 8 [.ref 130, .long x.toInt64, mk_] [.int (rI h 131 4), .long 0, .long x.toInt64] h Q) from ⟨(vp_in_nI (n := 4) (by decide) (by decide)), ?_⟩)
  rw [show (rI h 131 4 : Int32) = nI (tot g) from ms_N ms]
  refine exf_go 2 (show Go (d + 1) true 218 10 [.ref 130, .long x.toInt64, mk_] [.int ((nI (tot g)) - 1), .long 0, .long x.toInt64] h Q from ?_)
  rw [show ((nI (tot g)) - 1 : Int32) = pI (tot g) from pI_sub _]
  refine exf_go 2 (show wpC (d + 1) true 183 [.long x.toInt64, .long 0, .long ((pI (tot g)).toInt64)] h (fun r h' => Go (d + 1) true 218 14 [.ref 130, .long x.toInt64, mk_] [r] h' Q) from ?_)
  refine m_within (fun u1 v1 => ?_) (fun u1 => ?_)
  · skip
    show Go (d + 1) true 218 14 [.ref 130, .long x.toInt64, mk_] [.int 1] h Q
    refine exf_go 1 (show ((1 : Int32) = 0 ∨ (1 : Int32) = 1) ∧ Q (.int 1) h from ⟨(by first | exact Or.inl rfl | exact Or.inr rfl | assumption), ?_⟩)
    obtain ⟨j, e1, e2, e3⟩ := wi_in (by have := tot_b ms.1.1; omega) u1 v1
    exact k1 j e1 e2 e3
  · skip
    show Go (d + 1) true 218 14 [.ref 130, .long x.toInt64, mk_] [.int 0] h Q
    refine exf_go 1 (show ((0 : Int32) = 0 ∨ (0 : Int32) = 1) ∧ Q (.int 0) h from ⟨(by first | exact Or.inl rfl | exact Or.inr rfl | assumption), ?_⟩)
    exact k0 (u1.elim wi_neg (wi_ge (by have := tot_b ms.1.1; omega)))
theorem m_every {d : Nat} {h : Hp} {g : ShG} {l : LkG} {Q : Po} (ms : MS g l h) (k : Q (.int (nI (evr g))) h) : wpC (d + 1) true 223 [.ref 130] h Q := by
  have h8 := ms.1.1.2.2.2.1
  have he := evr_b ms.1.1
  refine go_in rfl ?_
  refine exf_go 5 (show vp_in 2 41523 ∧ (Go d true 223 7 [.ref 130] [.int (rI h 131 2), .int 1] h Q) from ⟨(vp_in_nI (n := 2) (by decide) (by decide)), ?_⟩)
  rw [show (rI h 131 2 : Int32) = nI (sC g) from ms_C ms]
  refine exf_go 1 (show Go d true 223 8 [.ref 130] [.int (1 <<< ((nI (sC g)) &&& 31))] h Q from ?_)
  rw [show (1 <<< ((nI (sC g)) &&& 31) : Int32) = nI (2 ^ (sC g)) from nI_1shl (k := (sC g)) (by omega)]
  refine exf_go 2 (show Go d true 223 10 [.ref 130] [.int ((nI (2 ^ (sC g))) - 1)] h Q from ?_)
  rw [show ((nI (2 ^ (sC g))) - 1 : Int32) = nI ((2 ^ (sC g)) - 1) from pk_sub (a := (2 ^ (sC g))) (b := 1) (by omega)]
  refine exf_go 1 (show Q (.int (nI ((2 ^ (sC g)) - 1))) h from ?_)
  exact k
theorem m_weightBy {d : Nat} {h : Hp} {g : ShG} {l : LkG} {kn mk : Nat} {Q : Po} (ms : MS g l h) (h1 : kn < 256) (h2 : mk < 256) (k : Q (.long (lN (wtK g kn mk))) h) : wpC (d + 2) true 222 [.ref 130, .int (nI kn), .int (nI mk)] h Q := by
  have h8 := ms.1.1.2.2.2.1
  refine go_in rfl ?_
  refine exf_go 4 (show Go (d + 1) true 222 5 [.ref 130, .int (nI kn), .int (nI mk), .long 1, mk_, .int 0] [] h Q from ?_)
  have L5 : ∀ (k5 : Nat) (c m : Nat), (sC g - c) < k5 → (c ≤ sC g) → (m = wt g kn mk c) → Go (d + 1) true 222 5 [.ref 130, .int (nI kn), .int (nI mk), .long (lN m), mk_, .int (nI c)] [] h Q := by
    intro k5
    induction k5 with
    | zero => intro c m hk; exact absurd hk (Nat.not_lt_zero _)
    | succ k5 ih5 =>
      intro c m hk hc hm
      have ht := ms.1.1.2.2.2.2.1 c
      refine exf_go 5 (show vp_in 2 41523 ∧ (Go (d + 1) true 222 13 [.ref 130, .int (nI kn), .int (nI mk), .long (lN m), mk_, .int (nI c)] [.int (rI h 131 2), .int (nI c)] h Q) from ⟨(vp_in_nI (n := 2) (by decide) (by decide)), ?_⟩)
      rw [show (rI h 131 2 : Int32) = nI (sC g) from ms_C ms]
      refine exf_go 1 (show ((nI (sC g)) ≤ (nI c) → Go (d + 1) true 222 73 [.ref 130, .int (nI kn), .int (nI mk), .long (lN m), mk_, .int (nI c)] [] h Q) ∧ (¬ ((nI (sC g)) ≤ (nI c)) → Go (d + 1) true 222 16 [.ref 130, .int (nI kn), .int (nI mk), .long (lN m), mk_, .int (nI c)] [] h Q) from ⟨fun c1 => ?_, fun c1 => ?_⟩)
      · skip
        have c1 : (sC g) ≤ c := (nI_leI (a := (sC g)) (b := c) (by omega) (by omega)).mp c1
        refine exf_go 2 (show Q (.long (lN m)) h from ?_)
        rw [hm, show c = sC g from by omega]; exact k
      · skip
        have c1 : ¬ (sC g) ≤ c := fun q => c1 ((nI_leI (a := (sC g)) (b := c) (by omega) (by omega)).mpr q)
        refine exf_go 2 (show Go (d + 1) true 222 18 [.ref 130, .int (nI kn), .int (nI mk), .long (lN m), mk_, .int (nI c)] [.long ((nI kn).toInt64)] h Q from ?_)
        rw [show ((nI kn).toInt64 : Int64) = lN kn from nI_l (n := kn) (by omega)]
        refine exf_go 2 (show wpC (d + 1) true 196 [.long (lN kn), .int (nI c)] h (fun r h' => Go (d + 1) true 222 23 [.ref 130, .int (nI kn), .int (nI mk), .long (lN m), mk_, .int (nI c)] [r] h' Q) from ?_)
        refine m_isIn (s := kn) (j := c) (by omega) (by omega) (fun b2 => ?_) (fun b2 => ?_)
        · skip
          show Go (d + 1) true 222 23 [.ref 130, .int (nI kn), .int (nI mk), .long (lN m), mk_, .int (nI c)] [.int 1] h Q
          refine exf_go 1 (show ((1 : Int32) = 0 → Go (d + 1) true 222 67 [.ref 130, .int (nI kn), .int (nI mk), .long (lN m), mk_, .int (nI c)] [] h Q) ∧ (¬ ((1 : Int32) = 0) → Go (d + 1) true 222 26 [.ref 130, .int (nI kn), .int (nI mk), .long (lN m), mk_, .int (nI c)] [] h Q) from ⟨fun c3 => ?_, fun c3 => ?_⟩)
          · skip
            exact absurd c3 (by decide)
          · skip
            refine exf_go 3 (show Go (d + 1) true 222 29 [.ref 130, .int (nI kn), .int (nI mk), .long (lN m), mk_, .int (nI c)] [.long ((nI mk).toInt64), .long (lN m)] h Q from ?_)
            rw [show ((nI mk).toInt64 : Int64) = lN mk from nI_l (n := mk) (by omega)]
            refine exf_go 2 (show wpC (d + 1) true 196 [.long (lN mk), .int (nI c)] h (fun r h' => Go (d + 1) true 222 34 [.ref 130, .int (nI kn), .int (nI mk), .long (lN m), mk_, .int (nI c)] [r, .long (lN m)] h' Q) from ?_)
            refine m_isIn (s := mk) (j := c) (by omega) (by omega) (fun b4 => ?_) (fun b4 => ?_)
            · skip
              show Go (d + 1) true 222 34 [.ref 130, .int (nI kn), .int (nI mk), .long (lN m), mk_, .int (nI c)] [.int 1, .long (lN m)] h Q
              refine exf_go 1 (show ((1 : Int32) = 0 → Go (d + 1) true 222 51 [.ref 130, .int (nI kn), .int (nI mk), .long (lN m), mk_, .int (nI c)] [.long (lN m)] h Q) ∧ (¬ ((1 : Int32) = 0) → Go (d + 1) true 222 37 [.ref 130, .int (nI kn), .int (nI mk), .long (lN m), mk_, .int (nI c)] [.long (lN m)] h Q) from ⟨fun c5 => ?_, fun c5 => ?_⟩)
              · skip
                exact absurd c5 (by decide)
              · skip
                refine exf_go 5 (show Go (d + 1) true 222 46 [.ref 130, .int (nI kn), .int (nI mk), .long (lN m), mk_, .int (nI c)] [.int (22 + (nI c)), .ref 131, .long (lN m)] h Q from ?_)
                rw [show (22 + (nI c) : Int32) = nI (22 + c) from nI_add 22 c]
                refine exf_go 1 (show vp_in (nI (22 + c)) 41523 ∧ (Go (d + 1) true 222 47 [.ref 130, .int (nI kn), .int (nI mk), .long (lN m), mk_, .int (nI c)] [.int (rI h 131 ((nI (22 + c)).toNatClampNeg)), .long (lN m)] h Q) from ⟨(vp_in_nI (by omega) (by omega)), ?_⟩)
                rw [show (rI h 131 ((nI (22 + c)).toNatClampNeg) : Int32) = nI (sT g c) from ms_T ms (n := c) (by omega)]
                refine exf_go 1 (show Go (d + 1) true 222 48 [.ref 130, .int (nI kn), .int (nI mk), .long (lN m), mk_, .int (nI c)] [.long ((nI (sT g c)).toInt64), .long (lN m)] h Q from ?_)
                rw [show ((nI (sT g c)).toInt64 : Int64) = lN (sT g c) from nI_l (n := (sT g c)) (by omega)]
                refine exf_go 2 (show Go (d + 1) true 222 66 [.ref 130, .int (nI kn), .int (nI mk), .long (lN m), mk_, .int (nI c)] [.long ((lN m) * (lN (sT g c)))] h Q from ?_)
                rw [show ((lN m) * (lN (sT g c)) : Int64) = lN (m * (sT g c)) from lN_mul m (sT g c)]
                refine exf_go 2 (show Go (d + 1) true 222 70 [.ref 130, .int (nI kn), .int (nI mk), .long (lN (m * (sT g c))), mk_, .int ((nI c) + 1)] [] h Q from ?_)
                rw [show ((nI c) + 1 : Int32) = nI (c + 1) from nI_add c 1]
                refine exf_go 1 (show Go (d + 1) true 222 5 [.ref 130, .int (nI kn), .int (nI mk), .long (lN (m * (sT g c))), mk_, .int (nI (c + 1))] [] h Q from ?_)
                exact ih5 (c + 1) (m * (sT g c)) (by omega) (by omega) (by rw [hm, wt, wtf]; first | (rw [if_pos (by assumption), if_pos (by assumption)]; done) | (rw [if_pos (by assumption), if_neg (by omega)]; done) | (rw [if_neg (by omega), Nat.mul_one]; done))
            · skip
              show Go (d + 1) true 222 34 [.ref 130, .int (nI kn), .int (nI mk), .long (lN m), mk_, .int (nI c)] [.int 0, .long (lN m)] h Q
              refine exf_go 1 (show ((0 : Int32) = 0 → Go (d + 1) true 222 51 [.ref 130, .int (nI kn), .int (nI mk), .long (lN m), mk_, .int (nI c)] [.long (lN m)] h Q) ∧ (¬ ((0 : Int32) = 0) → Go (d + 1) true 222 37 [.ref 130, .int (nI kn), .int (nI mk), .long (lN m), mk_, .int (nI c)] [.long (lN m)] h Q) from ⟨fun c6 => ?_, fun c6 => ?_⟩)
              · skip
                refine exf_go 6 (show Go (d + 1) true 222 62 [.ref 130, .int (nI kn), .int (nI mk), .long (lN m), mk_, .int (nI c)] [.int (22 + (nI c)), .ref 131, .int 10, .long (lN m)] h Q from ?_)
                rw [show (22 + (nI c) : Int32) = nI (22 + c) from nI_add 22 c]
                refine exf_go 1 (show vp_in (nI (22 + c)) 41523 ∧ (Go (d + 1) true 222 63 [.ref 130, .int (nI kn), .int (nI mk), .long (lN m), mk_, .int (nI c)] [.int (rI h 131 ((nI (22 + c)).toNatClampNeg)), .int 10, .long (lN m)] h Q) from ⟨(vp_in_nI (by omega) (by omega)), ?_⟩)
                rw [show (rI h 131 ((nI (22 + c)).toNatClampNeg) : Int32) = nI (sT g c) from ms_T ms (n := c) (by omega)]
                refine exf_go 1 (show Go (d + 1) true 222 64 [.ref 130, .int (nI kn), .int (nI mk), .long (lN m), mk_, .int (nI c)] [.int (10 - (nI (sT g c))), .long (lN m)] h Q from ?_)
                rw [show (10 - (nI (sT g c)) : Int32) = nI (10 - (sT g c)) from pk_sub (a := 10) (b := (sT g c)) (by omega)]
                refine exf_go 1 (show Go (d + 1) true 222 65 [.ref 130, .int (nI kn), .int (nI mk), .long (lN m), mk_, .int (nI c)] [.long ((nI (10 - (sT g c))).toInt64), .long (lN m)] h Q from ?_)
                rw [show ((nI (10 - (sT g c))).toInt64 : Int64) = lN (10 - (sT g c)) from nI_l (n := (10 - (sT g c))) (by omega)]
                refine exf_go 1 (show Go (d + 1) true 222 66 [.ref 130, .int (nI kn), .int (nI mk), .long (lN m), mk_, .int (nI c)] [.long ((lN m) * (lN (10 - (sT g c))))] h Q from ?_)
                rw [show ((lN m) * (lN (10 - (sT g c))) : Int64) = lN (m * (10 - (sT g c))) from lN_mul m (10 - (sT g c))]
                refine exf_go 2 (show Go (d + 1) true 222 70 [.ref 130, .int (nI kn), .int (nI mk), .long (lN (m * (10 - (sT g c)))), mk_, .int ((nI c) + 1)] [] h Q from ?_)
                rw [show ((nI c) + 1 : Int32) = nI (c + 1) from nI_add c 1]
                refine exf_go 1 (show Go (d + 1) true 222 5 [.ref 130, .int (nI kn), .int (nI mk), .long (lN (m * (10 - (sT g c)))), mk_, .int (nI (c + 1))] [] h Q from ?_)
                exact ih5 (c + 1) (m * (10 - (sT g c))) (by omega) (by omega) (by rw [hm, wt, wtf]; first | (rw [if_pos (by assumption), if_pos (by assumption)]; done) | (rw [if_pos (by assumption), if_neg (by omega)]; done) | (rw [if_neg (by omega), Nat.mul_one]; done))
              · skip
                exact absurd (by decide) c6
        · skip
          show Go (d + 1) true 222 23 [.ref 130, .int (nI kn), .int (nI mk), .long (lN m), mk_, .int (nI c)] [.int 0] h Q
          refine exf_go 1 (show ((0 : Int32) = 0 → Go (d + 1) true 222 67 [.ref 130, .int (nI kn), .int (nI mk), .long (lN m), mk_, .int (nI c)] [] h Q) ∧ (¬ ((0 : Int32) = 0) → Go (d + 1) true 222 26 [.ref 130, .int (nI kn), .int (nI mk), .long (lN m), mk_, .int (nI c)] [] h Q) from ⟨fun c7 => ?_, fun c7 => ?_⟩)
          · skip
            refine exf_go 1 (show Go (d + 1) true 222 70 [.ref 130, .int (nI kn), .int (nI mk), .long (lN m), mk_, .int ((nI c) + 1)] [] h Q from ?_)
            rw [show ((nI c) + 1 : Int32) = nI (c + 1) from nI_add c 1]
            refine exf_go 1 (show Go (d + 1) true 222 5 [.ref 130, .int (nI kn), .int (nI mk), .long (lN m), mk_, .int (nI (c + 1))] [] h Q from ?_)
            exact ih5 (c + 1) m (by omega) (by omega) (by rw [hm, wt, wtf]; first | (rw [if_pos (by assumption), if_pos (by assumption)]; done) | (rw [if_pos (by assumption), if_neg (by omega)]; done) | (rw [if_neg (by omega), Nat.mul_one]; done))
          · skip
            exact absurd (by decide) c7
  exact L5 (sC g + 1) 0 1 (by omega) (by omega) rfl
