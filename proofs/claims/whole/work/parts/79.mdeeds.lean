/-! The model's deeds. -/
/-- what was done, as the row F -/
def SN (F : Nat → Int32) (g : ShG) (l : LkG) : Prop := F 0 = nI (lA l) ∧ F 1 = lX l ∧ F 2 = lG l ∧ F 3 = nI (lO l) ∧ (∀ w, w < 4 → F (4 + w) = nI (lF l w)) ∧ ∀ n, n < tot g → tbt (F (8 + n / 32)) (n % 32) = lT l n
theorem sn_cg {F G : Nat → Int32} {g : ShG} {l : LkG} (hg : ShW g) (sn : SN F g l) (h : ∀ j, j < 321 → G j = F j) : SN G g l := by
  have hN := tot_b hg
  refine ⟨(h 0 (by omega)).trans sn.1, (h 1 (by omega)).trans sn.2.1, (h 2 (by omega)).trans sn.2.2.1, (h 3 (by omega)).trans sn.2.2.2.1, fun w hw => (h _ (by omega)).trans (sn.2.2.2.2.1 w hw), fun n hn => ?_⟩
  rw [h _ (by omega)]
  exact sn.2.2.2.2.2 n hn
theorem sn_ms {g : ShG} {l : LkG} {h : Hp} (ms : MS g l h) : SN (fun j => rI h 131 (50 + j)) g l := by
  refine ⟨ms_A ms, ms_X ms, ms_G ms, ms_Op ms, fun w hw => ?_, fun n hn => ?_⟩
  · show rI h 131 (50 + (4 + w)) = _
    rw [show 50 + (4 + w) = 54 + w from by omega]
    exact ms.2.2.1.2.2.2.2.2.1 w hw
  · show tbt (rI h 131 (50 + (8 + n / 32))) (n % 32) = _
    rw [show 50 + (8 + n / 32) = 58 + n / 32 from by omega]
    exact ms.2.2.2 n hn
/-- and back -/
theorem ms_sn {g : ShG} {l l2 : LkG} {h h1 : Hp} (ms : MS g l h) (hl : LkW g l2) (sn : SN (fun j => rI h1 131 (50 + j)) g l2) (hc : ∀ j, (j < 50 ∨ 370 < j) → (j < 371 ∨ 3840 < j) → rI h1 131 j = rI h 131 j) : MS g l2 h1 := by
  obtain ⟨⟨m1, m2⟩, ⟨a0, a1, a2, a3, a4, a5, a6, a7, a8, a9, a10, a11, a12, a13⟩, ⟨b1, b2, b3, b4, b5, b6, b7⟩, t⟩ := ms
  have h4 := m1.1
  have hC := m1.2.2.2.1
  have hM := m1.2.2.2.2.2.1
  refine ⟨⟨m1, hl⟩, ⟨?_, ?_, ?_, ?_, ?_, ?_, ?_, ?_, ?_, ?_, sn.1, sn.2.1, sn.2.2.1, sn.2.2.2.1⟩, ⟨fun w hw => ?_, fun w hw => ?_, fun w hw => ?_, fun w hw => ?_, fun w hw => ?_, fun w hw => ?_, fun n hn => ?_⟩, fun n hn => ?_⟩
  all_goals (try (rw [hc _ (by omega) (by omega)]; first | assumption | exact b1 w hw | exact b2 w hw | exact b3 w hw | exact b4 w hw | exact b5 w hw | exact b7 n hn))
  · have := show rI h1 131 (50 + (4 + w)) = nI (lF l2 w) from sn.2.2.2.2.1 w hw
    rw [show 50 + (4 + w) = 54 + w from by omega] at this
    exact this
  · have := show tbt (rI h1 131 (50 + (8 + n / 32))) (n % 32) = lT l2 n from sn.2.2.2.2.2 n hn
    rw [show 50 + (8 + n / 32) = 58 + n / 32 from by omega] at this
    exact this
def sGo (a i : Nat) : Bool := Nat.beq a 131 && (Nat.ble 50 i && Nat.ble i 370)
theorem sGo_t {i : Nat} (h : 50 ≤ i) (h2 : i ≤ 370) : sGo 131 i = true := by
  unfold sGo
  rw [Nat.ble_eq.mpr h, Nat.ble_eq.mpr h2]; rfl
theorem sGo_f {i : Nat} (h : i < 50 ∨ 370 < i) : sGo 131 i = false := by
  unfold sGo
  rw [Bool.eq_false_iff]
  intro z
  simp only [Bool.and_eq_true] at z
  have h1 := Nat.ble_eq.mp z.2.1
  have h2 := Nat.ble_eq.mp z.2.2
  omega
def sNt (a i : Nat) : Bool := Nat.beq a 131 && (Nat.ble 371 i && Nat.ble i 2939)
theorem sNt_t {i : Nat} (h : 371 ≤ i) (h2 : i ≤ 2939) : sNt 131 i = true := by
  unfold sNt
  rw [Nat.ble_eq.mpr h, Nat.ble_eq.mpr h2]; rfl
theorem sNt_f {i : Nat} (h : i < 371 ∨ 2939 < i) : sNt 131 i = false := by
  unfold sNt
  rw [Bool.eq_false_iff]
  intro z
  simp only [Bool.and_eq_true] at z
  have h1 := Nat.ble_eq.mp z.2.1
  have h2 := Nat.ble_eq.mp z.2.2
  omega
theorem ms_nt {g : ShG} {l : LkG} {h h1 : Hp} (ms : MS g l h) (q : Fq sNt h h1) : MS g l h1 := ms_sn ms ms.1.2 (sn_cg ms.1.1 (sn_ms ms) (fun j hj => (q.1 131 (50 + j) (sNt_f (by omega))).1)) (fun j u v => (q.1 131 j (sNt_f (by omega))).1)
theorem tbt_or (x : Int32) {k j : Nat} (hk : k < 32) (hj : j < 32) : tbt (x ||| nI (2 ^ k)) j = if j = k then 1 else tbt x j := by
  have hp : 2 ^ k < 2 ^ 32 := Nat.pow_lt_pow_right (by omega) hk
  have e : (x ||| nI (2 ^ k)).toBitVec.toNat = x.toBitVec.toNat ||| 2 ^ k := by
    show (x.toBitVec ||| BitVec.ofNat 32 (2 ^ k)).toNat = _
    rw [BitVec.toNat_or, BitVec.toNat_ofNat, Nat.mod_eq_of_lt hp]
  have h1 : ∀ y : Nat, y / 2 ^ j % 2 = if y.testBit j = true then 1 else 0 := fun y => by
    rw [Nat.testBit_eq_decide_div_mod_eq]
    by_cases q : y / 2 ^ j % 2 = 1
    · rw [q]; rfl
    · rw [show y / 2 ^ j % 2 = 0 from by omega]; rfl
  unfold tbt
  rw [e, h1, h1, Nat.testBit_or, Nat.testBit_two_pow]
  by_cases q : j = k
  · rw [if_pos q, decide_eq_true q.symm, Bool.or_true]; rfl
  · rw [if_neg q, decide_eq_false (fun z => q z.symm), Bool.or_false]
/-- the wheels are turned, the number is tried -/
theorem ms_mv {g : ShG} {l : LkG} {h : Hp} (ms : MS g l h) {n : Nat} (hn : n < tot g) (x : Int32) : MS g (n, x, lG l, lO l, lF l, va_up (lT l) n 1) (uI (uI (uI h 131 51 x) 131 50 (nI n)) 131 (58 + n / 32) (rI h 131 (58 + n / 32) ||| nI (2 ^ (n % 32)))) := by
  have hN := tot_b ms.1.1
  have sn := sn_ms ms
  refine ms_sn ms ⟨hn, ms.1.2.2.1, fun m => ?_, ms.1.2.2.2.2⟩ ⟨?_, ?_, ?_, ?_, fun w hw => ?_, fun m hm => ?_⟩ (fun j u v => ?_)
  · show va_up (lT l) n 1 m ≤ 1
    by_cases e : m = n
    · rw [e, up_eq]; omega
    · rw [up_ne e]; exact ms.1.2.2.2.1 m
  · show rI _ 131 50 = nI n
    rw [rI_uI_at (by omega), rI_uI_eq]
  · show rI _ 131 51 = x
    rw [rI_uI_at (by omega), rI_uI_at (by omega), rI_uI_eq]
  · show rI _ 131 52 = lG l
    rw [rI_uI_at (by omega), rI_uI_at (by omega), rI_uI_at (by omega)]; exact sn.2.2.1
  · show rI _ 131 53 = nI (lO l)
    rw [rI_uI_at (by omega), rI_uI_at (by omega), rI_uI_at (by omega)]; exact sn.2.2.2.1
  · show rI _ 131 (50 + (4 + w)) = nI (lF l w)
    rw [rI_uI_at (by omega), rI_uI_at (by omega), rI_uI_at (by omega)]; exact sn.2.2.2.2.1 w hw
  · show tbt (rI _ 131 (50 + (8 + m / 32))) (m % 32) = va_up (lT l) n 1 m
    rw [show 50 + (8 + m / 32) = 58 + m / 32 from by omega]
    have ht := ms.2.2.2 m hm
    by_cases e : m / 32 = n / 32
    · rw [e, rI_uI_eq, tbt_or _ (by omega) (by omega)]
      by_cases e2 : m % 32 = n % 32
      · rw [if_pos e2, show m = n from by omega, up_eq]
      · rw [if_neg e2, up_ne (by omega), ← e]; exact ht
    · rw [rI_uI_at (by omega), rI_uI_at (by omega), rI_uI_at (by omega), up_ne (by omega)]; exact ht
  · rw [rI_uI_at (by omega), rI_uI_at (by omega), rI_uI_at (by omega)]
theorem ms_set {g : ShG} {l : LkG} {h h1 : Hp} (ms : MS g l h) {o : Nat} (ho : o ≤ 1) {x y : Int32} (e1 : rI h1 131 51 = x) (e2 : rI h1 131 52 = y) (e3 : rI h1 131 53 = nI o) (hc : ∀ j, (j < 51 ∨ 53 < j) → rI h1 131 j = rI h 131 j) : MS g (lA l, x, y, o, lF l, lT l) h1 := by
  have sn := sn_ms ms
  refine ms_sn ms ⟨ms.1.2.1, ho, ms.1.2.2.2⟩ ⟨(hc 50 (by omega)).trans sn.1, e1, e2, e3, fun w hw => (hc _ (by omega)).trans (sn.2.2.2.2.1 w hw), fun m hm => ?_⟩ (fun j u v => hc j (by omega))
  show tbt (rI h1 131 (50 + (8 + m / 32))) (m % 32) = _
  rw [hc _ (by omega)]
  exact sn.2.2.2.2.2 m hm
theorem m_keeps {d : Nat} {h : Hp} {Q : Po} (k : ∀ h1, Fq (sAt 141) h h1 → (∀ i, i < 321 → rI h1 141 i = rI h 131 (50 + i)) → Q mk_ h1) : wpC (d + 1) true 248 [.ref 130] h Q := by
  refine go_in rfl ?_
  refine exf_go 2 (show Go d true 248 2 [.ref 130, .int 0] [] h Q from ?_)
  have L2 : ∀ (k2 : Nat) (j : Nat) (h1 : Hp), (321 - j) < k2 → (j ≤ 321) → (Fq (sAt 141) h h1) → (∀ i, i < j → rI h1 141 i = rI h 131 (50 + i)) → Go d true 248 2 [.ref 130, .int (nI j)] [] h1 Q := by
    intro k2
    induction k2 with
    | zero => intro j h1 hk; exact absurd hk (Nat.not_lt_zero _)
    | succ k2 ih2 =>
      intro j h1 hk hj q1 hv
      refine exf_go 3 (show (321 ≤ (nI j) → Go d true 248 30 [.ref 130, .int (nI j)] [] h1 Q) ∧ (¬ (321 ≤ (nI j)) → Go d true 248 9 [.ref 130, .int (nI j)] [] h1 Q) from ⟨fun c1 => ?_, fun c1 => ?_⟩)
      · skip
        have c1 : 321 ≤ j := (nI_leI (a := 321) (b := j) (by omega) (by omega)).mp c1
        refine exf_go 1 (show Q (mk_) h1 from ?_)
        exact k h1 q1 (fun i hi => hv i (by omega))
      · skip
        have c1 : ¬ 321 ≤ j := fun q => c1 ((nI_leI (a := 321) (b := j) (by omega) (by omega)).mpr q)
        refine exf_go 8 (show Go d true 248 22 [.ref 130, .int (nI j)] [.int (50 + (nI j)), .ref 131, .int (nI j), .ref 141] h1 Q from ?_)
        rw [show (50 + (nI j) : Int32) = nI (50 + j) from nI_add 50 j]
        refine exf_go 3 (show vp_in (nI (50 + j)) 41523 ∧ vp_in (nI j) 321 ∧ (Go d true 248 27 [.ref 130, .int ((nI j) + 1)] [] (uI h1 141 ((nI j).toNatClampNeg) (rI h1 131 ((nI (50 + j)).toNatClampNeg))) Q) from ⟨(vp_in_nI (by omega) (by omega)), (vp_in_nI (by omega) (by omega)), ?_⟩)
        rw [show ((nI j) + 1 : Int32) = nI (j + 1) from nI_add j 1]
        refine exf_go 1 (show Go d true 248 2 [.ref 130, .int (nI (j + 1))] [] (uI h1 141 ((nI j).toNatClampNeg) (rI h1 131 ((nI (50 + j)).toNatClampNeg))) Q from ?_)
        exact ih2 (j + 1) _ (by omega) (by omega) (q1.uI' _ _ _ rfl) (fun i hi => by rw [nI_clamp (by omega)]; exact (Decidable.em (i = j)).elim (fun e => by rw [e, rI_uI_eq, nI_clamp (by omega), q1.I (a := 131) (fun _ => rfl)]) (fun e => by rw [rI_uI_at e]; exact hv i (by omega)))
  exact L2 (321 + 1) 0 h (by omega) (by omega) Fq.rfl' (fun i hi => absurd hi (Nat.not_lt_zero _))
theorem m_goesTo {d : Nat} {h : Hp} {g : ShG} {l : LkG} {n : Nat} {Q : Po} (ms : MS g l h) (hn : n < tot g) (k : ∀ h1, Fq sGo h h1 → MS g (tryL g l n) h1 → Q mk_ h1) : wpC (d + 3) true 252 [.ref 130, .int (nI n)] h Q := by
  have hN := tot_b ms.1.1
  have h4 := ms.1.1.1
  have h8 := ms.1.1.2.2.2.1
  have he := evr_b ms.1.1
  have hev : evr g = 2 ^ sC g - 1 := rfl
  have hm4 := ms.1.1.2.2.2.2.2.1
  have hkb := ms.1.1.2.2.2.2.2.2.1
  have hA := ms.1.2.1
  have hob := ms.1.1.2.2.2.2.2.2.2.2.2.2.2.1
  have hb9 := ms.1.1.2.2.2.2.2.2.2.2.1
  have hp6 := ms.1.1.2.2.2.2.2.2.2.1
  refine go_in rfl ?_
  have X58 : ∀ (l1 : LkG) (h1 : Hp), (l1 = (n, tryX g l n, lG l, lO l, lF l, va_up (lT l) n 1)) → (Fq sGo h h1) → (MS g l1 h1) → Go (d + 2) true 252 58 [.ref 130, .int (nI n)] [] h1 Q := by
    intro l1 h1 el q1 ms1
    have hG1 : lG l1 = lG l := by rw [el]; rfl
    have f1 := ms_X ms1; have f2 := ms_G ms1; have f3 := ms_Op ms1
    refine exf_go 5 (show vp_in 9 41523 ∧ (Go (d + 2) true 252 66 [.ref 130, .int (nI n)] [.int (rI h1 131 9), .int (nI n)] h1 Q) from ⟨(vp_in_nI (n := 9) (by decide) (by decide)), ?_⟩)
    rw [show (rI h1 131 9 : Int32) = oI (sO g) from ms_O ms1]
    refine exf_go 1 (show (¬ (nI n) = (oI (sO g)) → Go (d + 2) true 252 78 [.ref 130, .int (nI n)] [] h1 Q) ∧ (¬ (¬ (nI n) = (oI (sO g))) → Go (d + 2) true 252 69 [.ref 130, .int (nI n)] [] h1 Q) from ⟨fun c1 => ?_, fun c1 => ?_⟩)
    · skip
      have hso : ¬ sO g = some n := fun q => c1 ((oI_some hob hN.2 hn).mpr q)
      refine exf_go 5 (show vp_in 52 41523 ∧ (Go (d + 2) true 252 86 [.ref 130, .int (nI n)] [.int (rI h1 131 52), .int 52, .ref 131] h1 Q) from ⟨(vp_in_nI (n := 52) (by decide) (by decide)), ?_⟩)
      rw [show (rI h1 131 52 : Int32) = lG l1 from ms_G ms1]
      refine exf_go 7 (show vp_in 52 41523 ∧ vp_in 6 41523 ∧ (Go (d + 2) true 252 96 [.ref 130, .int (nI n)] [.int (rI h1 131 6)] (uI h1 131 52 ((lG l1) + 1)) Q) from ⟨(vp_in_nI (n := 52) (by decide) (by decide)), (vp_in_nI (n := 6) (by decide) (by decide)), ?_⟩)
      rw [show (rI h1 131 6 : Int32) = nI (sBA g) from ms_BA ms1]
      refine exf_go 1 (show ((nI (sBA g)) = 0 → Go (d + 2) true 252 116 [.ref 130, .int (nI n)] [] (uI h1 131 52 ((lG l1) + 1)) Q) ∧ (¬ ((nI (sBA g)) = 0) → Go (d + 2) true 252 99 [.ref 130, .int (nI n)] [] (uI h1 131 52 ((lG l1) + 1)) Q) from ⟨fun c2 => ?_, fun c2 => ?_⟩)
      · skip
        have c2 : (sBA g) = 0 := (nI_eq (a := (sBA g)) (b := 0) (by omega) (by omega)).mp c2
        have htl : tryL g l n = (lA l1, lX l1, lG l1 + 1, lO l1, lF l1, lT l1) := by rw [el]; unfold tryL; rw [if_neg hso, if_neg (fun q => by omega)]; rfl
        refine exf_go 1 (show Q (mk_) (uI h1 131 52 ((lG l1) + 1)) from ?_)
        rw [htl] at k
        exact k _ (q1.uI' _ _ _ (sGo_t (by omega) (by omega))) (ms_set ms1 (by first | decide | exact ms1.1.2.2.1) (by first | rfl | exact f1) (by first | rfl | exact f2) (by first | rfl | exact f3) (fun j u => by rw [rI_uI_at (by omega)]))
      · skip
        have c2 : ¬ (sBA g) = 0 := fun q => c2 ((nI_eq (a := (sBA g)) (b := 0) (by omega) (by omega)).mpr q)
        refine exf_go 8 (show vp_in 52 41523 ∧ vp_in 6 41523 ∧ (Go (d + 2) true 252 113 [.ref 130, .int (nI n)] [.int (rI h1 131 6), .int ((lG l1) + 1)] (uI h1 131 52 ((lG l1) + 1)) Q) from ⟨(vp_in_nI (n := 52) (by decide) (by decide)), (vp_in_nI (n := 6) (by decide) (by decide)), ?_⟩)
        rw [show (rI h1 131 6 : Int32) = nI (sBA g) from ms_BA ms1]
        refine exf_go 1 (show ((nI (sBA g)) ≤ ((lG l1) + 1) → Go (d + 2) true 252 117 [.ref 130, .int (nI n)] [] (uI h1 131 52 ((lG l1) + 1)) Q) ∧ (¬ ((nI (sBA g)) ≤ ((lG l1) + 1)) → Go (d + 2) true 252 116 [.ref 130, .int (nI n)] [] (uI h1 131 52 ((lG l1) + 1)) Q) from ⟨fun c3 => ?_, fun c3 => ?_⟩)
        · skip
          have htl : tryL g l n = (lA l1, lX l1 + nI (sBS g), 0, lO l1, lF l1, lT l1) := by rw [hG1] at c3; rw [el]; unfold tryL; rw [if_neg hso, if_pos ⟨by omega, c3⟩]; rfl
          refine exf_go 10 (show vp_in 52 41523 ∧ vp_in 51 41523 ∧ (Go (d + 2) true 252 133 [.ref 130, .int (nI n)] [.int (rI h1 131 51), .int 51, .ref 131] (uI (uI h1 131 52 ((lG l1) + 1)) 131 52 0) Q) from ⟨(vp_in_nI (n := 52) (by decide) (by decide)), (vp_in_nI (n := 51) (by decide) (by decide)), ?_⟩)
          rw [show (rI h1 131 51 : Int32) = lX l1 from ms_X ms1]
          refine exf_go 4 (show vp_in 7 41523 ∧ (Go (d + 2) true 252 140 [.ref 130, .int (nI n)] [.int (rI h1 131 7), .int (lX l1), .int 51, .ref 131] (uI (uI h1 131 52 ((lG l1) + 1)) 131 52 0) Q) from ⟨(vp_in_nI (n := 7) (by decide) (by decide)), ?_⟩)
          rw [show (rI h1 131 7 : Int32) = nI (sBS g) from ms_BS ms1]
          refine exf_go 3 (show vp_in 51 41523 ∧ Q (mk_) (uI (uI (uI h1 131 52 ((lG l1) + 1)) 131 52 0) 131 51 ((lX l1) + (nI (sBS g)))) from ⟨(vp_in_nI (n := 51) (by decide) (by decide)), ?_⟩)
          rw [htl] at k
          exact k _ (((q1.uI' _ _ _ (sGo_t (by omega) (by omega))).uI' _ _ _ (sGo_t (by omega) (by omega))).uI' _ _ _ (sGo_t (by omega) (by omega))) (ms_set ms1 (by first | decide | exact ms1.1.2.2.1) (by first | rfl | exact f1) (by first | rfl | exact f2) (by first | rfl | exact f3) (fun j u => by rw [rI_uI_at (by omega)]; rw [rI_uI_at (by omega)]; rw [rI_uI_at (by omega)]))
        · skip
          have htl : tryL g l n = (lA l1, lX l1, lG l1 + 1, lO l1, lF l1, lT l1) := by rw [hG1] at c3; rw [el]; unfold tryL; rw [if_neg hso, if_neg (fun q => c3 q.2)]; rfl
          refine exf_go 1 (show Q (mk_) (uI h1 131 52 ((lG l1) + 1)) from ?_)
          rw [htl] at k
          exact k _ (q1.uI' _ _ _ (sGo_t (by omega) (by omega))) (ms_set ms1 (by first | decide | exact ms1.1.2.2.1) (by first | rfl | exact f1) (by first | rfl | exact f2) (by first | rfl | exact f3) (fun j u => by rw [rI_uI_at (by omega)]))
    · skip
      have hso : sO g = some n := (oI_some hob hN.2 hn).mp (Classical.not_not.mp c1)
      have htl : tryL g l n = (lA l1, lX l1, lG l1, 1, lF l1, lT l1) := by rw [el]; unfold tryL; rw [if_pos hso]; rfl
      refine exf_go 6 (show vp_in 53 41523 ∧ Q (mk_) (uI h1 131 53 1) from ⟨(vp_in_nI (n := 53) (by decide) (by decide)), ?_⟩)
      rw [htl] at k
      exact k _ (q1.uI' _ _ _ (sGo_t (by omega) (by omega))) (ms_set ms1 (by first | decide | exact ms1.1.2.2.1) (by first | rfl | exact f1) (by first | rfl | exact f2) (by first | rfl | exact f3) (fun j u => by rw [rI_uI_at (by omega)]))
  refine exf_go 5 (show vp_in 51 41523 ∧ (Go (d + 2) true 252 8 [.ref 130, .int (nI n)] [.int (rI h 131 51), .int 51, .ref 131] h Q) from ⟨(vp_in_nI (n := 51) (by decide) (by decide)), ?_⟩)
  rw [show (rI h 131 51 : Int32) = lX l from ms_X ms]
  refine exf_go 5 (show vp_in 50 41523 ∧ (Go (d + 2) true 252 16 [.ref 130, .int (nI n)] [.int (rI h 131 50), .ref 130, .int (lX l), .int 51, .ref 131] h Q) from ⟨(vp_in_nI (n := 50) (by decide) (by decide)), ?_⟩)
  rw [show (rI h 131 50 : Int32) = nI (lA l) from ms_A ms]
  refine exf_go 2 (show wpC (d + 2) true 251 [.ref 130, .int (nI (lA l)), .int (nI n)] h (fun r h' => Go (d + 2) true 252 20 [.ref 130, .int (nI n)] [r, .int (lX l), .int 51, .ref 131] h' Q) from ?_)
  refine m_turns ms (by omega) (by omega) ?_
  have := trn_b ms.1.1 (lA l) n
  show Go (d + 2) true 252 20 [.ref 130, .int (nI n)] [.int (nI (trn g (lA l) n)), .int (lX l), .int 51, .ref 131] h Q
  refine exf_go 4 (show vp_in 5 41523 ∧ (Go (d + 2) true 252 26 [.ref 130, .int (nI n)] [.int (rI h 131 5), .int (nI (trn g (lA l) n)), .int (lX l), .int 51, .ref 131] h Q) from ⟨(vp_in_nI (n := 5) (by decide) (by decide)), ?_⟩)
  rw [show (rI h 131 5 : Int32) = nI (sP g) from ms_P ms]
  refine exf_go 1 (show Go (d + 2) true 252 27 [.ref 130, .int (nI n)] [.int ((nI (trn g (lA l) n)) + (nI (sP g))), .int (lX l), .int 51, .ref 131] h Q from ?_)
  rw [show ((nI (trn g (lA l) n)) + (nI (sP g)) : Int32) = nI ((trn g (lA l) n) + (sP g)) from nI_add (trn g (lA l) n) (sP g)]
  refine exf_go 1 (show Go (d + 2) true 252 28 [.ref 130, .int (nI n)] [.int ((lX l) + (nI ((trn g (lA l) n) + (sP g)))), .int 51, .ref 131] h Q from ?_)
  rw [show ((lX l) + (nI ((trn g (lA l) n) + (sP g))) : Int32) = tryX g l n from rfl]
  refine exf_go 12 (show vp_in 51 41523 ∧ vp_in 50 41523 ∧ ¬ 32 = 0 ∧ (Go (d + 2) true 252 47 [.ref 130, .int (nI n)] [.int ((nI n) / 32), .int 58, .ref 131] (uI (uI h 131 51 (tryX g l n)) 131 50 (nI n)) Q) from ⟨(vp_in_nI (n := 51) (by decide) (by decide)), (vp_in_nI (n := 50) (by decide) (by decide)), (by decide), ?_⟩)
  rw [show ((nI n) / 32 : Int32) = nI (n / 32) from pk_div (a := n) (d := 32) (by omega) (by omega) (by omega)]
  refine exf_go 1 (show Go (d + 2) true 252 48 [.ref 130, .int (nI n)] [.int (58 + (nI (n / 32))), .ref 131] (uI (uI h 131 51 (tryX g l n)) 131 50 (nI n)) Q from ?_)
  rw [show (58 + (nI (n / 32)) : Int32) = nI (58 + (n / 32)) from nI_add 58 (n / 32)]
  refine exf_go 6 (show vp_in (nI (58 + (n / 32))) 41523 ∧ ¬ 32 = 0 ∧ (Go (d + 2) true 252 55 [.ref 130, .int (nI n)] [.int ((nI n) - (nI n) / 32 * 32), .int 1, .int (rI (uI (uI h 131 51 (tryX g l n)) 131 50 (nI n)) 131 ((nI (58 + (n / 32))).toNatClampNeg)), .int (nI (58 + (n / 32))), .ref 131] (uI (uI h 131 51 (tryX g l n)) 131 50 (nI n)) Q) from ⟨(vp_in_nI (by omega) (by omega)), (by decide), ?_⟩)
  rw [show ((nI n) - (nI n) / 32 * 32 : Int32) = nI (n % 32) from pk_rem (a := n) (d := 32) (by omega) (by omega) (by omega)]
  refine exf_go 1 (show Go (d + 2) true 252 56 [.ref 130, .int (nI n)] [.int (1 <<< ((nI (n % 32)) &&& 31)), .int (rI (uI (uI h 131 51 (tryX g l n)) 131 50 (nI n)) 131 ((nI (58 + (n / 32))).toNatClampNeg)), .int (nI (58 + (n / 32))), .ref 131] (uI (uI h 131 51 (tryX g l n)) 131 50 (nI n)) Q from ?_)
  rw [show (1 <<< ((nI (n % 32)) &&& 31) : Int32) = nI (2 ^ (n % 32)) from nI_1shl (k := (n % 32)) (by omega)]
  refine exf_go 2 (show vp_in (nI (58 + (n / 32))) 41523 ∧ (Go (d + 2) true 252 58 [.ref 130, .int (nI n)] [] (uI (uI (uI h 131 51 (tryX g l n)) 131 50 (nI n)) 131 ((nI (58 + (n / 32))).toNatClampNeg) ((rI (uI (uI h 131 51 (tryX g l n)) 131 50 (nI n)) 131 ((nI (58 + (n / 32))).toNatClampNeg)) ||| (nI (2 ^ (n % 32))))) Q) from ⟨(vp_in_nI (by omega) (by omega)), ?_⟩)
  exact X58 _ _ rfl (((Fq.uI' Fq.rfl' _ _ _ (sGo_t (by omega) (by omega))).uI' _ _ _ (sGo_t (by omega) (by omega))).uI' _ _ _ (sGo_t (by rw [nI_clamp (by omega)]; omega) (by rw [nI_clamp (by omega)]; omega))) (by rw [nI_clamp (by omega), rI_uI_at (by omega), rI_uI_at (by omega)]; exact ms_mv ms hn (tryX g l n))
