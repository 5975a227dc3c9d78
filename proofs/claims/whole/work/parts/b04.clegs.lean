/-! The class's legs. -/
def LGR (g : ShG) (l : LkG) (pl : Nat) (v F : Nat → Nat) (n : Nat) (h : Hp) : Prop := (ShW g ∧ 1 ≤ n ∧ n ≤ 8 ∧ pl ≤ 60) ∧ (∀ x, F x ≤ 800000000) ∧ rI h 78 1 = nI n ∧ (∀ i, i < n → v i < tot g) ∧ (∀ i, i < n → rI h 79 i = nI (v i)) ∧ (∀ i, i < n → rI h 80 i = nI (trn g (lA l) (v i) + pl)) ∧ (∀ i j, i < n → j < n → rI h 81 (i * 8 + j) = nI (trn g (v i) (v j) + pl)) ∧ ∀ e, e < 2 ^ n → rJ h 82 e = lN (F e)
theorem pow_n8 {n : Nat} (h : n ≤ 8) : 2 ^ n ≤ 256 := Nat.pow_le_pow_right (n := 2) (by omega) h
theorem pow_n1 (n : Nat) : 1 ≤ 2 ^ n := Nat.two_pow_pos n
theorem c_cost0 {d : Nat} {h : Hp} {g : ShG} {l : LkG} {pl : Nat} {v F : Nat → Nat} {n : Nat} {dn i c : Nat} {Q : Po} (lg : LGR g l pl v F n h) (hdn : dn < 2 ^ n) (hi : i < n) (hc : rJ h 83 ((dn ||| 2 ^ i) * 8 + i) = lN c) (k : Q (.long (lN ((trn g (lA l) (v i) + pl) * F dn + c))) h) : wpC (d + 1) true 25 [.ref 78, .int (nI dn), .int (-1), .int (nI i)] h Q := by
  obtain ⟨hg, hn1, hn8, hpl⟩ := lg.1
  have hp8 := pow_n8 hn8; have hp1 := pow_n1 n
  have hF := lg.2.1
  have htb := tot_b hg
  have htr := trn_b hg (lA l) (v i)
  have hor := or_b hdn hi
  have hpi : 2 ^ i < 2 ^ n := Nat.pow_lt_pow_right (by omega) hi
  refine go_in rfl ?_
  refine exf_go 3 (show (¬ ((-1) : Int32) = (-1) → Go d true 25 14 [.ref 78, .int (nI dn), .int (-1), .int (nI i), mk_] [] h Q) ∧ (¬ (¬ ((-1) : Int32) = (-1)) → Go d true 25 5 [.ref 78, .int (nI dn), .int (-1), .int (nI i), mk_] [] h Q) from ⟨fun c1 => ?_, fun c1 => ?_⟩)
  · skip
    exact absurd c1 (by decide)
  · skip
    refine exf_go 4 (show vp_in (nI i) 8 ∧ (Go d true 25 11 [.ref 78, .int (nI dn), .int (-1), .int (nI i), mk_] [.int (rI h 80 ((nI i).toNatClampNeg))] h Q) from ⟨(vp_in_nI (by omega) (by omega)), ?_⟩)
    rw [show (rI h 80 ((nI i).toNatClampNeg) : Int32) = nI (trn g (lA l) (v i) + pl) from by rw [nI_clamp (by omega)]; exact lg.2.2.2.2.2.1 _ (by omega)]
    refine exf_go 4 (show Go d true 25 30 [.ref 78, .int (nI dn), .int (-1), .int (nI i), .int (nI (trn g (lA l) (v i) + pl))] [.long ((nI (trn g (lA l) (v i) + pl)).toInt64)] h Q from ?_)
    rw [show ((nI (trn g (lA l) (v i) + pl)).toInt64 : Int64) = lN (trn g (lA l) (v i) + pl) from nI_l (n := (trn g (lA l) (v i) + pl)) (by omega)]
    refine exf_go 4 (show vp_in (nI dn) 256 ∧ (Go d true 25 36 [.ref 78, .int (nI dn), .int (-1), .int (nI i), .int (nI (trn g (lA l) (v i) + pl))] [.long (rJ h 82 ((nI dn).toNatClampNeg)), .long (lN (trn g (lA l) (v i) + pl))] h Q) from ⟨(vp_in_nI (by omega) (by omega)), ?_⟩)
    rw [show (rJ h 82 ((nI dn).toNatClampNeg) : Int64) = lN (F dn) from by rw [nI_clamp (by omega)]; exact lg.2.2.2.2.2.2.2 _ (by omega)]
    refine exf_go 1 (show Go d true 25 37 [.ref 78, .int (nI dn), .int (-1), .int (nI i), .int (nI (trn g (lA l) (v i) + pl))] [.long ((lN (trn g (lA l) (v i) + pl)) * (lN (F dn)))] h Q from ?_)
    rw [show ((lN (trn g (lA l) (v i) + pl)) * (lN (F dn)) : Int64) = lN ((trn g (lA l) (v i) + pl) * (F dn)) from lN_mul (trn g (lA l) (v i) + pl) (F dn)]
    refine exf_go 6 (show Go d true 25 45 [.ref 78, .int (nI dn), .int (-1), .int (nI i), .int (nI (trn g (lA l) (v i) + pl))] [.int (1 <<< ((nI i) &&& 31)), .int (nI dn), .ref 83, .long (lN ((trn g (lA l) (v i) + pl) * (F dn)))] h Q from ?_)
    rw [show (1 <<< ((nI i) &&& 31) : Int32) = nI (2 ^ i) from nI_1shl (k := i) (by omega)]
    refine exf_go 1 (show Go d true 25 46 [.ref 78, .int (nI dn), .int (-1), .int (nI i), .int (nI (trn g (lA l) (v i) + pl))] [.int ((nI dn) ||| (nI (2 ^ i))), .ref 83, .long (lN ((trn g (lA l) (v i) + pl) * (F dn)))] h Q from ?_)
    rw [show ((nI dn) ||| (nI (2 ^ i)) : Int32) = nI (dn ||| (2 ^ i)) from nI_or dn (2 ^ i)]
    refine exf_go 2 (show Go d true 25 49 [.ref 78, .int (nI dn), .int (-1), .int (nI i), .int (nI (trn g (lA l) (v i) + pl))] [.int ((nI (dn ||| (2 ^ i))) * 8), .ref 83, .long (lN ((trn g (lA l) (v i) + pl) * (F dn)))] h Q from ?_)
    rw [show ((nI (dn ||| (2 ^ i))) * 8 : Int32) = nI ((dn ||| (2 ^ i)) * 8) from pk_mul (dn ||| (2 ^ i)) 8]
    refine exf_go 2 (show Go d true 25 51 [.ref 78, .int (nI dn), .int (-1), .int (nI i), .int (nI (trn g (lA l) (v i) + pl))] [.int ((nI ((dn ||| (2 ^ i)) * 8)) + (nI i)), .ref 83, .long (lN ((trn g (lA l) (v i) + pl) * (F dn)))] h Q from ?_)
    rw [show ((nI ((dn ||| (2 ^ i)) * 8)) + (nI i) : Int32) = nI (((dn ||| (2 ^ i)) * 8) + i) from nI_add ((dn ||| (2 ^ i)) * 8) i]
    refine exf_go 1 (show vp_in (nI (((dn ||| (2 ^ i)) * 8) + i)) 2048 ∧ (Go d true 25 52 [.ref 78, .int (nI dn), .int (-1), .int (nI i), .int (nI (trn g (lA l) (v i) + pl))] [.long (rJ h 83 ((nI (((dn ||| (2 ^ i)) * 8) + i)).toNatClampNeg)), .long (lN ((trn g (lA l) (v i) + pl) * (F dn)))] h Q) from ⟨(vp_in_nI (by omega) (by omega)), ?_⟩)
    rw [show (rJ h 83 ((nI (((dn ||| (2 ^ i)) * 8) + i)).toNatClampNeg) : Int64) = lN c from by rw [nI_clamp (by omega)]; exact hc]
    refine exf_go 1 (show Go d true 25 53 [.ref 78, .int (nI dn), .int (-1), .int (nI i), .int (nI (trn g (lA l) (v i) + pl))] [.long ((lN ((trn g (lA l) (v i) + pl) * (F dn))) + (lN c))] h Q from ?_)
    rw [show ((lN ((trn g (lA l) (v i) + pl) * (F dn))) + (lN c) : Int64) = lN (((trn g (lA l) (v i) + pl) * (F dn)) + c) from lN_add ((trn g (lA l) (v i) + pl) * (F dn)) c]
    refine exf_go 1 (show Q (.long (lN (((trn g (lA l) (v i) + pl) * (F dn)) + c))) h from ?_)
    exact k
theorem c_cost1 {d : Nat} {h : Hp} {g : ShG} {l : LkG} {pl : Nat} {v F : Nat → Nat} {n : Nat} {dn i c b : Nat} {Q : Po} (lg : LGR g l pl v F n h) (hdn : dn < 2 ^ n) (hi : i < n) (hb : b < n) (hc : rJ h 83 ((dn ||| 2 ^ i) * 8 + i) = lN c) (k : Q (.long (lN ((trn g (v b) (v i) + pl) * F dn + c))) h) : wpC (d + 1) true 25 [.ref 78, .int (nI dn), .int (nI b), .int (nI i)] h Q := by
  obtain ⟨hg, hn1, hn8, hpl⟩ := lg.1
  have hp8 := pow_n8 hn8; have hp1 := pow_n1 n
  have hF := lg.2.1
  have htb := tot_b hg
  have htr := trn_b hg (v b) (v i)
  have hor := or_b hdn hi
  have hpi : 2 ^ i < 2 ^ n := Nat.pow_lt_pow_right (by omega) hi
  refine go_in rfl ?_
  refine exf_go 3 (show (¬ (nI b) = (-1) → Go d true 25 14 [.ref 78, .int (nI dn), .int (nI b), .int (nI i), mk_] [] h Q) ∧ (¬ (¬ (nI b) = (-1)) → Go d true 25 5 [.ref 78, .int (nI dn), .int (nI b), .int (nI i), mk_] [] h Q) from ⟨fun c1 => ?_, fun c1 => ?_⟩)
  · skip
    refine exf_go 5 (show Go d true 25 22 [.ref 78, .int (nI dn), .int (nI b), .int (nI i), mk_] [.int ((nI b) * 8), .ref 81] h Q from ?_)
    rw [show ((nI b) * 8 : Int32) = nI (b * 8) from pk_mul b 8]
    refine exf_go 2 (show Go d true 25 24 [.ref 78, .int (nI dn), .int (nI b), .int (nI i), mk_] [.int ((nI (b * 8)) + (nI i)), .ref 81] h Q from ?_)
    rw [show ((nI (b * 8)) + (nI i) : Int32) = nI ((b * 8) + i) from nI_add (b * 8) i]
    refine exf_go 1 (show vp_in (nI ((b * 8) + i)) 64 ∧ (Go d true 25 25 [.ref 78, .int (nI dn), .int (nI b), .int (nI i), mk_] [.int (rI h 81 ((nI ((b * 8) + i)).toNatClampNeg))] h Q) from ⟨(vp_in_nI (by omega) (by omega)), ?_⟩)
    rw [show (rI h 81 ((nI ((b * 8) + i)).toNatClampNeg) : Int32) = nI (trn g (v b) (v i) + pl) from by rw [nI_clamp (by omega)]; exact lg.2.2.2.2.2.2.1 _ _ (by omega) (by omega)]
    refine exf_go 3 (show Go d true 25 30 [.ref 78, .int (nI dn), .int (nI b), .int (nI i), .int (nI (trn g (v b) (v i) + pl))] [.long ((nI (trn g (v b) (v i) + pl)).toInt64)] h Q from ?_)
    rw [show ((nI (trn g (v b) (v i) + pl)).toInt64 : Int64) = lN (trn g (v b) (v i) + pl) from nI_l (n := (trn g (v b) (v i) + pl)) (by omega)]
    refine exf_go 4 (show vp_in (nI dn) 256 ∧ (Go d true 25 36 [.ref 78, .int (nI dn), .int (nI b), .int (nI i), .int (nI (trn g (v b) (v i) + pl))] [.long (rJ h 82 ((nI dn).toNatClampNeg)), .long (lN (trn g (v b) (v i) + pl))] h Q) from ⟨(vp_in_nI (by omega) (by omega)), ?_⟩)
    rw [show (rJ h 82 ((nI dn).toNatClampNeg) : Int64) = lN (F dn) from by rw [nI_clamp (by omega)]; exact lg.2.2.2.2.2.2.2 _ (by omega)]
    refine exf_go 1 (show Go d true 25 37 [.ref 78, .int (nI dn), .int (nI b), .int (nI i), .int (nI (trn g (v b) (v i) + pl))] [.long ((lN (trn g (v b) (v i) + pl)) * (lN (F dn)))] h Q from ?_)
    rw [show ((lN (trn g (v b) (v i) + pl)) * (lN (F dn)) : Int64) = lN ((trn g (v b) (v i) + pl) * (F dn)) from lN_mul (trn g (v b) (v i) + pl) (F dn)]
    refine exf_go 6 (show Go d true 25 45 [.ref 78, .int (nI dn), .int (nI b), .int (nI i), .int (nI (trn g (v b) (v i) + pl))] [.int (1 <<< ((nI i) &&& 31)), .int (nI dn), .ref 83, .long (lN ((trn g (v b) (v i) + pl) * (F dn)))] h Q from ?_)
    rw [show (1 <<< ((nI i) &&& 31) : Int32) = nI (2 ^ i) from nI_1shl (k := i) (by omega)]
    refine exf_go 1 (show Go d true 25 46 [.ref 78, .int (nI dn), .int (nI b), .int (nI i), .int (nI (trn g (v b) (v i) + pl))] [.int ((nI dn) ||| (nI (2 ^ i))), .ref 83, .long (lN ((trn g (v b) (v i) + pl) * (F dn)))] h Q from ?_)
    rw [show ((nI dn) ||| (nI (2 ^ i)) : Int32) = nI (dn ||| (2 ^ i)) from nI_or dn (2 ^ i)]
    refine exf_go 2 (show Go d true 25 49 [.ref 78, .int (nI dn), .int (nI b), .int (nI i), .int (nI (trn g (v b) (v i) + pl))] [.int ((nI (dn ||| (2 ^ i))) * 8), .ref 83, .long (lN ((trn g (v b) (v i) + pl) * (F dn)))] h Q from ?_)
    rw [show ((nI (dn ||| (2 ^ i))) * 8 : Int32) = nI ((dn ||| (2 ^ i)) * 8) from pk_mul (dn ||| (2 ^ i)) 8]
    refine exf_go 2 (show Go d true 25 51 [.ref 78, .int (nI dn), .int (nI b), .int (nI i), .int (nI (trn g (v b) (v i) + pl))] [.int ((nI ((dn ||| (2 ^ i)) * 8)) + (nI i)), .ref 83, .long (lN ((trn g (v b) (v i) + pl) * (F dn)))] h Q from ?_)
    rw [show ((nI ((dn ||| (2 ^ i)) * 8)) + (nI i) : Int32) = nI (((dn ||| (2 ^ i)) * 8) + i) from nI_add ((dn ||| (2 ^ i)) * 8) i]
    refine exf_go 1 (show vp_in (nI (((dn ||| (2 ^ i)) * 8) + i)) 2048 ∧ (Go d true 25 52 [.ref 78, .int (nI dn), .int (nI b), .int (nI i), .int (nI (trn g (v b) (v i) + pl))] [.long (rJ h 83 ((nI (((dn ||| (2 ^ i)) * 8) + i)).toNatClampNeg)), .long (lN ((trn g (v b) (v i) + pl) * (F dn)))] h Q) from ⟨(vp_in_nI (by omega) (by omega)), ?_⟩)
    rw [show (rJ h 83 ((nI (((dn ||| (2 ^ i)) * 8) + i)).toNatClampNeg) : Int64) = lN c from by rw [nI_clamp (by omega)]; exact hc]
    refine exf_go 1 (show Go d true 25 53 [.ref 78, .int (nI dn), .int (nI b), .int (nI i), .int (nI (trn g (v b) (v i) + pl))] [.long ((lN ((trn g (v b) (v i) + pl) * (F dn))) + (lN c))] h Q from ?_)
    rw [show ((lN ((trn g (v b) (v i) + pl) * (F dn))) + (lN c) : Int64) = lN (((trn g (v b) (v i) + pl) * (F dn)) + c) from lN_add ((trn g (v b) (v i) + pl) * (F dn)) c]
    refine exf_go 1 (show Q (.long (lN (((trn g (v b) (v i) + pl) * (F dn)) + c))) h from ?_)
    exact k
  · skip
    exact absurd (ng_eq (by omega) (by decide)) c1
theorem c_next0 {d : Nat} {h : Hp} {g : ShG} {l : LkG} {pl : Nat} {v F : Nat → Nat} {n : Nat} {dn : Nat} {Q : Po} (lg : LGR g l pl v F n h) (hdn : dn < 2 ^ n) (hK : ∀ i, i < n → btn dn i = 0 → rJ h 83 ((dn ||| 2 ^ i) * 8 + i) = lN (lgV g pl v F n (dn ||| 2 ^ i) (v i)).2) (k0 : (lgV g pl v F n dn (lA l)).1 = none → Q (.int (-1)) h) (k1 : ∀ c, (lgV g pl v F n dn (lA l)).1 = some c → c < n → btn dn c = 0 → Q (.int (nI c)) h) : wpC (d + 2) true 24 [.ref 78, .int (nI dn), .int (-1)] h Q := by
  obtain ⟨hg, hn1, hn8, hpl⟩ := lg.1
  have hp8 := pow_n8 hn8; have hp1 := pow_n1 n
  have hF := lg.2.1
  have htb := tot_b hg
  refine go_in rfl ?_
  refine exf_go 6 (show Go (d + 1) true 24 8 [.ref 78, .int (nI dn), .int (-1), .int (-1), .long 0, mk_, .int 0, mk_, mk_] [] h Q from ?_)
  have L8 : ∀ (k8 : Nat) (z7 : Value) (i : Nat) (o : Option Nat) (m : Nat), (n - i) < k8 → (i ≤ n) → ((o, m) = nrF (ntn dn) (lgF g pl v F n dn (lA l)) i) → Go (d + 1) true 24 8 [.ref 78, .int (nI dn), .int (-1), .int (oI o), .long (lN m), mk_, .int (nI i), z7, mk_] [] h Q := by
    intro k8
    induction k8 with
    | zero => intro z7 i o m hk; exact absurd hk (Nat.not_lt_zero _)
    | succ k8 ih8 =>
      intro z7 i o m hk hi hs
      have hm : m ≤ 4000000000000 := by have := nrF_le (p := ntn dn) (f := lgF g pl v F n dn (lA l)) (fun k => lgF_b hg hn8 hpl hF dn (lA l) k) i; rw [← hs] at this; exact this
      have hob : ∀ q, o = some q → q < i := by intro q e; exact nrF_b (p := ntn dn) (f := lgF g pl v F n dn (lA l)) i q (by rw [← hs]; exact e)
      have hbl := btn_le dn i
      rcases o with _ | c
      · skip
        show Go (d + 1) true 24 8 [.ref 78, .int (nI dn), .int (-1), .int (-1), .long (lN m), mk_, .int (nI i), z7, mk_] [] h Q
        refine exf_go 3 (show Go (d + 1) true 24 14 [.ref 78, .int (nI dn), .int (-1), .int (-1), .long (lN m), mk_, .int (nI i), z7, mk_] [.int (rI h 78 1), .int (nI i)] h Q from ?_)
        rw [show (rI h 78 1 : Int32) = nI n from lg.2.2.1]
        refine exf_go 1 (show ((nI n) ≤ (nI i) → Go (d + 1) true 24 62 [.ref 78, .int (nI dn), .int (-1), .int (-1), .long (lN m), mk_, .int (nI i), z7, mk_] [] h Q) ∧ (¬ ((nI n) ≤ (nI i)) → Go (d + 1) true 24 17 [.ref 78, .int (nI dn), .int (-1), .int (-1), .long (lN m), mk_, .int (nI i), z7, mk_] [] h Q) from ⟨fun c1 => ?_, fun c1 => ?_⟩)
        · skip
          have c1 : n ≤ i := (nI_leI (a := n) (b := i) (by omega) (by omega)).mp c1
          refine exf_go 2 (show Q (.int (-1)) h from ?_)
          have e : i = n := by omega
          subst e
          exact k0 (by rw [lgV_nr, ← hs])
        · skip
          have c1 : ¬ n ≤ i := fun q => c1 ((nI_leI (a := n) (b := i) (by omega) (by omega)).mpr q)
          refine exf_go 3 (show Go (d + 1) true 24 21 [.ref 78, .int (nI dn), .int (-1), .int (-1), .long (lN m), mk_, .int (nI i), z7, mk_] [.int ((nI dn) >>> ((nI i) &&& 31))] h Q from ?_)
          rw [show ((nI dn) >>> ((nI i) &&& 31) : Int32) = nI (dn / 2 ^ i) from nI_shr (a := dn) (k := i) (by omega) (by omega)]
          refine exf_go 2 (show Go (d + 1) true 24 23 [.ref 78, .int (nI dn), .int (-1), .int (-1), .long (lN m), mk_, .int (nI i), z7, mk_] [.int ((nI (dn / 2 ^ i)) &&& 1)] h Q from ?_)
          rw [show ((nI (dn / 2 ^ i)) &&& 1 : Int32) = nI (btn dn i) from nI_low1 (Nat.lt_of_le_of_lt (Nat.div_le_self _ _) (by omega))]
          refine exf_go 1 (show (¬ (nI (btn dn i)) = 0 → Go (d + 1) true 24 56 [.ref 78, .int (nI dn), .int (-1), .int (-1), .long (lN m), mk_, .int (nI i), z7, mk_] [] h Q) ∧ (¬ (¬ (nI (btn dn i)) = 0) → Go (d + 1) true 24 26 [.ref 78, .int (nI dn), .int (-1), .int (-1), .long (lN m), mk_, .int (nI i), z7, mk_] [] h Q) from ⟨fun c2 => ?_, fun c2 => ?_⟩)
          · skip
            have c2 : ¬ (btn dn i) = 0 := fun q => c2 ((nI_eq (a := (btn dn i)) (b := 0) (by omega) (by omega)).mpr q)
            refine exf_go 1 (show Go (d + 1) true 24 59 [.ref 78, .int (nI dn), .int (-1), .int (-1), .long (lN m), mk_, .int ((nI i) + 1), z7, mk_] [] h Q from ?_)
            rw [show ((nI i) + 1 : Int32) = nI (i + 1) from nI_add i 1]
            refine exf_go 1 (show Go (d + 1) true 24 8 [.ref 78, .int (nI dn), .int (-1), .int (-1), .long (lN m), mk_, .int (nI (i + 1)), z7, mk_] [] h Q from ?_)
            exact ih8 z7 (i + 1) none m (by omega) (by omega) (by first | exact nr_no hs (by unfold ntn; exact decide_eq_false (by omega)) | exact nr_first hs (by unfold ntn; exact decide_eq_true (by omega)) | exact nr_less hs (by unfold ntn; exact decide_eq_true (by omega)) (by omega) | exact nr_more hs (by unfold ntn; exact decide_eq_true (by omega)) (by omega))
          · skip
            have c2 : (btn dn i) = 0 := (nI_eq (a := (btn dn i)) (b := 0) (by omega) (by omega)).mp (Classical.not_not.mp c2)
            refine exf_go 5 (show wpC (d + 1) true 25 [.ref 78, .int (nI dn), .int (-1), .int (nI i)] h (fun r h' => Go (d + 1) true 24 34 [.ref 78, .int (nI dn), .int (-1), .int (-1), .long (lN m), mk_, .int (nI i), z7, mk_] [r] h' Q) from ?_)
            refine c_cost0 (i := i) lg hdn (by omega) (hK i (by omega) (by omega)) ?_
            have hlb := lgF_b hg (v := v) hn8 hpl hF dn (lA l) i
            show Go (d + 1) true 24 34 [.ref 78, .int (nI dn), .int (-1), .int (-1), .long (lN m), mk_, .int (nI i), z7, mk_] [.long (lN (lgF g pl v F n dn (lA l) i))] h Q
            refine exf_go 4 (show (((-1) : Int32) = (-1) → Go (d + 1) true 24 49 [.ref 78, .int (nI dn), .int (-1), .int (-1), .long (lN m), mk_, .int (nI i), .long (lN (lgF g pl v F n dn (lA l) i)), mk_] [] h Q) ∧ (¬ (((-1) : Int32) = (-1)) → Go (d + 1) true 24 41 [.ref 78, .int (nI dn), .int (-1), .int (-1), .long (lN m), mk_, .int (nI i), .long (lN (lgF g pl v F n dn (lA l) i)), mk_] [] h Q) from ⟨fun c3 => ?_, fun c3 => ?_⟩)
            · skip
              refine exf_go 5 (show Go (d + 1) true 24 59 [.ref 78, .int (nI dn), .int (-1), .int (nI i), .long (lN (lgF g pl v F n dn (lA l) i)), mk_, .int ((nI i) + 1), .long (lN (lgF g pl v F n dn (lA l) i)), mk_] [] h Q from ?_)
              rw [show ((nI i) + 1 : Int32) = nI (i + 1) from nI_add i 1]
              refine exf_go 1 (show Go (d + 1) true 24 8 [.ref 78, .int (nI dn), .int (-1), .int (nI i), .long (lN (lgF g pl v F n dn (lA l) i)), mk_, .int (nI (i + 1)), .long (lN (lgF g pl v F n dn (lA l) i)), mk_] [] h Q from ?_)
              exact ih8 (.long (lN (lgF g pl v F n dn (lA l) i))) (i + 1) (some i) (lgF g pl v F n dn (lA l) i) (by omega) (by omega) (by first | exact nr_no hs (by unfold ntn; exact decide_eq_false (by omega)) | exact nr_first hs (by unfold ntn; exact decide_eq_true (by omega)) | exact nr_less hs (by unfold ntn; exact decide_eq_true (by omega)) (by omega) | exact nr_more hs (by unfold ntn; exact decide_eq_true (by omega)) (by omega))
            · skip
              exact absurd (by decide) c3
      · skip
        have := hob c rfl
        show Go (d + 1) true 24 8 [.ref 78, .int (nI dn), .int (-1), .int (nI c), .long (lN m), mk_, .int (nI i), z7, mk_] [] h Q
        refine exf_go 3 (show Go (d + 1) true 24 14 [.ref 78, .int (nI dn), .int (-1), .int (nI c), .long (lN m), mk_, .int (nI i), z7, mk_] [.int (rI h 78 1), .int (nI i)] h Q from ?_)
        rw [show (rI h 78 1 : Int32) = nI n from lg.2.2.1]
        refine exf_go 1 (show ((nI n) ≤ (nI i) → Go (d + 1) true 24 62 [.ref 78, .int (nI dn), .int (-1), .int (nI c), .long (lN m), mk_, .int (nI i), z7, mk_] [] h Q) ∧ (¬ ((nI n) ≤ (nI i)) → Go (d + 1) true 24 17 [.ref 78, .int (nI dn), .int (-1), .int (nI c), .long (lN m), mk_, .int (nI i), z7, mk_] [] h Q) from ⟨fun c4 => ?_, fun c4 => ?_⟩)
        · skip
          have c4 : n ≤ i := (nI_leI (a := n) (b := i) (by omega) (by omega)).mp c4
          refine exf_go 2 (show Q (.int (nI c)) h from ?_)
          have e : i = n := by omega
          subst e
          have hv := nrF_val (p := ntn dn) (f := lgF g pl v F i dn (lA l)) i c (by rw [← hs])
          exact k1 _ (by rw [lgV_nr, ← hs]) hv.2.2 (of_decide_eq_true hv.2.1)
        · skip
          have c4 : ¬ n ≤ i := fun q => c4 ((nI_leI (a := n) (b := i) (by omega) (by omega)).mpr q)
          refine exf_go 3 (show Go (d + 1) true 24 21 [.ref 78, .int (nI dn), .int (-1), .int (nI c), .long (lN m), mk_, .int (nI i), z7, mk_] [.int ((nI dn) >>> ((nI i) &&& 31))] h Q from ?_)
          rw [show ((nI dn) >>> ((nI i) &&& 31) : Int32) = nI (dn / 2 ^ i) from nI_shr (a := dn) (k := i) (by omega) (by omega)]
          refine exf_go 2 (show Go (d + 1) true 24 23 [.ref 78, .int (nI dn), .int (-1), .int (nI c), .long (lN m), mk_, .int (nI i), z7, mk_] [.int ((nI (dn / 2 ^ i)) &&& 1)] h Q from ?_)
          rw [show ((nI (dn / 2 ^ i)) &&& 1 : Int32) = nI (btn dn i) from nI_low1 (Nat.lt_of_le_of_lt (Nat.div_le_self _ _) (by omega))]
          refine exf_go 1 (show (¬ (nI (btn dn i)) = 0 → Go (d + 1) true 24 56 [.ref 78, .int (nI dn), .int (-1), .int (nI c), .long (lN m), mk_, .int (nI i), z7, mk_] [] h Q) ∧ (¬ (¬ (nI (btn dn i)) = 0) → Go (d + 1) true 24 26 [.ref 78, .int (nI dn), .int (-1), .int (nI c), .long (lN m), mk_, .int (nI i), z7, mk_] [] h Q) from ⟨fun c5 => ?_, fun c5 => ?_⟩)
          · skip
            have c5 : ¬ (btn dn i) = 0 := fun q => c5 ((nI_eq (a := (btn dn i)) (b := 0) (by omega) (by omega)).mpr q)
            refine exf_go 1 (show Go (d + 1) true 24 59 [.ref 78, .int (nI dn), .int (-1), .int (nI c), .long (lN m), mk_, .int ((nI i) + 1), z7, mk_] [] h Q from ?_)
            rw [show ((nI i) + 1 : Int32) = nI (i + 1) from nI_add i 1]
            refine exf_go 1 (show Go (d + 1) true 24 8 [.ref 78, .int (nI dn), .int (-1), .int (nI c), .long (lN m), mk_, .int (nI (i + 1)), z7, mk_] [] h Q from ?_)
            exact ih8 z7 (i + 1) (some c) m (by omega) (by omega) (by first | exact nr_no hs (by unfold ntn; exact decide_eq_false (by omega)) | exact nr_first hs (by unfold ntn; exact decide_eq_true (by omega)) | exact nr_less hs (by unfold ntn; exact decide_eq_true (by omega)) (by omega) | exact nr_more hs (by unfold ntn; exact decide_eq_true (by omega)) (by omega))
          · skip
            have c5 : (btn dn i) = 0 := (nI_eq (a := (btn dn i)) (b := 0) (by omega) (by omega)).mp (Classical.not_not.mp c5)
            refine exf_go 5 (show wpC (d + 1) true 25 [.ref 78, .int (nI dn), .int (-1), .int (nI i)] h (fun r h' => Go (d + 1) true 24 34 [.ref 78, .int (nI dn), .int (-1), .int (nI c), .long (lN m), mk_, .int (nI i), z7, mk_] [r] h' Q) from ?_)
            refine c_cost0 (i := i) lg hdn (by omega) (hK i (by omega) (by omega)) ?_
            have hlb := lgF_b hg (v := v) hn8 hpl hF dn (lA l) i
            show Go (d + 1) true 24 34 [.ref 78, .int (nI dn), .int (-1), .int (nI c), .long (lN m), mk_, .int (nI i), z7, mk_] [.long (lN (lgF g pl v F n dn (lA l) i))] h Q
            refine exf_go 4 (show ((nI c) = (-1) → Go (d + 1) true 24 49 [.ref 78, .int (nI dn), .int (-1), .int (nI c), .long (lN m), mk_, .int (nI i), .long (lN (lgF g pl v F n dn (lA l) i)), mk_] [] h Q) ∧ (¬ ((nI c) = (-1)) → Go (d + 1) true 24 41 [.ref 78, .int (nI dn), .int (-1), .int (nI c), .long (lN m), mk_, .int (nI i), .long (lN (lgF g pl v F n dn (lA l) i)), mk_] [] h Q) from ⟨fun c6 => ?_, fun c6 => ?_⟩)
            · skip
              exact absurd c6 (ng_eq (by omega) (by decide))
            · skip
              refine exf_go 4 (show (0 ≤ (lg_cmp (lN (lgF g pl v F n dn (lA l) i)) (lN m)) → Go (d + 1) true 24 56 [.ref 78, .int (nI dn), .int (-1), .int (nI c), .long (lN m), mk_, .int (nI i), .long (lN (lgF g pl v F n dn (lA l) i)), mk_] [] h Q) ∧ (¬ (0 ≤ (lg_cmp (lN (lgF g pl v F n dn (lA l) i)) (lN m))) → Go (d + 1) true 24 49 [.ref 78, .int (nI dn), .int (-1), .int (nI c), .long (lN m), mk_, .int (nI i), .long (lN (lgF g pl v F n dn (lA l) i)), mk_] [] h Q) from ⟨fun c7 => ?_, fun c7 => ?_⟩)
              · skip
                have c7 : (lN m) ≤ (lN (lgF g pl v F n dn (lA l) i)) := (lg_cmp_ge _ _).mp c7
                have c7 : m ≤ (lgF g pl v F n dn (lA l) i) := (pk_lLE (a := m) (b := (lgF g pl v F n dn (lA l) i)) (by omega) (by omega)).mp c7
                refine exf_go 1 (show Go (d + 1) true 24 59 [.ref 78, .int (nI dn), .int (-1), .int (nI c), .long (lN m), mk_, .int ((nI i) + 1), .long (lN (lgF g pl v F n dn (lA l) i)), mk_] [] h Q from ?_)
                rw [show ((nI i) + 1 : Int32) = nI (i + 1) from nI_add i 1]
                refine exf_go 1 (show Go (d + 1) true 24 8 [.ref 78, .int (nI dn), .int (-1), .int (nI c), .long (lN m), mk_, .int (nI (i + 1)), .long (lN (lgF g pl v F n dn (lA l) i)), mk_] [] h Q from ?_)
                exact ih8 (.long (lN (lgF g pl v F n dn (lA l) i))) (i + 1) (some c) m (by omega) (by omega) (by first | exact nr_no hs (by unfold ntn; exact decide_eq_false (by omega)) | exact nr_first hs (by unfold ntn; exact decide_eq_true (by omega)) | exact nr_less hs (by unfold ntn; exact decide_eq_true (by omega)) (by omega) | exact nr_more hs (by unfold ntn; exact decide_eq_true (by omega)) (by omega))
              · skip
                have c7 : ¬ ((lN m) ≤ (lN (lgF g pl v F n dn (lA l) i))) := fun q => c7 ((lg_cmp_ge _ _).mpr q)
                have c7 : ¬ (m ≤ (lgF g pl v F n dn (lA l) i)) := fun q => c7 ((pk_lLE (a := m) (b := (lgF g pl v F n dn (lA l) i)) (by omega) (by omega)).mpr q)
                refine exf_go 5 (show Go (d + 1) true 24 59 [.ref 78, .int (nI dn), .int (-1), .int (nI i), .long (lN (lgF g pl v F n dn (lA l) i)), mk_, .int ((nI i) + 1), .long (lN (lgF g pl v F n dn (lA l) i)), mk_] [] h Q from ?_)
                rw [show ((nI i) + 1 : Int32) = nI (i + 1) from nI_add i 1]
                refine exf_go 1 (show Go (d + 1) true 24 8 [.ref 78, .int (nI dn), .int (-1), .int (nI i), .long (lN (lgF g pl v F n dn (lA l) i)), mk_, .int (nI (i + 1)), .long (lN (lgF g pl v F n dn (lA l) i)), mk_] [] h Q from ?_)
                exact ih8 (.long (lN (lgF g pl v F n dn (lA l) i))) (i + 1) (some i) (lgF g pl v F n dn (lA l) i) (by omega) (by omega) (by first | exact nr_no hs (by unfold ntn; exact decide_eq_false (by omega)) | exact nr_first hs (by unfold ntn; exact decide_eq_true (by omega)) | exact nr_less hs (by unfold ntn; exact decide_eq_true (by omega)) (by omega) | exact nr_more hs (by unfold ntn; exact decide_eq_true (by omega)) (by omega))
  exact L8 (n + 1) mk_ 0 none 0 (by omega) (by omega) rfl
theorem c_next1 {d : Nat} {h : Hp} {g : ShG} {l : LkG} {pl : Nat} {v F : Nat → Nat} {n : Nat} {dn b : Nat} {Q : Po} (lg : LGR g l pl v F n h) (hdn : dn < 2 ^ n) (hb : b < n) (hK : ∀ i, i < n → btn dn i = 0 → rJ h 83 ((dn ||| 2 ^ i) * 8 + i) = lN (lgV g pl v F n (dn ||| 2 ^ i) (v i)).2) (k0 : (lgV g pl v F n dn (v b)).1 = none → Q (.int (-1)) h) (k1 : ∀ c, (lgV g pl v F n dn (v b)).1 = some c → c < n → btn dn c = 0 → Q (.int (nI c)) h) : wpC (d + 2) true 24 [.ref 78, .int (nI dn), .int (nI b)] h Q := by
  obtain ⟨hg, hn1, hn8, hpl⟩ := lg.1
  have hp8 := pow_n8 hn8; have hp1 := pow_n1 n
  have hF := lg.2.1
  have htb := tot_b hg
  refine go_in rfl ?_
  refine exf_go 6 (show Go (d + 1) true 24 8 [.ref 78, .int (nI dn), .int (nI b), .int (-1), .long 0, mk_, .int 0, mk_, mk_] [] h Q from ?_)
  have L8 : ∀ (k8 : Nat) (z7 : Value) (i : Nat) (o : Option Nat) (m : Nat), (n - i) < k8 → (i ≤ n) → ((o, m) = nrF (ntn dn) (lgF g pl v F n dn (v b)) i) → Go (d + 1) true 24 8 [.ref 78, .int (nI dn), .int (nI b), .int (oI o), .long (lN m), mk_, .int (nI i), z7, mk_] [] h Q := by
    intro k8
    induction k8 with
    | zero => intro z7 i o m hk; exact absurd hk (Nat.not_lt_zero _)
    | succ k8 ih8 =>
      intro z7 i o m hk hi hs
      have hm : m ≤ 4000000000000 := by have := nrF_le (p := ntn dn) (f := lgF g pl v F n dn (v b)) (fun k => lgF_b hg hn8 hpl hF dn (v b) k) i; rw [← hs] at this; exact this
      have hob : ∀ q, o = some q → q < i := by intro q e; exact nrF_b (p := ntn dn) (f := lgF g pl v F n dn (v b)) i q (by rw [← hs]; exact e)
      have hbl := btn_le dn i
      rcases o with _ | c
      · skip
        show Go (d + 1) true 24 8 [.ref 78, .int (nI dn), .int (nI b), .int (-1), .long (lN m), mk_, .int (nI i), z7, mk_] [] h Q
        refine exf_go 3 (show Go (d + 1) true 24 14 [.ref 78, .int (nI dn), .int (nI b), .int (-1), .long (lN m), mk_, .int (nI i), z7, mk_] [.int (rI h 78 1), .int (nI i)] h Q from ?_)
        rw [show (rI h 78 1 : Int32) = nI n from lg.2.2.1]
        refine exf_go 1 (show ((nI n) ≤ (nI i) → Go (d + 1) true 24 62 [.ref 78, .int (nI dn), .int (nI b), .int (-1), .long (lN m), mk_, .int (nI i), z7, mk_] [] h Q) ∧ (¬ ((nI n) ≤ (nI i)) → Go (d + 1) true 24 17 [.ref 78, .int (nI dn), .int (nI b), .int (-1), .long (lN m), mk_, .int (nI i), z7, mk_] [] h Q) from ⟨fun c1 => ?_, fun c1 => ?_⟩)
        · skip
          have c1 : n ≤ i := (nI_leI (a := n) (b := i) (by omega) (by omega)).mp c1
          refine exf_go 2 (show Q (.int (-1)) h from ?_)
          have e : i = n := by omega
          subst e
          exact k0 (by rw [lgV_nr, ← hs])
        · skip
          have c1 : ¬ n ≤ i := fun q => c1 ((nI_leI (a := n) (b := i) (by omega) (by omega)).mpr q)
          refine exf_go 3 (show Go (d + 1) true 24 21 [.ref 78, .int (nI dn), .int (nI b), .int (-1), .long (lN m), mk_, .int (nI i), z7, mk_] [.int ((nI dn) >>> ((nI i) &&& 31))] h Q from ?_)
          rw [show ((nI dn) >>> ((nI i) &&& 31) : Int32) = nI (dn / 2 ^ i) from nI_shr (a := dn) (k := i) (by omega) (by omega)]
          refine exf_go 2 (show Go (d + 1) true 24 23 [.ref 78, .int (nI dn), .int (nI b), .int (-1), .long (lN m), mk_, .int (nI i), z7, mk_] [.int ((nI (dn / 2 ^ i)) &&& 1)] h Q from ?_)
          rw [show ((nI (dn / 2 ^ i)) &&& 1 : Int32) = nI (btn dn i) from nI_low1 (Nat.lt_of_le_of_lt (Nat.div_le_self _ _) (by omega))]
          refine exf_go 1 (show (¬ (nI (btn dn i)) = 0 → Go (d + 1) true 24 56 [.ref 78, .int (nI dn), .int (nI b), .int (-1), .long (lN m), mk_, .int (nI i), z7, mk_] [] h Q) ∧ (¬ (¬ (nI (btn dn i)) = 0) → Go (d + 1) true 24 26 [.ref 78, .int (nI dn), .int (nI b), .int (-1), .long (lN m), mk_, .int (nI i), z7, mk_] [] h Q) from ⟨fun c2 => ?_, fun c2 => ?_⟩)
          · skip
            have c2 : ¬ (btn dn i) = 0 := fun q => c2 ((nI_eq (a := (btn dn i)) (b := 0) (by omega) (by omega)).mpr q)
            refine exf_go 1 (show Go (d + 1) true 24 59 [.ref 78, .int (nI dn), .int (nI b), .int (-1), .long (lN m), mk_, .int ((nI i) + 1), z7, mk_] [] h Q from ?_)
            rw [show ((nI i) + 1 : Int32) = nI (i + 1) from nI_add i 1]
            refine exf_go 1 (show Go (d + 1) true 24 8 [.ref 78, .int (nI dn), .int (nI b), .int (-1), .long (lN m), mk_, .int (nI (i + 1)), z7, mk_] [] h Q from ?_)
            exact ih8 z7 (i + 1) none m (by omega) (by omega) (by first | exact nr_no hs (by unfold ntn; exact decide_eq_false (by omega)) | exact nr_first hs (by unfold ntn; exact decide_eq_true (by omega)) | exact nr_less hs (by unfold ntn; exact decide_eq_true (by omega)) (by omega) | exact nr_more hs (by unfold ntn; exact decide_eq_true (by omega)) (by omega))
          · skip
            have c2 : (btn dn i) = 0 := (nI_eq (a := (btn dn i)) (b := 0) (by omega) (by omega)).mp (Classical.not_not.mp c2)
            refine exf_go 5 (show wpC (d + 1) true 25 [.ref 78, .int (nI dn), .int (nI b), .int (nI i)] h (fun r h' => Go (d + 1) true 24 34 [.ref 78, .int (nI dn), .int (nI b), .int (-1), .long (lN m), mk_, .int (nI i), z7, mk_] [r] h' Q) from ?_)
            refine c_cost1 (b := b) (i := i) lg hdn (by omega) (by omega) (hK i (by omega) (by omega)) ?_
            have hlb := lgF_b hg (v := v) hn8 hpl hF dn (v b) i
            show Go (d + 1) true 24 34 [.ref 78, .int (nI dn), .int (nI b), .int (-1), .long (lN m), mk_, .int (nI i), z7, mk_] [.long (lN (lgF g pl v F n dn (v b) i))] h Q
            refine exf_go 4 (show (((-1) : Int32) = (-1) → Go (d + 1) true 24 49 [.ref 78, .int (nI dn), .int (nI b), .int (-1), .long (lN m), mk_, .int (nI i), .long (lN (lgF g pl v F n dn (v b) i)), mk_] [] h Q) ∧ (¬ (((-1) : Int32) = (-1)) → Go (d + 1) true 24 41 [.ref 78, .int (nI dn), .int (nI b), .int (-1), .long (lN m), mk_, .int (nI i), .long (lN (lgF g pl v F n dn (v b) i)), mk_] [] h Q) from ⟨fun c3 => ?_, fun c3 => ?_⟩)
            · skip
              refine exf_go 5 (show Go (d + 1) true 24 59 [.ref 78, .int (nI dn), .int (nI b), .int (nI i), .long (lN (lgF g pl v F n dn (v b) i)), mk_, .int ((nI i) + 1), .long (lN (lgF g pl v F n dn (v b) i)), mk_] [] h Q from ?_)
              rw [show ((nI i) + 1 : Int32) = nI (i + 1) from nI_add i 1]
              refine exf_go 1 (show Go (d + 1) true 24 8 [.ref 78, .int (nI dn), .int (nI b), .int (nI i), .long (lN (lgF g pl v F n dn (v b) i)), mk_, .int (nI (i + 1)), .long (lN (lgF g pl v F n dn (v b) i)), mk_] [] h Q from ?_)
              exact ih8 (.long (lN (lgF g pl v F n dn (v b) i))) (i + 1) (some i) (lgF g pl v F n dn (v b) i) (by omega) (by omega) (by first | exact nr_no hs (by unfold ntn; exact decide_eq_false (by omega)) | exact nr_first hs (by unfold ntn; exact decide_eq_true (by omega)) | exact nr_less hs (by unfold ntn; exact decide_eq_true (by omega)) (by omega) | exact nr_more hs (by unfold ntn; exact decide_eq_true (by omega)) (by omega))
            · skip
              exact absurd (by decide) c3
      · skip
        have := hob c rfl
        show Go (d + 1) true 24 8 [.ref 78, .int (nI dn), .int (nI b), .int (nI c), .long (lN m), mk_, .int (nI i), z7, mk_] [] h Q
        refine exf_go 3 (show Go (d + 1) true 24 14 [.ref 78, .int (nI dn), .int (nI b), .int (nI c), .long (lN m), mk_, .int (nI i), z7, mk_] [.int (rI h 78 1), .int (nI i)] h Q from ?_)
        rw [show (rI h 78 1 : Int32) = nI n from lg.2.2.1]
        refine exf_go 1 (show ((nI n) ≤ (nI i) → Go (d + 1) true 24 62 [.ref 78, .int (nI dn), .int (nI b), .int (nI c), .long (lN m), mk_, .int (nI i), z7, mk_] [] h Q) ∧ (¬ ((nI n) ≤ (nI i)) → Go (d + 1) true 24 17 [.ref 78, .int (nI dn), .int (nI b), .int (nI c), .long (lN m), mk_, .int (nI i), z7, mk_] [] h Q) from ⟨fun c4 => ?_, fun c4 => ?_⟩)
        · skip
          have c4 : n ≤ i := (nI_leI (a := n) (b := i) (by omega) (by omega)).mp c4
          refine exf_go 2 (show Q (.int (nI c)) h from ?_)
          have e : i = n := by omega
          subst e
          have hv := nrF_val (p := ntn dn) (f := lgF g pl v F i dn (v b)) i c (by rw [← hs])
          exact k1 _ (by rw [lgV_nr, ← hs]) hv.2.2 (of_decide_eq_true hv.2.1)
        · skip
          have c4 : ¬ n ≤ i := fun q => c4 ((nI_leI (a := n) (b := i) (by omega) (by omega)).mpr q)
          refine exf_go 3 (show Go (d + 1) true 24 21 [.ref 78, .int (nI dn), .int (nI b), .int (nI c), .long (lN m), mk_, .int (nI i), z7, mk_] [.int ((nI dn) >>> ((nI i) &&& 31))] h Q from ?_)
          rw [show ((nI dn) >>> ((nI i) &&& 31) : Int32) = nI (dn / 2 ^ i) from nI_shr (a := dn) (k := i) (by omega) (by omega)]
          refine exf_go 2 (show Go (d + 1) true 24 23 [.ref 78, .int (nI dn), .int (nI b), .int (nI c), .long (lN m), mk_, .int (nI i), z7, mk_] [.int ((nI (dn / 2 ^ i)) &&& 1)] h Q from ?_)
          rw [show ((nI (dn / 2 ^ i)) &&& 1 : Int32) = nI (btn dn i) from nI_low1 (Nat.lt_of_le_of_lt (Nat.div_le_self _ _) (by omega))]
          refine exf_go 1 (show (¬ (nI (btn dn i)) = 0 → Go (d + 1) true 24 56 [.ref 78, .int (nI dn), .int (nI b), .int (nI c), .long (lN m), mk_, .int (nI i), z7, mk_] [] h Q) ∧ (¬ (¬ (nI (btn dn i)) = 0) → Go (d + 1) true 24 26 [.ref 78, .int (nI dn), .int (nI b), .int (nI c), .long (lN m), mk_, .int (nI i), z7, mk_] [] h Q) from ⟨fun c5 => ?_, fun c5 => ?_⟩)
          · skip
            have c5 : ¬ (btn dn i) = 0 := fun q => c5 ((nI_eq (a := (btn dn i)) (b := 0) (by omega) (by omega)).mpr q)
            refine exf_go 1 (show Go (d + 1) true 24 59 [.ref 78, .int (nI dn), .int (nI b), .int (nI c), .long (lN m), mk_, .int ((nI i) + 1), z7, mk_] [] h Q from ?_)
            rw [show ((nI i) + 1 : Int32) = nI (i + 1) from nI_add i 1]
            refine exf_go 1 (show Go (d + 1) true 24 8 [.ref 78, .int (nI dn), .int (nI b), .int (nI c), .long (lN m), mk_, .int (nI (i + 1)), z7, mk_] [] h Q from ?_)
            exact ih8 z7 (i + 1) (some c) m (by omega) (by omega) (by first | exact nr_no hs (by unfold ntn; exact decide_eq_false (by omega)) | exact nr_first hs (by unfold ntn; exact decide_eq_true (by omega)) | exact nr_less hs (by unfold ntn; exact decide_eq_true (by omega)) (by omega) | exact nr_more hs (by unfold ntn; exact decide_eq_true (by omega)) (by omega))
          · skip
            have c5 : (btn dn i) = 0 := (nI_eq (a := (btn dn i)) (b := 0) (by omega) (by omega)).mp (Classical.not_not.mp c5)
            refine exf_go 5 (show wpC (d + 1) true 25 [.ref 78, .int (nI dn), .int (nI b), .int (nI i)] h (fun r h' => Go (d + 1) true 24 34 [.ref 78, .int (nI dn), .int (nI b), .int (nI c), .long (lN m), mk_, .int (nI i), z7, mk_] [r] h' Q) from ?_)
            refine c_cost1 (b := b) (i := i) lg hdn (by omega) (by omega) (hK i (by omega) (by omega)) ?_
            have hlb := lgF_b hg (v := v) hn8 hpl hF dn (v b) i
            show Go (d + 1) true 24 34 [.ref 78, .int (nI dn), .int (nI b), .int (nI c), .long (lN m), mk_, .int (nI i), z7, mk_] [.long (lN (lgF g pl v F n dn (v b) i))] h Q
            refine exf_go 4 (show ((nI c) = (-1) → Go (d + 1) true 24 49 [.ref 78, .int (nI dn), .int (nI b), .int (nI c), .long (lN m), mk_, .int (nI i), .long (lN (lgF g pl v F n dn (v b) i)), mk_] [] h Q) ∧ (¬ ((nI c) = (-1)) → Go (d + 1) true 24 41 [.ref 78, .int (nI dn), .int (nI b), .int (nI c), .long (lN m), mk_, .int (nI i), .long (lN (lgF g pl v F n dn (v b) i)), mk_] [] h Q) from ⟨fun c6 => ?_, fun c6 => ?_⟩)
            · skip
              exact absurd c6 (ng_eq (by omega) (by decide))
            · skip
              refine exf_go 4 (show (0 ≤ (lg_cmp (lN (lgF g pl v F n dn (v b) i)) (lN m)) → Go (d + 1) true 24 56 [.ref 78, .int (nI dn), .int (nI b), .int (nI c), .long (lN m), mk_, .int (nI i), .long (lN (lgF g pl v F n dn (v b) i)), mk_] [] h Q) ∧ (¬ (0 ≤ (lg_cmp (lN (lgF g pl v F n dn (v b) i)) (lN m))) → Go (d + 1) true 24 49 [.ref 78, .int (nI dn), .int (nI b), .int (nI c), .long (lN m), mk_, .int (nI i), .long (lN (lgF g pl v F n dn (v b) i)), mk_] [] h Q) from ⟨fun c7 => ?_, fun c7 => ?_⟩)
              · skip
                have c7 : (lN m) ≤ (lN (lgF g pl v F n dn (v b) i)) := (lg_cmp_ge _ _).mp c7
                have c7 : m ≤ (lgF g pl v F n dn (v b) i) := (pk_lLE (a := m) (b := (lgF g pl v F n dn (v b) i)) (by omega) (by omega)).mp c7
                refine exf_go 1 (show Go (d + 1) true 24 59 [.ref 78, .int (nI dn), .int (nI b), .int (nI c), .long (lN m), mk_, .int ((nI i) + 1), .long (lN (lgF g pl v F n dn (v b) i)), mk_] [] h Q from ?_)
                rw [show ((nI i) + 1 : Int32) = nI (i + 1) from nI_add i 1]
                refine exf_go 1 (show Go (d + 1) true 24 8 [.ref 78, .int (nI dn), .int (nI b), .int (nI c), .long (lN m), mk_, .int (nI (i + 1)), .long (lN (lgF g pl v F n dn (v b) i)), mk_] [] h Q from ?_)
                exact ih8 (.long (lN (lgF g pl v F n dn (v b) i))) (i + 1) (some c) m (by omega) (by omega) (by first | exact nr_no hs (by unfold ntn; exact decide_eq_false (by omega)) | exact nr_first hs (by unfold ntn; exact decide_eq_true (by omega)) | exact nr_less hs (by unfold ntn; exact decide_eq_true (by omega)) (by omega) | exact nr_more hs (by unfold ntn; exact decide_eq_true (by omega)) (by omega))
              · skip
                have c7 : ¬ ((lN m) ≤ (lN (lgF g pl v F n dn (v b) i))) := fun q => c7 ((lg_cmp_ge _ _).mpr q)
                have c7 : ¬ (m ≤ (lgF g pl v F n dn (v b) i)) := fun q => c7 ((pk_lLE (a := m) (b := (lgF g pl v F n dn (v b) i)) (by omega) (by omega)).mpr q)
                refine exf_go 5 (show Go (d + 1) true 24 59 [.ref 78, .int (nI dn), .int (nI b), .int (nI i), .long (lN (lgF g pl v F n dn (v b) i)), mk_, .int ((nI i) + 1), .long (lN (lgF g pl v F n dn (v b) i)), mk_] [] h Q from ?_)
                rw [show ((nI i) + 1 : Int32) = nI (i + 1) from nI_add i 1]
                refine exf_go 1 (show Go (d + 1) true 24 8 [.ref 78, .int (nI dn), .int (nI b), .int (nI i), .long (lN (lgF g pl v F n dn (v b) i)), mk_, .int (nI (i + 1)), .long (lN (lgF g pl v F n dn (v b) i)), mk_] [] h Q from ?_)
                exact ih8 (.long (lN (lgF g pl v F n dn (v b) i))) (i + 1) (some i) (lgF g pl v F n dn (v b) i) (by omega) (by omega) (by first | exact nr_no hs (by unfold ntn; exact decide_eq_false (by omega)) | exact nr_first hs (by unfold ntn; exact decide_eq_true (by omega)) | exact nr_less hs (by unfold ntn; exact decide_eq_true (by omega)) (by omega) | exact nr_more hs (by unfold ntn; exact decide_eq_true (by omega)) (by omega))
  exact L8 (n + 1) mk_ 0 none 0 (by omega) (by omega) rfl
