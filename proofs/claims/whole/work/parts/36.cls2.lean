/-! The way through all numbers; parts in lowest terms; sure figures; the telling clue. -/
def tur (g : ShG) (s w f : Nat) : Nat := if s % 2 = 1 then sF g w - 1 - f else f
def swp (g : ShG) (k : Nat) : Nat → Nat
  | 0 => 0
  | w + 1 => swp g k w * sF g w + fgo g k w
def thr (g : ShG) (k : Nat) : Nat → Nat
  | 0 => 0
  | w + 1 => thr g k w * sF g w + tur g (swp g k w) w (fgo g k w)
def alo (g : ShG) (n : Nat) : Nat → Nat
  | 0 => 0
  | w + 1 => alo g n w * sF g w + tur g (alo g n w) w (fgo g n w)
def aft (g : ShG) : Nat → Nat
  | 0 => tot g
  | w + 1 => wor g w
theorem aft_s (g : ShG) {w : Nat} (hw : w < 4) : aft g w = sF g w * aft g (w + 1) := by
  match w, hw with
  | 0, _ => rfl
  | 1, _ => rfl
  | 2, _ => rfl
  | 3, _ => exact (Nat.mul_one _).symm
theorem aft_4 (g : ShG) : aft g 4 = 1 := rfl
theorem aft_up {g : ShG} (h : ShW g) : ∀ j w, w + j = 4 → sW g ≤ w → aft g w = 1
  | 0, w, e, _ => by rw [show w = 4 from by omega]; rfl
  | j + 1, w, e, hw => by
    rw [aft_s g (by omega), aft_up h j (w + 1) (by omega) (by omega), (h.2.2.1 w hw).1]
theorem aft_W {g : ShG} (h : ShW g) : aft g (sW g) = 1 := aft_up h (4 - sW g) _ (by have := h.1; omega) (Nat.le_refl _)
theorem tur_lt {g : ShG} (h : ShW g) (s : Nat) {w f : Nat} (hf : f < sF g w) : tur g s w f < sF g w := by
  unfold tur
  split <;> omega
/-- numbers of the first w wheels -/
def bef (g : ShG) : Nat → Nat
  | 0 => 1
  | w + 1 => bef g w * sF g w
theorem bef_b {g : ShG} (h : ShW g) : ∀ w, 1 ≤ bef g w ∧ bef g w ≤ 10 ^ w
  | 0 => ⟨Nat.le_refl _, Nat.le_refl _⟩
  | w + 1 => mul_b (bef_b h w) (sF_b h w)
theorem dig_lt {a b f x : Nat} (h1 : a < b) (h2 : x < f) : a * f + x < b * f := by
  have : (a + 1) * f ≤ b * f := Nat.mul_le_mul_right f h1
  rw [Nat.succ_mul] at this
  omega
theorem swp_lt {g : ShG} (h : ShW g) (k : Nat) : ∀ w, swp g k w < bef g w
  | 0 => by show 0 < 1; omega
  | w + 1 => dig_lt (swp_lt h k w) (fgo_lt h k w)
theorem thr_lt {g : ShG} (h : ShW g) (k : Nat) : ∀ w, thr g k w < bef g w
  | 0 => by show 0 < 1; omega
  | w + 1 => dig_lt (thr_lt h k w) (tur_lt h _ (fgo_lt h k w))
theorem alo_lt {g : ShG} (h : ShW g) (k : Nat) : ∀ w, alo g k w < bef g w
  | 0 => by show 0 < 1; omega
  | w + 1 => dig_lt (alo_lt h k w) (tur_lt h _ (fgo_lt h k w))
theorem bef_4 {g : ShG} (h : ShW g) {w : Nat} (hw : w ≤ 4) : bef g w ≤ 10000 := Nat.le_trans (bef_b h w).2 (show 10 ^ w ≤ 10 ^ 4 from Nat.pow_le_pow_right (by omega) hw)
theorem aft_b {g : ShG} (h : ShW g) {w : Nat} (hw : w ≤ 4) : 1 ≤ aft g w ∧ aft g w ≤ 10000 := by
  match w with
  | 0 => exact tot_b h
  | w + 1 => have := wor_b h w; exact ⟨this.1, by show wor g w ≤ _; omega⟩
theorem thr_num {g : ShG} {k w : Nat} (hw : w < 4) : thr g k w * aft g w + wor g w * tur g (swp g k w) w (fgo g k w) = thr g k (w + 1) * aft g (w + 1) := by
  rw [aft_s g hw, thr, show aft g (w + 1) = wor g w from rfl, Nat.add_mul, Nat.mul_assoc, Nat.mul_comm (wor g w)]
theorem thr_bd {g : ShG} (h : ShW g) {k w : Nat} (hw : w ≤ 4) : thr g k w * aft g w ≤ 100000000 := by
  have h1 := thr_lt h k w
  have h2 := bef_4 h hw
  exact Nat.mul_le_mul (show _ ≤ 10000 by omega) (aft_b h hw).2
def lenC (g : ShG) (n : Nat) : Nat := sumN (fun w => (n / wor g w - n / (wor g w * sF g w)) * sS g w) (sW g)
def fThrough (g : ShG) (x : Int32) : Int32 := match ixN x (tot g) with
  | none => -3
  | some k => nI (thr g k (sW g))
def fAlong (g : ShG) (x : Int32) : Int32 := match ixN x (tot g) with
  | none => -3
  | some k => nI (alo g k (sW g))
def fLength (g : ShG) (x : Int32) : Int32 := match ixN (x - 1) (tot g) with
  | none => -3
  | some k => nI (lenC g k)
theorem c_turned {d : Nat} {h : Hp} {g : ShG} {s w f : Nat} {Q : Po} (cs : CS 31 g h) (hs : s < 2 ^ 31) (hw : w < 4) (hf : f < sF g w) (k : Q (.int (nI (tur g s w f))) h) : wpC (d + 1) true 86 [.ref 31, .int (nI s), .int (nI w), .int (nI f)] h Q := by
  have hb := sF_b cs.1 w
  refine go_in rfl ?_
  refine exf_go 3 (show ¬ 2 = 0 ∧ (Go d true 86 3 [.ref 31, .int (nI s), .int (nI w), .int (nI f)] [.int ((nI s) - (nI s) / 2 * 2)] h Q) from ⟨(by decide), ?_⟩)
  rw [show ((nI s) - (nI s) / 2 * 2 : Int32) = nI (s % 2) from pk_rem (a := s) (d := 2) (by omega) (by omega) (by omega)]
  refine exf_go 2 (show (¬ (nI (s % 2)) = 1 → Go d true 86 20 [.ref 31, .int (nI s), .int (nI w), .int (nI f)] [] h Q) ∧ (¬ (¬ (nI (s % 2)) = 1) → Go d true 86 7 [.ref 31, .int (nI s), .int (nI w), .int (nI f)] [] h Q) from ⟨fun c1 => ?_, fun c1 => ?_⟩)
  · skip
    have c1 : ¬ (s % 2) = 1 := fun q => c1 ((nI_eq (a := (s % 2)) (b := 1) (by omega) (by omega)).mpr q)
    refine exf_go 2 (show Q (.int (nI f)) h from ?_)
    rw [show f = tur g s w f from by unfold tur; first | rw [if_pos (by assumption)] | rw [if_neg (by assumption)]]; exact k
  · skip
    have c1 : (s % 2) = 1 := (nI_eq (a := (s % 2)) (b := 1) (by omega) (by omega)).mp (Classical.not_not.mp c1)
    refine exf_go 4 (show vp_in (nI w) 4 ∧ (Go d true 86 13 [.ref 31, .int (nI s), .int (nI w), .int (nI f)] [.int (rI h 32 ((nI w).toNatClampNeg))] h Q) from ⟨(vp_in_nI (by omega) (by omega)), ?_⟩)
    rw [show (rI h 32 ((nI w).toNatClampNeg) : Int32) = nI (sF g w) from cs_sF cs (n := w) (by omega)]
    refine exf_go 2 (show Go d true 86 15 [.ref 31, .int (nI s), .int (nI w), .int (nI f)] [.int ((nI (sF g w)) - 1)] h Q from ?_)
    rw [show ((nI (sF g w)) - 1 : Int32) = nI ((sF g w) - 1) from pk_sub (a := (sF g w)) (b := 1) (by omega)]
    refine exf_go 2 (show Go d true 86 17 [.ref 31, .int (nI s), .int (nI w), .int (nI f)] [.int ((nI ((sF g w) - 1)) - (nI f))] h Q from ?_)
    rw [show ((nI ((sF g w) - 1)) - (nI f) : Int32) = nI (((sF g w) - 1) - f) from pk_sub (a := ((sF g w) - 1)) (b := f) (by omega)]
    refine exf_go 2 (show Q (.int (nI (((sF g w) - 1) - f))) h from ?_)
    rw [show ((sF g w) - 1) - f = tur g s w f from by unfold tur; first | rw [if_pos (by assumption)] | rw [if_neg (by assumption)]]; exact k
theorem c_onTheWay {d : Nat} {h : Hp} {g : ShG} {k0 : Nat} {Q : Po} (cs : CS 31 g h) (hk : k0 < 2 ^ 31) (k : Q (.int (nI (thr g k0 (sW g)))) h) : wpC (d + 2) true 84 [.ref 31, .int (nI k0)] h Q := by
  have h4 := cs.1.1
  refine go_in rfl ?_
  refine exf_go 6 (show Go (d + 1) true 84 7 [.ref 31, .int (nI k0), .int 0, .int 0, .int 0, mk_] [] h Q from ?_)
  have L7 : ∀ (k7 : Nat) (z5 : Value) (w m s : Nat), (4 - w) < k7 → (w ≤ sW g) → (m = thr g k0 w * aft g w) → (s = swp g k0 w) → Go (d + 1) true 84 7 [.ref 31, .int (nI k0), .int (nI m), .int (nI s), .int (nI w), z5] [] h Q := by
    intro k7
    induction k7 with
    | zero => intro z5 w m s hk; exact absurd hk (Nat.not_lt_zero _)
    | succ k7 ih7 =>
      intro z5 w m s hk hw hm hs
      have := swp_lt cs.1 k0 w; have := bef_4 cs.1 (w := w) (by omega)
      refine exf_go 3 (show Go (d + 1) true 84 13 [.ref 31, .int (nI k0), .int (nI m), .int (nI s), .int (nI w), z5] [.int (rI h 31 0), .int (nI w)] h Q from ?_)
      rw [show (rI h 31 0 : Int32) = nI (sW g) from cs_W cs]
      refine exf_go 1 (show ((nI (sW g)) ≤ (nI w) → Go (d + 1) true 84 64 [.ref 31, .int (nI k0), .int (nI m), .int (nI s), .int (nI w), z5] [] h Q) ∧ (¬ ((nI (sW g)) ≤ (nI w)) → Go (d + 1) true 84 16 [.ref 31, .int (nI k0), .int (nI m), .int (nI s), .int (nI w), z5] [] h Q) from ⟨fun c1 => ?_, fun c1 => ?_⟩)
      · skip
        have c1 : (sW g) ≤ w := (nI_leI (a := (sW g)) (b := w) (by omega) (by omega)).mp c1
        refine exf_go 2 (show Q (.int (nI m)) h from ?_)
        have e : w = sW g := by omega
        subst e
        rw [hm, aft_W cs.1, Nat.mul_one]; exact k
      · skip
        have c1 : ¬ (sW g) ≤ w := fun q => c1 ((nI_leI (a := (sW g)) (b := w) (by omega) (by omega)).mpr q)
        refine exf_go 4 (show wpC (d + 1) true 81 [.ref 31, .int (nI k0), .int (nI w)] h (fun r h' => Go (d + 1) true 84 23 [.ref 31, .int (nI k0), .int (nI m), .int (nI s), .int (nI w), z5] [r] h' Q) from ?_)
        refine c_figureOf cs (by omega) (by omega) ?_
        have := fgo_lt cs.1 k0 w; have := sF_b cs.1 w
        show Go (d + 1) true 84 23 [.ref 31, .int (nI k0), .int (nI m), .int (nI s), .int (nI w), z5] [.int (nI (fgo g k0 w))] h Q
        refine exf_go 6 (show vp_in (nI w) 4 ∧ (Go (d + 1) true 84 33 [.ref 31, .int (nI k0), .int (nI m), .int (nI s), .int (nI w), .int (nI (fgo g k0 w))] [.int (rI h 35 ((nI w).toNatClampNeg)), .int (nI m)] h Q) from ⟨(vp_in_nI (by omega) (by omega)), ?_⟩)
        rw [show (rI h 35 ((nI w).toNatClampNeg) : Int32) = nI (wor g w) from cs_wor cs (n := w) (by omega)]
        refine exf_go 5 (show wpC (d + 1) true 86 [.ref 31, .int (nI s), .int (nI w), .int (nI (fgo g k0 w))] h (fun r h' => Go (d + 1) true 84 42 [.ref 31, .int (nI k0), .int (nI m), .int (nI s), .int (nI w), .int (nI (fgo g k0 w))] [r, .int (nI (wor g w)), .int (nI m)] h' Q) from ?_)
        refine c_turned cs (by omega) (by omega) (by omega) ?_
        have := tur_lt cs.1 s (w := w) (f := (fgo g k0 w)) (by omega)
        show Go (d + 1) true 84 42 [.ref 31, .int (nI k0), .int (nI m), .int (nI s), .int (nI w), .int (nI (fgo g k0 w))] [.int (nI (tur g s w (fgo g k0 w))), .int (nI (wor g w)), .int (nI m)] h Q
        refine exf_go 1 (show Go (d + 1) true 84 43 [.ref 31, .int (nI k0), .int (nI m), .int (nI s), .int (nI w), .int (nI (fgo g k0 w))] [.int ((nI (wor g w)) * (nI (tur g s w (fgo g k0 w)))), .int (nI m)] h Q from ?_)
        rw [show ((nI (wor g w)) * (nI (tur g s w (fgo g k0 w))) : Int32) = nI ((wor g w) * (tur g s w (fgo g k0 w))) from pk_mul (wor g w) (tur g s w (fgo g k0 w))]
        refine exf_go 1 (show Go (d + 1) true 84 44 [.ref 31, .int (nI k0), .int (nI m), .int (nI s), .int (nI w), .int (nI (fgo g k0 w))] [.int ((nI m) + (nI ((wor g w) * (tur g s w (fgo g k0 w)))))] h Q from ?_)
        rw [show ((nI m) + (nI ((wor g w) * (tur g s w (fgo g k0 w)))) : Int32) = nI (m + ((wor g w) * (tur g s w (fgo g k0 w)))) from nI_add m ((wor g w) * (tur g s w (fgo g k0 w)))]
        refine exf_go 6 (show vp_in (nI w) 4 ∧ (Go (d + 1) true 84 53 [.ref 31, .int (nI k0), .int (nI (m + ((wor g w) * (tur g s w (fgo g k0 w))))), .int (nI s), .int (nI w), .int (nI (fgo g k0 w))] [.int (rI h 32 ((nI w).toNatClampNeg)), .int (nI s)] h Q) from ⟨(vp_in_nI (by omega) (by omega)), ?_⟩)
        rw [show (rI h 32 ((nI w).toNatClampNeg) : Int32) = nI (sF g w) from cs_sF cs (n := w) (by omega)]
        refine exf_go 1 (show Go (d + 1) true 84 54 [.ref 31, .int (nI k0), .int (nI (m + ((wor g w) * (tur g s w (fgo g k0 w))))), .int (nI s), .int (nI w), .int (nI (fgo g k0 w))] [.int ((nI s) * (nI (sF g w)))] h Q from ?_)
        rw [show ((nI s) * (nI (sF g w)) : Int32) = nI (s * (sF g w)) from pk_mul s (sF g w)]
        refine exf_go 2 (show Go (d + 1) true 84 57 [.ref 31, .int (nI k0), .int (nI (m + ((wor g w) * (tur g s w (fgo g k0 w))))), .int (nI s), .int (nI w), .int (nI (fgo g k0 w))] [.int ((nI (s * (sF g w))) + (nI (fgo g k0 w)))] h Q from ?_)
        rw [show ((nI (s * (sF g w))) + (nI (fgo g k0 w)) : Int32) = nI ((s * (sF g w)) + (fgo g k0 w)) from nI_add (s * (sF g w)) (fgo g k0 w)]
        refine exf_go 2 (show Go (d + 1) true 84 61 [.ref 31, .int (nI k0), .int (nI (m + ((wor g w) * (tur g s w (fgo g k0 w))))), .int (nI ((s * (sF g w)) + (fgo g k0 w))), .int ((nI w) + 1), .int (nI (fgo g k0 w))] [] h Q from ?_)
        rw [show ((nI w) + 1 : Int32) = nI (w + 1) from nI_add w 1]
        refine exf_go 1 (show Go (d + 1) true 84 7 [.ref 31, .int (nI k0), .int (nI (m + ((wor g w) * (tur g s w (fgo g k0 w))))), .int (nI ((s * (sF g w)) + (fgo g k0 w))), .int (nI (w + 1)), .int (nI (fgo g k0 w))] [] h Q from ?_)
        exact ih7 (.int (nI (fgo g k0 w))) (w + 1) (m + ((wor g w) * (tur g s w (fgo g k0 w)))) ((s * (sF g w)) + (fgo g k0 w)) (by omega) (by omega) (by rw [hm, hs]; exact thr_num (by omega)) (by rw [hs, swp])
  exact L7 (4 + 1) mk_ 0 0 0 (by omega) (by omega) (by rw [thr, Nat.zero_mul]) rfl
theorem c_place {d : Nat} {h : Hp} {g : ShG} {k0 : Nat} {Q : Po} (cs : CS 31 g h) (hk : k0 < 2 ^ 31) (k : Q (.int (nI (alo g k0 (sW g)))) h) : wpC (d + 2) true 85 [.ref 31, .int (nI k0)] h Q := by
  have h4 := cs.1.1
  refine go_in rfl ?_
  refine exf_go 4 (show Go (d + 1) true 85 4 [.ref 31, .int (nI k0), .int 0, .int 0] [] h Q from ?_)
  have L4 : ∀ (k4 : Nat) (w s : Nat), (4 - w) < k4 → (w ≤ sW g) → (s = alo g k0 w) → Go (d + 1) true 85 4 [.ref 31, .int (nI k0), .int (nI s), .int (nI w)] [] h Q := by
    intro k4
    induction k4 with
    | zero => intro w s hk; exact absurd hk (Nat.not_lt_zero _)
    | succ k4 ih4 =>
      intro w s hk hw hs
      have := alo_lt cs.1 k0 w; have := bef_4 cs.1 (w := w) (by omega)
      refine exf_go 3 (show Go (d + 1) true 85 9 [.ref 31, .int (nI k0), .int (nI s), .int (nI w)] [.int (rI h 31 0), .int (nI w)] h Q from ?_)
      rw [show (rI h 31 0 : Int32) = nI (sW g) from cs_W cs]
      refine exf_go 1 (show ((nI (sW g)) ≤ (nI w) → Go (d + 1) true 85 40 [.ref 31, .int (nI k0), .int (nI s), .int (nI w)] [] h Q) ∧ (¬ ((nI (sW g)) ≤ (nI w)) → Go (d + 1) true 85 12 [.ref 31, .int (nI k0), .int (nI s), .int (nI w)] [] h Q) from ⟨fun c1 => ?_, fun c1 => ?_⟩)
      · skip
        have c1 : (sW g) ≤ w := (nI_leI (a := (sW g)) (b := w) (by omega) (by omega)).mp c1
        refine exf_go 2 (show Q (.int (nI s)) h from ?_)
        have e : w = sW g := by omega
        subst e
        rw [hs]; exact k
      · skip
        have c1 : ¬ (sW g) ≤ w := fun q => c1 ((nI_leI (a := (sW g)) (b := w) (by omega) (by omega)).mpr q)
        refine exf_go 5 (show vp_in (nI w) 4 ∧ (Go (d + 1) true 85 19 [.ref 31, .int (nI k0), .int (nI s), .int (nI w)] [.int (rI h 32 ((nI w).toNatClampNeg)), .int (nI s)] h Q) from ⟨(vp_in_nI (by omega) (by omega)), ?_⟩)
        rw [show (rI h 32 ((nI w).toNatClampNeg) : Int32) = nI (sF g w) from cs_sF cs (n := w) (by omega)]
        refine exf_go 1 (show Go (d + 1) true 85 20 [.ref 31, .int (nI k0), .int (nI s), .int (nI w)] [.int ((nI s) * (nI (sF g w)))] h Q from ?_)
        rw [show ((nI s) * (nI (sF g w)) : Int32) = nI (s * (sF g w)) from pk_mul s (sF g w)]
        refine exf_go 7 (show wpC (d + 1) true 81 [.ref 31, .int (nI k0), .int (nI w)] h (fun r h' => Go (d + 1) true 85 29 [.ref 31, .int (nI k0), .int (nI s), .int (nI w)] [r, .int (nI w), .int (nI s), .ref 31, .int (nI (s * (sF g w)))] h' Q) from ?_)
        refine c_figureOf cs (by omega) (by omega) ?_
        have := fgo_lt cs.1 k0 w; have := sF_b cs.1 w
        show Go (d + 1) true 85 29 [.ref 31, .int (nI k0), .int (nI s), .int (nI w)] [.int (nI (fgo g k0 w)), .int (nI w), .int (nI s), .ref 31, .int (nI (s * (sF g w)))] h Q
        refine exf_go 1 (show wpC (d + 1) true 86 [.ref 31, .int (nI s), .int (nI w), .int (nI (fgo g k0 w))] h (fun r h' => Go (d + 1) true 85 32 [.ref 31, .int (nI k0), .int (nI s), .int (nI w)] [r, .int (nI (s * (sF g w)))] h' Q) from ?_)
        refine c_turned cs (by omega) (by omega) (by omega) ?_
        have := tur_lt cs.1 s (w := w) (f := (fgo g k0 w)) (by omega)
        show Go (d + 1) true 85 32 [.ref 31, .int (nI k0), .int (nI s), .int (nI w)] [.int (nI (tur g s w (fgo g k0 w))), .int (nI (s * (sF g w)))] h Q
        refine exf_go 1 (show Go (d + 1) true 85 33 [.ref 31, .int (nI k0), .int (nI s), .int (nI w)] [.int ((nI (s * (sF g w))) + (nI (tur g s w (fgo g k0 w))))] h Q from ?_)
        rw [show ((nI (s * (sF g w))) + (nI (tur g s w (fgo g k0 w))) : Int32) = nI ((s * (sF g w)) + (tur g s w (fgo g k0 w))) from nI_add (s * (sF g w)) (tur g s w (fgo g k0 w))]
        refine exf_go 2 (show Go (d + 1) true 85 37 [.ref 31, .int (nI k0), .int (nI ((s * (sF g w)) + (tur g s w (fgo g k0 w)))), .int ((nI w) + 1)] [] h Q from ?_)
        rw [show ((nI w) + 1 : Int32) = nI (w + 1) from nI_add w 1]
        refine exf_go 1 (show Go (d + 1) true 85 4 [.ref 31, .int (nI k0), .int (nI ((s * (sF g w)) + (tur g s w (fgo g k0 w)))), .int (nI (w + 1))] [] h Q from ?_)
        exact ih4 (w + 1) ((s * (sF g w)) + (tur g s w (fgo g k0 w))) (by omega) (by omega) (by rw [hs, alo])
  exact L4 (4 + 1) 0 0 (by omega) (by omega) rfl
theorem c_lenW {d : Nat} {h : Hp} {g : ShG} {n : Nat} {Q : Po} (cs : CS 31 g h) (hn : n < 10000) (k : Q (.int (nI (lenC g n))) h) : wpC (d + 1) true 87 [.ref 31, .int (nI (n + 1))] h Q := by
  have h4 := cs.1.1
  refine go_in rfl ?_
  refine exf_go 4 (show Go d true 87 4 [.ref 31, .int (nI (n + 1)), .int 0, .int 0, mk_] [] h Q from ?_)
  have L4 : ∀ (k4 : Nat) (z4 : Value) (w s : Nat), (4 - w) < k4 → (w ≤ sW g) → (s = sumN (fun w => (n / wor g w - n / (wor g w * sF g w)) * sS g w) w) → Go d true 87 4 [.ref 31, .int (nI (n + 1)), .int (nI s), .int (nI w), z4] [] h Q := by
    intro k4
    induction k4 with
    | zero => intro z4 w s hk; exact absurd hk (Nat.not_lt_zero _)
    | succ k4 ih4 =>
      intro z4 w s hk hw hs
      have ho := wor_b cs.1 w
      have hf := sF_b cs.1 w
      have hm := mul_b ho hf
      have hdd : n / (wor g w * sF g w) ≤ n / wor g w := by rw [← Nat.div_div_eq_div_mul]; exact Nat.div_le_self _ _
      refine exf_go 3 (show Go d true 87 9 [.ref 31, .int (nI (n + 1)), .int (nI s), .int (nI w), z4] [.int (rI h 31 0), .int (nI w)] h Q from ?_)
      rw [show (rI h 31 0 : Int32) = nI (sW g) from cs_W cs]
      refine exf_go 1 (show ((nI (sW g)) ≤ (nI w) → Go d true 87 74 [.ref 31, .int (nI (n + 1)), .int (nI s), .int (nI w), z4] [] h Q) ∧ (¬ ((nI (sW g)) ≤ (nI w)) → Go d true 87 12 [.ref 31, .int (nI (n + 1)), .int (nI s), .int (nI w), z4] [] h Q) from ⟨fun c1 => ?_, fun c1 => ?_⟩)
      · skip
        have c1 : (sW g) ≤ w := (nI_leI (a := (sW g)) (b := w) (by omega) (by omega)).mp c1
        refine exf_go 2 (show Q (.int (nI s)) h from ?_)
        have e : w = sW g := by omega
        subst e
        rw [hs]; exact k
      · skip
        have c1 : ¬ (sW g) ≤ w := fun q => c1 ((nI_leI (a := (sW g)) (b := w) (by omega) (by omega)).mpr q)
        refine exf_go 4 (show vp_in (nI w) 4 ∧ (Go d true 87 18 [.ref 31, .int (nI (n + 1)), .int (nI s), .int (nI w), z4] [.int (rI h 35 ((nI w).toNatClampNeg))] h Q) from ⟨(vp_in_nI (by omega) (by omega)), ?_⟩)
        rw [show (rI h 35 ((nI w).toNatClampNeg) : Int32) = nI (wor g w) from cs_wor cs (n := w) (by omega)]
        refine exf_go 4 (show vp_in (nI w) 4 ∧ (Go d true 87 24 [.ref 31, .int (nI (n + 1)), .int (nI s), .int (nI w), z4] [.int (rI h 32 ((nI w).toNatClampNeg)), .int (nI (wor g w))] h Q) from ⟨(vp_in_nI (by omega) (by omega)), ?_⟩)
        rw [show (rI h 32 ((nI w).toNatClampNeg) : Int32) = nI (sF g w) from cs_sF cs (n := w) (by omega)]
        refine exf_go 1 (show Go d true 87 25 [.ref 31, .int (nI (n + 1)), .int (nI s), .int (nI w), z4] [.int ((nI (wor g w)) * (nI (sF g w)))] h Q from ?_)
        rw [show ((nI (wor g w)) * (nI (sF g w)) : Int32) = nI ((wor g w) * (sF g w)) from pk_mul (wor g w) (sF g w)]
        refine exf_go 5 (show vp_in (nI w) 4 ∧ (Go d true 87 33 [.ref 31, .int (nI (n + 1)), .int (nI s), .int (nI w), .int (nI ((wor g w) * (sF g w)))] [.int (rI h 35 ((nI w).toNatClampNeg))] h Q) from ⟨(vp_in_nI (by omega) (by omega)), ?_⟩)
        rw [show (rI h 35 ((nI w).toNatClampNeg) : Int32) = nI (wor g w) from cs_wor cs (n := w) (by omega)]
        refine exf_go 1 (show ((nI (wor g w)) ≤ 0 → Go d true 87 68 [.ref 31, .int (nI (n + 1)), .int (nI s), .int (nI w), .int (nI ((wor g w) * (sF g w)))] [] h Q) ∧ (¬ ((nI (wor g w)) ≤ 0) → Go d true 87 36 [.ref 31, .int (nI (n + 1)), .int (nI s), .int (nI w), .int (nI ((wor g w) * (sF g w)))] [] h Q) from ⟨fun c2 => ?_, fun c2 => ?_⟩)
        · skip
          have c2 : (wor g w) ≤ 0 := (nI_leI (a := (wor g w)) (b := 0) (by omega) (by omega)).mp c2
          exfalso; omega
        · skip
          have c2 : ¬ (wor g w) ≤ 0 := fun q => c2 ((nI_leI (a := (wor g w)) (b := 0) (by omega) (by omega)).mpr q)
          refine exf_go 2 (show ((nI ((wor g w) * (sF g w))) ≤ 0 → Go d true 87 68 [.ref 31, .int (nI (n + 1)), .int (nI s), .int (nI w), .int (nI ((wor g w) * (sF g w)))] [] h Q) ∧ (¬ ((nI ((wor g w) * (sF g w))) ≤ 0) → Go d true 87 41 [.ref 31, .int (nI (n + 1)), .int (nI s), .int (nI w), .int (nI ((wor g w) * (sF g w)))] [] h Q) from ⟨fun c3 => ?_, fun c3 => ?_⟩)
          · skip
            have c3 : ((wor g w) * (sF g w)) ≤ 0 := (nI_leI (a := ((wor g w) * (sF g w))) (b := 0) (by omega) (by omega)).mp c3
            exfalso; omega
          · skip
            have c3 : ¬ ((wor g w) * (sF g w)) ≤ 0 := fun q => c3 ((nI_leI (a := ((wor g w) * (sF g w))) (b := 0) (by omega) (by omega)).mpr q)
            refine exf_go 4 (show Go d true 87 45 [.ref 31, .int (nI (n + 1)), .int (nI s), .int (nI w), .int (nI ((wor g w) * (sF g w)))] [.int ((nI (n + 1)) - 1), .int (nI s)] h Q from ?_)
            rw [show ((nI (n + 1)) - 1 : Int32) = nI n from nI_pred n]
            refine exf_go 4 (show vp_in (nI w) 4 ∧ (Go d true 87 51 [.ref 31, .int (nI (n + 1)), .int (nI s), .int (nI w), .int (nI ((wor g w) * (sF g w)))] [.int (rI h 35 ((nI w).toNatClampNeg)), .int (nI n), .int (nI s)] h Q) from ⟨(vp_in_nI (by omega) (by omega)), ?_⟩)
            rw [show (rI h 35 ((nI w).toNatClampNeg) : Int32) = nI (wor g w) from cs_wor cs (n := w) (by omega)]
            refine exf_go 1 (show ¬ (nI (wor g w)) = 0 ∧ (Go d true 87 52 [.ref 31, .int (nI (n + 1)), .int (nI s), .int (nI w), .int (nI ((wor g w) * (sF g w)))] [.int ((nI n) / (nI (wor g w))), .int (nI s)] h Q) from ⟨(nI_ne0 (n := (wor g w)) (by omega) (by omega)), ?_⟩)
            rw [show ((nI n) / (nI (wor g w)) : Int32) = nI (n / (wor g w)) from pk_div (a := n) (d := (wor g w)) (by omega) (by omega) (by omega)]
            refine exf_go 3 (show Go d true 87 55 [.ref 31, .int (nI (n + 1)), .int (nI s), .int (nI w), .int (nI ((wor g w) * (sF g w)))] [.int ((nI (n + 1)) - 1), .int (nI (n / (wor g w))), .int (nI s)] h Q from ?_)
            rw [show ((nI (n + 1)) - 1 : Int32) = nI n from nI_pred n]
            refine exf_go 2 (show ¬ (nI ((wor g w) * (sF g w))) = 0 ∧ (Go d true 87 58 [.ref 31, .int (nI (n + 1)), .int (nI s), .int (nI w), .int (nI ((wor g w) * (sF g w)))] [.int ((nI n) / (nI ((wor g w) * (sF g w)))), .int (nI (n / (wor g w))), .int (nI s)] h Q) from ⟨(nI_ne0 (n := ((wor g w) * (sF g w))) (by omega) (by omega)), ?_⟩)
            rw [show ((nI n) / (nI ((wor g w) * (sF g w))) : Int32) = nI (n / ((wor g w) * (sF g w))) from pk_div (a := n) (d := ((wor g w) * (sF g w))) (by omega) (by omega) (by omega)]
            refine exf_go 1 (show Go d true 87 59 [.ref 31, .int (nI (n + 1)), .int (nI s), .int (nI w), .int (nI ((wor g w) * (sF g w)))] [.int ((nI (n / (wor g w))) - (nI (n / ((wor g w) * (sF g w))))), .int (nI s)] h Q from ?_)
            rw [show ((nI (n / (wor g w))) - (nI (n / ((wor g w) * (sF g w)))) : Int32) = nI (n / wor g w - n / (wor g w * sF g w)) from pk_sub hdd]
            refine exf_go 4 (show vp_in (nI w) 4 ∧ (Go d true 87 65 [.ref 31, .int (nI (n + 1)), .int (nI s), .int (nI w), .int (nI ((wor g w) * (sF g w)))] [.int (rI h 33 ((nI w).toNatClampNeg)), .int (nI (n / wor g w - n / (wor g w * sF g w))), .int (nI s)] h Q) from ⟨(vp_in_nI (by omega) (by omega)), ?_⟩)
            rw [show (rI h 33 ((nI w).toNatClampNeg) : Int32) = nI (sS g w) from cs_sS cs (n := w) (by omega)]
            refine exf_go 1 (show Go d true 87 66 [.ref 31, .int (nI (n + 1)), .int (nI s), .int (nI w), .int (nI ((wor g w) * (sF g w)))] [.int ((nI (n / wor g w - n / (wor g w * sF g w))) * (nI (sS g w))), .int (nI s)] h Q from ?_)
            rw [show ((nI (n / wor g w - n / (wor g w * sF g w))) * (nI (sS g w)) : Int32) = nI ((n / wor g w - n / (wor g w * sF g w)) * (sS g w)) from pk_mul (n / wor g w - n / (wor g w * sF g w)) (sS g w)]
            refine exf_go 1 (show Go d true 87 67 [.ref 31, .int (nI (n + 1)), .int (nI s), .int (nI w), .int (nI ((wor g w) * (sF g w)))] [.int ((nI s) + (nI ((n / wor g w - n / (wor g w * sF g w)) * (sS g w))))] h Q from ?_)
            rw [show ((nI s) + (nI ((n / wor g w - n / (wor g w * sF g w)) * (sS g w))) : Int32) = nI (s + ((n / wor g w - n / (wor g w * sF g w)) * (sS g w))) from nI_add s ((n / wor g w - n / (wor g w * sF g w)) * (sS g w))]
            refine exf_go 2 (show Go d true 87 71 [.ref 31, .int (nI (n + 1)), .int (nI (s + ((n / wor g w - n / (wor g w * sF g w)) * (sS g w)))), .int ((nI w) + 1), .int (nI ((wor g w) * (sF g w)))] [] h Q from ?_)
            rw [show ((nI w) + 1 : Int32) = nI (w + 1) from nI_add w 1]
            refine exf_go 1 (show Go d true 87 4 [.ref 31, .int (nI (n + 1)), .int (nI (s + ((n / wor g w - n / (wor g w * sF g w)) * (sS g w)))), .int (nI (w + 1)), .int (nI ((wor g w) * (sF g w)))] [] h Q from ?_)
            exact ih4 (.int (nI ((wor g w) * (sF g w)))) (w + 1) (s + ((n / wor g w - n / (wor g w * sF g w)) * (sS g w))) (by omega) (by omega) (by rw [hs, sumN])
  exact L4 (4 + 1) mk_ 0 0 (by omega) (by omega) rfl
theorem c_through {d : Nat} {h : Hp} {g : ShG} {x : Int32} {Q : Po} (cs : CS 31 g h) (k : Q (.int (fThrough g x)) h) : wpC (d + 3) true 135 [.ref 10, .int x] h Q := by
  have hN := tot_b cs.1
  refine go_in rfl ?_
  refine exf_go 3 (show wpC (d + 2) true 157 [.ref 10, .int x] h (fun r h' => Go (d + 2) true 135 5 [.ref 10, .int x] [r] h' Q) from ?_)
  refine c_isNumber cs (fun j1 e1 q1 r1 => ?_) (fun e1 => ?_)
  · skip
    subst q1
    show Go (d + 2) true 135 5 [.ref 10, .int (nI j1)] [.int 1] h Q
    refine exf_go 1 (show (¬ (1 : Int32) = 0 → Go (d + 2) true 135 11 [.ref 10, .int (nI j1)] [] h Q) ∧ (¬ (¬ (1 : Int32) = 0) → Go (d + 2) true 135 8 [.ref 10, .int (nI j1)] [] h Q) from ⟨fun c2 => ?_, fun c2 => ?_⟩)
    · skip
      refine exf_go 4 (show wpC (d + 2) true 84 [.ref 31, .int (nI j1)] h (fun r h' => Go (d + 2) true 135 19 [.ref 10, .int (nI j1)] [r] h' Q) from ?_)
      refine c_onTheWay cs (by omega) ?_
      show Go (d + 2) true 135 19 [.ref 10, .int (nI j1)] [.int (nI (thr g j1 (sW g)))] h Q
      refine exf_go 1 (show Q (.int (nI (thr g j1 (sW g)))) h from ?_)
      simp only [fThrough, *] at k; exact k
    · skip
      exact absurd (by decide) c2
  · skip
    show Go (d + 2) true 135 5 [.ref 10, .int x] [.int 0] h Q
    refine exf_go 1 (show (¬ (0 : Int32) = 0 → Go (d + 2) true 135 11 [.ref 10, .int x] [] h Q) ∧ (¬ (¬ (0 : Int32) = 0) → Go (d + 2) true 135 8 [.ref 10, .int x] [] h Q) from ⟨fun c3 => ?_, fun c3 => ?_⟩)
    · skip
      exact absurd c3 (by decide)
    · skip
      refine exf_go 2 (show Q (.int (-3)) h from ?_)
      simp only [fThrough, *] at k; exact k
theorem c_along {d : Nat} {h : Hp} {g : ShG} {x : Int32} {Q : Po} (cs : CS 31 g h) (k : Q (.int (fAlong g x)) h) : wpC (d + 3) true 136 [.ref 10, .int x] h Q := by
  have hN := tot_b cs.1
  refine go_in rfl ?_
  refine exf_go 3 (show wpC (d + 2) true 157 [.ref 10, .int x] h (fun r h' => Go (d + 2) true 136 5 [.ref 10, .int x] [r] h' Q) from ?_)
  refine c_isNumber cs (fun j1 e1 q1 r1 => ?_) (fun e1 => ?_)
  · skip
    subst q1
    show Go (d + 2) true 136 5 [.ref 10, .int (nI j1)] [.int 1] h Q
    refine exf_go 1 (show (¬ (1 : Int32) = 0 → Go (d + 2) true 136 11 [.ref 10, .int (nI j1)] [] h Q) ∧ (¬ (¬ (1 : Int32) = 0) → Go (d + 2) true 136 8 [.ref 10, .int (nI j1)] [] h Q) from ⟨fun c2 => ?_, fun c2 => ?_⟩)
    · skip
      refine exf_go 4 (show wpC (d + 2) true 85 [.ref 31, .int (nI j1)] h (fun r h' => Go (d + 2) true 136 19 [.ref 10, .int (nI j1)] [r] h' Q) from ?_)
      refine c_place cs (by omega) ?_
      show Go (d + 2) true 136 19 [.ref 10, .int (nI j1)] [.int (nI (alo g j1 (sW g)))] h Q
      refine exf_go 1 (show Q (.int (nI (alo g j1 (sW g)))) h from ?_)
      simp only [fAlong, *] at k; exact k
    · skip
      exact absurd (by decide) c2
  · skip
    show Go (d + 2) true 136 5 [.ref 10, .int x] [.int 0] h Q
    refine exf_go 1 (show (¬ (0 : Int32) = 0 → Go (d + 2) true 136 11 [.ref 10, .int x] [] h Q) ∧ (¬ (¬ (0 : Int32) = 0) → Go (d + 2) true 136 8 [.ref 10, .int x] [] h Q) from ⟨fun c3 => ?_, fun c3 => ?_⟩)
    · skip
      exact absurd c3 (by decide)
    · skip
      refine exf_go 2 (show Q (.int (-3)) h from ?_)
      simp only [fAlong, *] at k; exact k
theorem len_in {x : Int32} {n : Nat} (hn : n < 2 ^ 31) (h1 : ¬ x < 1) (h2 : x ≤ nI n) : ∃ j, ixN (x - 1) n = some j ∧ x = nI (j + 1) ∧ j < n := by
  have h0 : ¬ x < 0 := fun q => h1 (Int32.lt_trans q (by decide))
  obtain ⟨m, hm, rfl⟩ := nI_of h0
  have hm1 : ¬ m < 1 := fun q => h1 ((nI_ltI (b := 1) hm (by omega)).mpr q)
  have hm2 : m ≤ n := (nI_leI hm hn).mp h2
  obtain ⟨j, rfl⟩ : ∃ j, m = j + 1 := ⟨m - 1, by omega⟩
  refine ⟨j, ?_, rfl, by omega⟩
  rw [nI_pred, ixN, if_neg, nI_clamp (by omega)]
  intro q
  rcases q with q | q
  · exact nI_pos (by omega) q
  · exact absurd ((nI_leI hn (by omega)).mp q) (by omega)
theorem len_no1 {x : Int32} {n : Nat} (hn : n < 2 ^ 31) (h1 : x < 1) : ixN (x - 1) n = none := by
  rw [ixN]
  by_cases hm : x = -2147483648
  · subst hm
    refine if_pos (Or.inr ?_)
    rw [Int32.le_iff_toInt_le, nI_toInt hn]
    show (n : Int) ≤ 2147483647
    omega
  · refine if_pos (Or.inl ?_)
    rw [Int32.lt_iff_toInt_lt] at h1 ⊢
    have hx : x.toInt ≠ -2147483648 := fun q => hm (Int32.toInt_inj.mp q)
    have h3 := Int32.minValue_le_toInt x
    rw [show Int32.minValue.toInt = -2147483648 from by decide] at h3
    have h4 : x.toInt < 1 := h1
    clear h1
    rw [Int32.toInt_sub, show (1 : Int32).toInt = 1 from by decide, Int.bmod_eq_of_le (by omega) (by omega)]
    show x.toInt - 1 < 0
    omega
theorem len_no2 {x : Int32} {n : Nat} (hn : n < 2 ^ 31) (h1 : ¬ x < 1) (h2 : ¬ x ≤ nI n) : ixN (x - 1) n = none := by
  have h0 : ¬ x < 0 := fun q => h1 (Int32.lt_trans q (by decide))
  obtain ⟨m, hm, rfl⟩ := nI_of h0
  have hm1 : ¬ m < 1 := fun q => h1 ((nI_ltI (b := 1) hm (by omega)).mpr q)
  have hm2 : ¬ m ≤ n := fun q => h2 ((nI_leI hm hn).mpr q)
  obtain ⟨j, rfl⟩ : ∃ j, m = j + 1 := ⟨m - 1, by omega⟩
  rw [nI_pred]
  exact ix_ge ((nI_leI hn (by omega)).mpr (by omega))
theorem c_length {d : Nat} {h : Hp} {g : ShG} {x : Int32} {Q : Po} (cs : CS 31 g h) (k : Q (.int (fLength g x)) h) : wpC (d + 2) true 137 [.ref 10, .int x] h Q := by
  have hN := tot_b cs.1
  refine go_in rfl ?_
  refine exf_go 3 (show (x < 1 → Go (d + 1) true 137 16 [.ref 10, .int x] [] h Q) ∧ (¬ (x < 1) → Go (d + 1) true 137 5 [.ref 10, .int x] [] h Q) from ⟨fun c1 => ?_, fun c1 => ?_⟩)
  · skip
    have e1 := len_no1 (n := tot g) (by omega) c1
    refine exf_go 2 (show Q (.int (-3)) h from ?_)
    simp only [fLength, *] at k; exact k
  · skip
    refine exf_go 4 (show Go (d + 1) true 137 13 [.ref 10, .int x] [.int (rI h 31 5), .int x] h Q from ?_)
    rw [show (rI h 31 5 : Int32) = nI (tot g) from cs_N cs]
    refine exf_go 1 (show (x ≤ (nI (tot g)) → Go (d + 1) true 137 19 [.ref 10, .int x] [] h Q) ∧ (¬ (x ≤ (nI (tot g))) → Go (d + 1) true 137 16 [.ref 10, .int x] [] h Q) from ⟨fun c2 => ?_, fun c2 => ?_⟩)
    · skip
      obtain ⟨j, e1, e2, e3⟩ := len_in (by omega) c1 c2
      subst e2
      refine exf_go 4 (show wpC (d + 1) true 87 [.ref 31, .int (nI (j + 1))] h (fun r h' => Go (d + 1) true 137 27 [.ref 10, .int (nI (j + 1))] [r] h' Q) from ?_)
      refine c_lenW cs (by omega) ?_
      show Go (d + 1) true 137 27 [.ref 10, .int (nI (j + 1))] [.int (nI (lenC g j))] h Q
      refine exf_go 1 (show Q (.int (nI (lenC g j))) h from ?_)
      simp only [fLength, *] at k; exact k
    · skip
      have e1 := len_no2 (n := tot g) (by omega) c1 c2
      refine exf_go 2 (show Q (.int (-3)) h from ?_)
      simp only [fLength, *] at k; exact k
