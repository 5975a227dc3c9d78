/-! Feeling; taking back; marks are taken. -/
/-- a wheel is felt at a figure -/
def felN (g : ShG) (l : LkG) (o w f : Nat) : Nat := if fgo g o w = f then lF l w &&& 2 ^ f else lF l w &&& (1023 ^^^ 2 ^ f)
def felL (g : ShG) (l : LkG) (o w f : Nat) : LkG := (lA l, lX l + 2, lG l, lO l, va_up (lF l) w (felN g l o w f), lT l)
theorem fel_b {g : ShG} {l : LkG} (hl : LkW g l) (o w f : Nat) : felN g l o w f < 1024 := by
  have := hl.2.2.2 w
  unfold felN
  split
  · exact Nat.lt_of_le_of_lt Nat.and_le_left this
  · exact Nat.lt_of_le_of_lt Nat.and_le_left this
theorem LkW_fel {g : ShG} {l : LkG} (hl : LkW g l) (o w f : Nat) : LkW g (felL g l o w f) := ⟨hl.1, hl.2.1, hl.2.2.1, fun v => by
  show va_up (lF l) w (felN g l o w f) v < 1024
  by_cases e : v = w
  · rw [e, up_eq]; exact fel_b hl o w f
  · rw [up_ne e]; exact hl.2.2.2 v⟩
theorem and_nbit : ∀ f, f < 10 → ∀ x, x < 1024 → nI x &&& (nI (2 ^ f) ^^^ (-1)) = nI (x &&& (1023 ^^^ 2 ^ f)) := by decide +kernel
theorem and_mod (x m F : Nat) : (x % 2 ^ F) &&& m = (x &&& m) % 2 ^ F := by
  apply Nat.eq_of_testBit_eq
  intro i
  rw [Nat.testBit_and, Nat.testBit_mod_two_pow, Nat.testBit_mod_two_pow, Nat.testBit_and, Bool.and_assoc]
theorem clu_fel {g : ShG} {l : LkG} {h h2 : Hp} {o w f : Nat} (cl : CL 39 g l h) (hw : w < 4) (e1 : ∀ j, j ≠ 4 → rI h2 39 j = rI h 39 j) (e4 : rI h2 39 4 = lX l + 2) (eal : al h2 40 = al h 40) (ec : rI h2 40 = rI h 40) (ef : ∀ v, v ≠ w → rI h2 41 v = rI h 41 v) (ew : rI h2 41 w = nI (felN g l o w f % 2 ^ sF g w)) : CLu g (felL g l o w f) h2 := by
  have hw9 := LkW_fel cl.1 o w f
  obtain ⟨c1, c2, c3, c4, c5, c6, c7, c8, c9, c10, c11⟩ := cl
  refine ⟨hw9, (e1 1 (by decide)).trans c2, (e1 3 (by decide)).trans c3, e4, (e1 5 (by decide)).trans c5, (e1 7 (by decide)).trans c6, (e1 6 (by decide)).trans c7, by rw [eal]; exact c8, by rw [eal]; exact c9, fun n hn => ⟨1 - agA g l n, by omega, by rw [ec]; exact c10 n hn⟩, fun v hv => ?_⟩
  show _ = nI (va_up (lF l) w (felN g l o w f) v % 2 ^ sF g v)
  by_cases e : v = w
  · subst e; rw [up_eq]; exact ew
  · rw [up_ne e, ef v e]; exact c11 v hv
theorem c_touch {d : Nat} {h : Hp} {g : ShG} {l : LkG} {o w f : Nat} {Q : Po} (cs : CS 31 g h) (cl : CL 39 g l h) (hso : sO g = some o) (hw : w < sW g) (hf : f < sF g w) (k1 : fgo g o w = f → ∀ h1, Fq sL3 h h1 → CL 39 g (felL g l o w f) h1 → Q (.int 1) h1) (k0 : ¬ fgo g o w = f → ∀ h1, Fq sL3 h h1 → CL 39 g (felL g l o w f) h1 → Q (.int 0) h1) : wpC (d + 3) true 35 [.ref 39, .ref 31, .int (nI w), .int (nI f)] h Q := by
  have hN := tot_b cs.1
  have h4 := cs.1.1
  have hfb := sF_b cs.1 w
  have hlf := cl.1.2.2.2 w
  have hlm := Nat.mod_le (lF l w) (2 ^ sF g w)
  have hfo := fgo_lt cs.1 o w
  have hoN := cs.1.2.2.2.2.2.2.2.2.2.2.2.1 o hso
  have hf4 := cl_X cl
  refine go_in rfl ?_
  refine exf_go 3 (show Go (d + 2) true 35 5 [.ref 39, .ref 31, .int (nI w), .int (nI f), mk_, mk_] [.int (rI h 39 4), .ref 39] h Q from ?_)
  rw [show (rI h 39 4 : Int32) = lX l from cl_X cl]
  refine exf_go 6 (show Go (d + 2) true 35 15 [.ref 39, .ref 31, .int (nI w), .int (nI f), mk_, mk_] [.int (rI h 31 15), .ref 31] (uI h 39 4 ((lX l) + 2)) Q from ?_)
  rw [show (rI h 31 15 : Int32) = nI o from by rw [cs_O cs, hso]; rfl]
  refine exf_go 2 (show wpC (d + 2) true 81 [.ref 31, .int (nI o), .int (nI w)] (uI h 39 4 ((lX l) + 2)) (fun r h' => Go (d + 2) true 35 19 [.ref 39, .ref 31, .int (nI w), .int (nI f), mk_, mk_] [r] h' Q) from ?_)
  refine c_figureOf (cs_39 cs 4 _) (n := o) (w := w) (by omega) (by omega) ?_
  show Go (d + 2) true 35 19 [.ref 39, .ref 31, .int (nI w), .int (nI f), mk_, mk_] [.int (nI (fgo g o w))] (uI h 39 4 ((lX l) + 2)) Q
  refine exf_go 2 (show (¬ (nI (fgo g o w)) = (nI f) → Go (d + 2) true 35 27 [.ref 39, .ref 31, .int (nI w), .int (nI f), mk_, mk_] [] (uI h 39 4 ((lX l) + 2)) Q) ∧ (¬ (¬ (nI (fgo g o w)) = (nI f)) → Go (d + 2) true 35 23 [.ref 39, .ref 31, .int (nI w), .int (nI f), mk_, mk_] [] (uI h 39 4 ((lX l) + 2)) Q) from ⟨fun c1 => ?_, fun c1 => ?_⟩)
  · skip
    have c1 : ¬ (fgo g o w) = f := fun q => c1 ((nI_eq (a := (fgo g o w)) (b := f) (by omega) (by omega)).mpr q)
    refine exf_go 5 (show Go (d + 2) true 35 33 [.ref 39, .ref 31, .int (nI w), .int (nI f), .int 0, mk_] [.int (1 <<< ((nI f) &&& 31))] (uI h 39 4 ((lX l) + 2)) Q from ?_)
    rw [show (1 <<< ((nI f) &&& 31) : Int32) = nI (2 ^ f) from nI_1shl (k := f) (by omega)]
    refine exf_go 6 (show vp_in (nI w) 4 ∧ (Go (d + 2) true 35 42 [.ref 39, .ref 31, .int (nI w), .int (nI f), .int 0, .int (nI (2 ^ f))] [.int (rI h 41 ((nI w).toNatClampNeg)), .int (nI w), .ref 41] (uI h 39 4 ((lX l) + 2)) Q) from ⟨(vp_in_nI (by omega) (by omega)), ?_⟩)
    rw [show (rI h 41 ((nI w).toNatClampNeg) : Int32) = nI (lF l w % 2 ^ sF g w) from cl_F cs cl (n := w) (by omega)]
    refine exf_go 2 (show ((0 : Int32) = 0 → Go (d + 2) true 35 52 [.ref 39, .ref 31, .int (nI w), .int (nI f), .int 0, .int (nI (2 ^ f))] [.int (nI (lF l w % 2 ^ sF g w)), .int (nI w), .ref 41] (uI h 39 4 ((lX l) + 2)) Q) ∧ (¬ ((0 : Int32) = 0) → Go (d + 2) true 35 47 [.ref 39, .ref 31, .int (nI w), .int (nI f), .int 0, .int (nI (2 ^ f))] [.int (nI (lF l w % 2 ^ sF g w)), .int (nI w), .ref 41] (uI h 39 4 ((lX l) + 2)) Q) from ⟨fun c2 => ?_, fun c2 => ?_⟩)
    · skip
      refine exf_go 4 (show Go (d + 2) true 35 57 [.ref 39, .ref 31, .int (nI w), .int (nI f), .int 0, .int (nI (2 ^ f))] [.int ((nI (lF l w % 2 ^ sF g w)) &&& ((nI (2 ^ f)) ^^^ (-1))), .int (nI w), .ref 41] (uI h 39 4 ((lX l) + 2)) Q from ?_)
      rw [show ((nI (lF l w % 2 ^ sF g w)) &&& ((nI (2 ^ f)) ^^^ (-1)) : Int32) = nI (felN g l o w f % 2 ^ sF g w) from by rw [and_nbit f (by omega) _ (by omega), and_mod]; exact congrArg nI (by unfold felN; rw [if_neg (by assumption)])]
      refine exf_go 4 (show vp_in (nI w) 4 ∧ (wpC (d + 2) true 37 [.ref 39, .ref 31] (uI (uI h 39 4 ((lX l) + 2)) 41 ((nI w).toNatClampNeg) (nI (felN g l o w f % 2 ^ sF g w))) (fun _ h' => Go (d + 2) true 35 63 [.ref 39, .ref 31, .int (nI w), .int (nI f), .int 0, .int (nI (2 ^ f))] [] h' Q)) from ⟨(vp_in_nI (by omega) (by omega)), ?_⟩)
      have csu := cs_same (h1 := uI (uI h 39 4 ((lX l) + 2)) 41 ((nI w).toNatClampNeg) (nI (felN g l o w f % 2 ^ sF g w))) cs (fun a u v => (rI_uI_ne (by omega)).trans (rI_uI_ne (by omega)))
      refine c_unfelt csu (clu_fel (h2 := uI (uI h 39 4 ((lX l) + 2)) 41 ((nI w).toNatClampNeg) (nI (felN g l o w f % 2 ^ sF g w))) (o := o) (w := w) (f := f) cl (by omega) (fun j q => by show rI (uI h 39 4 _) 39 j = _; exact rI_uI_at q) rfl rfl rfl (fun v q => by show rI (uI h 41 (nI w).toNatClampNeg _) 41 v = _; rw [nI_clamp (by omega), rI_uI_at q]) (by show rI (uI h 41 (nI w).toNatClampNeg _) 41 w = _; rw [nI_clamp (by omega), rI_uI_eq])) (fun h1 q1 cl1 => ?_)
      show Go (d + 2) true 35 63 [.ref 39, .ref 31, .int (nI w), .int (nI f), .int 0, .int (nI (2 ^ f))] [] h1 Q
      refine exf_go 2 (show ((0 : Int32) = 0 ∨ (0 : Int32) = 1) ∧ Q (.int 0) h1 from ⟨(by first | exact Or.inl rfl | exact Or.inr rfl | assumption), ?_⟩)
      refine k0 (by assumption) h1 (Fq.tr (Fq.uI' (Fq.uI' Fq.rfl' _ _ _ rfl) _ _ _ rfl) (q1.mono (sAt_s (fun _ => rfl)))) cl1
    · skip
      exact absurd (by decide) c2
  · skip
    have c1 : (fgo g o w) = f := (nI_eq (a := (fgo g o w)) (b := f) (by omega) (by omega)).mp (Classical.not_not.mp c1)
    refine exf_go 6 (show Go (d + 2) true 35 33 [.ref 39, .ref 31, .int (nI w), .int (nI f), .int 1, mk_] [.int (1 <<< ((nI f) &&& 31))] (uI h 39 4 ((lX l) + 2)) Q from ?_)
    rw [show (1 <<< ((nI f) &&& 31) : Int32) = nI (2 ^ f) from nI_1shl (k := f) (by omega)]
    refine exf_go 6 (show vp_in (nI w) 4 ∧ (Go (d + 2) true 35 42 [.ref 39, .ref 31, .int (nI w), .int (nI f), .int 1, .int (nI (2 ^ f))] [.int (rI h 41 ((nI w).toNatClampNeg)), .int (nI w), .ref 41] (uI h 39 4 ((lX l) + 2)) Q) from ⟨(vp_in_nI (by omega) (by omega)), ?_⟩)
    rw [show (rI h 41 ((nI w).toNatClampNeg) : Int32) = nI (lF l w % 2 ^ sF g w) from cl_F cs cl (n := w) (by omega)]
    refine exf_go 2 (show ((1 : Int32) = 0 → Go (d + 2) true 35 52 [.ref 39, .ref 31, .int (nI w), .int (nI f), .int 1, .int (nI (2 ^ f))] [.int (nI (lF l w % 2 ^ sF g w)), .int (nI w), .ref 41] (uI h 39 4 ((lX l) + 2)) Q) ∧ (¬ ((1 : Int32) = 0) → Go (d + 2) true 35 47 [.ref 39, .ref 31, .int (nI w), .int (nI f), .int 1, .int (nI (2 ^ f))] [.int (nI (lF l w % 2 ^ sF g w)), .int (nI w), .ref 41] (uI h 39 4 ((lX l) + 2)) Q) from ⟨fun c3 => ?_, fun c3 => ?_⟩)
    · skip
      exact absurd c3 (by decide)
    · skip
      refine exf_go 3 (show Go (d + 2) true 35 57 [.ref 39, .ref 31, .int (nI w), .int (nI f), .int 1, .int (nI (2 ^ f))] [.int ((nI (lF l w % 2 ^ sF g w)) &&& (nI (2 ^ f))), .int (nI w), .ref 41] (uI h 39 4 ((lX l) + 2)) Q from ?_)
      rw [show ((nI (lF l w % 2 ^ sF g w)) &&& (nI (2 ^ f)) : Int32) = nI (felN g l o w f % 2 ^ sF g w) from by rw [nI_and, and_mod]; exact congrArg nI (by unfold felN; rw [if_pos (by assumption)])]
      refine exf_go 4 (show vp_in (nI w) 4 ∧ (wpC (d + 2) true 37 [.ref 39, .ref 31] (uI (uI h 39 4 ((lX l) + 2)) 41 ((nI w).toNatClampNeg) (nI (felN g l o w f % 2 ^ sF g w))) (fun _ h' => Go (d + 2) true 35 63 [.ref 39, .ref 31, .int (nI w), .int (nI f), .int 1, .int (nI (2 ^ f))] [] h' Q)) from ⟨(vp_in_nI (by omega) (by omega)), ?_⟩)
      have csu := cs_same (h1 := uI (uI h 39 4 ((lX l) + 2)) 41 ((nI w).toNatClampNeg) (nI (felN g l o w f % 2 ^ sF g w))) cs (fun a u v => (rI_uI_ne (by omega)).trans (rI_uI_ne (by omega)))
      refine c_unfelt csu (clu_fel (h2 := uI (uI h 39 4 ((lX l) + 2)) 41 ((nI w).toNatClampNeg) (nI (felN g l o w f % 2 ^ sF g w))) (o := o) (w := w) (f := f) cl (by omega) (fun j q => by show rI (uI h 39 4 _) 39 j = _; exact rI_uI_at q) rfl rfl rfl (fun v q => by show rI (uI h 41 (nI w).toNatClampNeg _) 41 v = _; rw [nI_clamp (by omega), rI_uI_at q]) (by show rI (uI h 41 (nI w).toNatClampNeg _) 41 w = _; rw [nI_clamp (by omega), rI_uI_eq])) (fun h1 q1 cl1 => ?_)
      show Go (d + 2) true 35 63 [.ref 39, .ref 31, .int (nI w), .int (nI f), .int 1, .int (nI (2 ^ f))] [] h1 Q
      refine exf_go 2 (show ((1 : Int32) = 0 ∨ (1 : Int32) = 1) ∧ Q (.int 1) h1 from ⟨(by first | exact Or.inl rfl | exact Or.inr rfl | assumption), ?_⟩)
      refine k1 (by assumption) h1 (Fq.tr (Fq.uI' (Fq.uI' Fq.rfl' _ _ _ rfl) _ _ _ rfl) (q1.mono (sAt_s (fun _ => rfl)))) cl1
/-- some numbers are no longer tried -/
def tkT (T nb : Nat → Nat) : Nat → Nat → Nat
  | 0 => T
  | j + 1 => va_up (tkT T nb j) (nb j) 0
theorem tk_in {T nb : Nat → Nat} : ∀ j k, k < j → tkT T nb j (nb k) = 0
  | 0, k, h => absurd h (Nat.not_lt_zero _)
  | j + 1, k, h => by
    rw [tkT]
    by_cases e : nb k = nb j
    · rw [e, up_eq]
    · rw [up_ne e]
      exact tk_in j k (by
        rcases Nat.lt_or_ge k j with q | q
        · exact q
        · exact absurd (show nb k = nb j by rw [show k = j from by omega]) e)
theorem tk_out {T nb : Nat → Nat} {n : Nat} : ∀ j, (∀ k, k < j → nb k ≠ n) → tkT T nb j n = T n
  | 0, _ => rfl
  | j + 1, h => by
    rw [tkT, up_ne (fun q => h j (by omega) q.symm)]
    exact tk_out j (fun k hk => h k (by omega))
theorem cel_unt {g : ShG} {l l2 : LkG} {n : Nat} (hg : ShW g) (hl : LkW g l) (hT : lT l n = 1) (hT2 : lT l2 n = 0) (hF : lF l2 = lF l) : nI (cel g l n) &&& (-257) = nI (cel g l2 n) := by
  have h1 := cel_b hg hl n
  have h2 := cel_tri hg hl n
  rw [and_ntri _ h1, if_neg (by omega)]
  refine congrArg nI ?_
  have hA : agA g l2 n = agA g l n := by
    unfold agA
    have h : ∀ w, agr g l2 n w = agr g l n w := fun w => by
      induction w with
      | zero => rfl
      | succ w ih => rw [agr, agr, ih, hF]
    exact h _
  unfold cel
  rw [hA, hT, hT2]
  omega
def lkT (l : LkG) (T : Nat → Nat) : LkG := (lA l, lX l, lG l, lO l, lF l, T)
theorem cl_unt {g : ShG} {l : LkG} {T : Nat → Nat} {n : Nat} {h : Hp} (hg : ShW g) (cl : CL 39 g (lkT l T) h) (hn : n < tot g) (hT : T n = 1) : CL 39 g (lkT l (va_up T n 0)) (uI (uI h 40 n (nI (cel g (lkT l (va_up T n 0)) n))) 39 6 (nI (cntN (fun m => T m == 1) (tot g) - 1))) := by
  have hw : LkW g (lkT l (va_up T n 0)) := ⟨cl.1.1, cl.1.2.1, fun m => by
    show va_up T n 0 m ≤ 1
    by_cases e : m = n
    · rw [e, up_eq]; omega
    · rw [up_ne e]; exact cl.1.2.2.1 m, cl.1.2.2.2⟩
  obtain ⟨c1, c2, c3, c4, c5, c6, c7, c8, c9, c10, c11⟩ := cl
  refine ⟨hw, c2, c3, c4, c5, c6, ?_, c8, c9, fun m hm => ?_, c11⟩
  · show nI _ = nI (cntN (fun m => va_up T n 0 m == 1) (tot g))
    have := cnt_flip (p := fun m => va_up T n 0 m == 1) (q := fun m => T m == 1) (i := n) (by show (va_up T n 0 n == 1) = false; rw [up_eq]; rfl) (by show (T n == 1) = true; rw [hT]; rfl) (fun k q => by show (va_up T n 0 k == 1) = (T k == 1); rw [up_ne q]) (tot g) hn
    refine congrArg nI ?_
    omega
  · show rI (uI h 40 n _) 40 m = _
    by_cases e : m = n
    · subst e; rw [rI_uI_eq]
    · rw [rI_uI_at e, show cel g (lkT l (va_up T n 0)) m = cel g (lkT l T) m from cel_cg (by show va_up T n 0 m = T m; rw [up_ne e]) rfl]
      exact c10 m hm
theorem cpy4 (f f2 : Nat → Int32) {v : Nat} (h : v < 4) : va_cpy f f2 0 0 4 v = f v := by
  unfold va_cpy
  rw [if_pos (by omega)]
  exact congrArg f (by omega)
theorem lO_b {g : ShG} {l : LkG} (hl : LkW g l) : nI (lO l) = 0 ∨ nI (lO l) = 1 := by
  have := hl.2.1
  rcases (show lO l = 0 ∨ lO l = 1 by omega) with e | e
  · rw [e]; exact Or.inl rfl
  · rw [e]; exact Or.inr rfl
theorem tk_all {T T0 nb : Nat → Nat} {c j N : Nat} (hj : j = c) (h1 : ∀ k, k < c → T0 (nb k) = 0) (h3 : ∀ n, n < N → (∀ k, k < c → nb k ≠ n) → T n = T0 n) (n : Nat) (hn : n < N) : tkT T nb j n = T0 n := by
  subst hj
  by_cases e : ∃ k, k < j ∧ nb k = n
  · obtain ⟨k, hk, q⟩ := e
    rw [← q, tk_in j k hk, h1 k hk]
  · have : ∀ k, k < j → nb k ≠ n := fun k hk q => e ⟨k, hk, q⟩
    rw [tk_out j this, h3 n hn this]
theorem c_tb0 {d : Nat} {h : Hp} {g : ShG} {l l0 : LkG} {c : Nat} {Q : Po} (cs : CS 31 g h) (cl : CL 39 g l h) (mk : CMK g 0 l0 l c h) (k : ∀ h1, Fq sL3 h h1 → CL 39 g l0 h1 → Q mk_ h1) : wpC (d + 3) true 36 [.ref 39, .ref 31, .ref 44] h Q := by
  have hN := tot_b cs.1
  have h4 := cs.1.1
  obtain ⟨a1, a2, a3, a4, nb, b1, b2, b3⟩ := mk
  refine go_in rfl ?_
  refine exf_go 2 (show Go (d + 2) true 36 2 [.ref 39, .ref 31, .ref 44, .int 0, mk_] [] h Q from ?_)
  have L2 : ∀ (k2 : Nat) (z4 : Value) (j : Nat) (h1 : Hp), (c - j) < k2 → (j ≤ c) → (Fq sL3 h h1) → (CL 39 g (lkT l (tkT (lT l) nb j)) h1) → Go (d + 2) true 36 2 [.ref 39, .ref 31, .ref 44, .int (nI j), z4] [] h1 Q := by
    intro k2
    induction k2 with
    | zero => intro z4 j h1 hk; exact absurd hk (Nat.not_lt_zero _)
    | succ k2 ih2 =>
      intro z4 j h1 hk hj q1 cl1
      have cs1 := cs_L3 cs q1
      have em : rI h1 44 = rI h 44 := q1.I (fun _ => rfl)
      have em1 : rI h1 45 = rI h 45 := q1.I (fun _ => rfl)
      have hal1 := cl_al cl1
      simp only [Nat.reduceAdd] at hal1
      have hfN := cl_N cl1; have hfT := cl_T cl1; have hfC := cl_Cl cl1
      refine exf_go 3 (show Go (d + 2) true 36 7 [.ref 39, .ref 31, .ref 44, .int (nI j), z4] [.int (rI h1 44 1), .int (nI j)] h1 Q from ?_)
      rw [show (rI h1 44 1 : Int32) = nI c from by rw [em]; exact a2.1]
      refine exf_go 1 (show ((nI c) ≤ (nI j) → Go (d + 2) true 36 56 [.ref 39, .ref 31, .ref 44, .int (nI j), z4] [] h1 Q) ∧ (¬ ((nI c) ≤ (nI j)) → Go (d + 2) true 36 10 [.ref 39, .ref 31, .ref 44, .int (nI j), z4] [] h1 Q) from ⟨fun c1 => ?_, fun c1 => ?_⟩)
      · skip
        have c1 : c ≤ j := (nI_leI (a := c) (b := j) (by omega) (by omega)).mp c1
        have hjc : j = c := by omega
        have hT0 : ∀ n, n < tot g → tkT (lT l) nb j n = lT l0 n := fun n hn => tk_all hjc (fun k hk => (b1 k hk).2.2.2) b3 n hn
        refine exf_go 3 (show Go (d + 2) true 36 61 [.ref 39, .ref 31, .ref 44, .int (nI j), z4] [.int (rI h1 44 3), .ref 39] h1 Q from ?_)
        rw [show (rI h1 44 3 : Int32) = nI (lA l0) from by rw [em]; exact a2.2.1]
        refine exf_go 4 (show Go (d + 2) true 36 69 [.ref 39, .ref 31, .ref 44, .int (nI j), z4] [.int (rI h1 44 4), .ref 39] (uI h1 39 3 (nI (lA l0))) Q from ?_)
        rw [show (rI h1 44 4 : Int32) = lX l0 from by rw [em]; exact a2.2.2.1]
        refine exf_go 4 (show Go (d + 2) true 36 77 [.ref 39, .ref 31, .ref 44, .int (nI j), z4] [.int (rI h1 44 5), .ref 39] (uI (uI h1 39 3 (nI (lA l0))) 39 4 (lX l0)) Q from ?_)
        rw [show (rI h1 44 5 : Int32) = lG l0 from by rw [em]; exact a2.2.2.2.1]
        refine exf_go 4 (show Go (d + 2) true 36 85 [.ref 39, .ref 31, .ref 44, .int (nI j), z4] [.int (rI h1 44 6), .ref 39] (uI (uI (uI h1 39 3 (nI (lA l0))) 39 4 (lX l0)) 39 5 (lG l0)) Q from ?_)
        rw [show (rI h1 44 6 : Int32) = nI (lO l0) from by rw [em]; exact a2.2.2.2.2]
        refine exf_go 12 (show ((nI (lO l0)) = 0 ∨ (nI (lO l0)) = 1) ∧ ¬ (0 : Int32) < 0 ∧ ¬ (0 : Int32) < 0 ∧ ¬ (4 : Int32) < 0 ∧ 0 + 4 ≤ 4 ∧ 0 + 4 ≤ 4 ∧ (wpC (d + 2) true 37 [.ref 39, .ref 31] (uA (uI (uI (uI (uI h1 39 3 (nI (lA l0))) 39 4 (lX l0)) 39 5 (lG l0)) 39 7 (nI (lO l0))) 41 (va_cpy (rI h1 46) (rI h1 41) 0 0 4)) (fun _ h' => Go (d + 2) true 36 107 [.ref 39, .ref 31, .ref 44, .int (nI j), z4] [] h' Q)) from ⟨(by first | exact Or.inl rfl | exact Or.inr rfl | exact lO_b a4), (by decide), (by decide), (by decide), (by first | decide | omega), (by first | decide | omega), ?_⟩)
        have csu := cs_same (h1 := uA (uI (uI (uI (uI h1 39 3 (nI (lA l0))) 39 4 (lX l0)) 39 5 (lG l0)) 39 7 (nI (lO l0))) 41 (va_cpy (rI h1 46) (rI h1 41) 0 0 4)) cs1 (fun a u v => by show rI (uA (uI (uI (uI (uI h1 39 3 _) 39 4 _) 39 5 _) 39 7 _) 41 _) a = _; rw [rI_uA_ne (by omega), rI_uI_ne (by omega), rI_uI_ne (by omega), rI_uI_ne (by omega), rI_uI_ne (by omega)])
        refine c_unfelt csu (l := l0) ⟨a4, hfN, rfl, rfl, rfl, rfl, ?_, hal1.1, hal1.2, fun n hn => ⟨1 - agA g (lkT l (tkT (lT l) nb j)) n, by omega, ?_⟩, fun v hv => ?_⟩ (fun h2 q2 cl2 => ?_)
        · exact hfT.trans (congrArg nI (cnt_cg _ (fun m hm => by show (tkT (lT l) nb j m == 1) = (lT l0 m == 1); rw [hT0 m hm])))
        · refine (hfC n hn).trans (congrArg nI ?_); rw [cel, show lT (lkT l (tkT (lT l) nb j)) n = lT l0 n from hT0 n hn]
        · show va_cpy (rI h1 46) (rI h1 41) 0 0 4 v = _; rw [q1.I (a := 46) (fun _ => rfl), cpy4 _ _ (by omega)]; exact a3 v hv
        show Go (d + 2) true 36 107 [.ref 39, .ref 31, .ref 44, .int (nI j), z4] [] h2 Q
        refine exf_go 1 (show Q (mk_) h2 from ?_)
        exact k h2 ((((((q1.uI' _ _ _ rfl).uI' _ _ _ rfl).uI' _ _ _ rfl).uI' _ _ _ rfl).uA' _ _ (fun _ => rfl)).tr (q2.mono (sAt_s (fun _ => rfl)))) cl2
      · skip
        have c1 : ¬ c ≤ j := fun q => c1 ((nI_leI (a := c) (b := j) (by omega) (by omega)).mpr q)
        refine exf_go 4 (show vp_in (nI j) 40 ∧ (Go (d + 2) true 36 16 [.ref 39, .ref 31, .ref 44, .int (nI j), z4] [.int (rI h1 45 ((nI j).toNatClampNeg))] h1 Q) from ⟨(vp_in_nI (by omega) (by omega)), ?_⟩)
        rw [show (rI h1 45 ((nI j).toNatClampNeg) : Int32) = nI (nb j) from by rw [em1, nI_clamp (by omega)]; exact (b1 j (by omega)).1]
        have hbj := b1 j (by omega)
        have hTj : tkT (lT l) nb j (nb j) = 1 := by rw [tk_out j (fun k hk q => by have := b2 k j (by omega) (by omega) q; omega)]; exact hbj.2.2.1
        have hcnt := cnt_lt hbj.2.1 (p := fun m => tkT (lT l) nb j m == 1) (by show (tkT (lT l) nb j (nb j) == 1) = true; rw [hTj]; rfl); have hcle := cntN_le (fun m => tkT (lT l) nb j m == 1) (tot g)
        refine exf_go 4 (show wpC (d + 2) true 32 [.ref 39, .int (nI (nb j))] h1 (fun r h' => Go (d + 2) true 36 24 [.ref 39, .ref 31, .ref 44, .int (nI j), .int (nI (nb j))] [r] h' Q) from ?_)
        refine c_isCell cs1 cl1 (by omega) ?_
        show Go (d + 2) true 36 24 [.ref 39, .ref 31, .ref 44, .int (nI j), .int (nI (nb j))] [.int 1] h1 Q
        refine exf_go 1 (show ((1 : Int32) = 0 → Go (d + 2) true 36 50 [.ref 39, .ref 31, .ref 44, .int (nI j), .int (nI (nb j))] [] h1 Q) ∧ (¬ ((1 : Int32) = 0) → Go (d + 2) true 36 27 [.ref 39, .ref 31, .ref 44, .int (nI j), .int (nI (nb j))] [] h1 Q) from ⟨fun c2 => ?_, fun c2 => ?_⟩)
        · skip
          exact absurd c2 (by decide)
        · skip
          refine exf_go 5 (show vp_in (nI (nb j)) (al h1 40) ∧ (Go (d + 2) true 36 35 [.ref 39, .ref 31, .ref 44, .int (nI j), .int (nI (nb j))] [.int (rI h1 40 ((nI (nb j)).toNatClampNeg)), .int (nI (nb j)), .ref 40] h1 Q) from ⟨(vp_in_nI (by omega) (by omega)), ?_⟩)
          rw [show (rI h1 40 ((nI (nb j)).toNatClampNeg) : Int32) = nI (cel g (lkT l (tkT (lT l) nb j)) (nb j)) from by rw [nI_clamp (by omega)]; exact cl_Cl cl1 (nb j) (by omega)]
          refine exf_go 2 (show Go (d + 2) true 36 39 [.ref 39, .ref 31, .ref 44, .int (nI j), .int (nI (nb j))] [.int ((nI (cel g (lkT l (tkT (lT l) nb j)) (nb j))) &&& (-257)), .int (nI (nb j)), .ref 40] h1 Q from ?_)
          rw [show ((nI (cel g (lkT l (tkT (lT l) nb j)) (nb j))) &&& (-257) : Int32) = nI (cel g (lkT l (va_up (tkT (lT l) nb j) (nb j) 0)) (nb j)) from cel_unt cs.1 cl1.1 hTj (by show va_up _ _ _ _ = _; rw [up_eq]) rfl]
          refine exf_go 4 (show vp_in (nI (nb j)) (al h1 40) ∧ (Go (d + 2) true 36 45 [.ref 39, .ref 31, .ref 44, .int (nI j), .int (nI (nb j))] [.int (rI h1 39 6), .ref 39] (uI h1 40 ((nI (nb j)).toNatClampNeg) (nI (cel g (lkT l (va_up (tkT (lT l) nb j) (nb j) 0)) (nb j)))) Q) from ⟨(vp_in_nI (by omega) (by omega)), ?_⟩)
          rw [show (rI h1 39 6 : Int32) = nI (cntN (fun m => tkT (lT l) nb j m == 1) (tot g)) from cl_T cl1]
          refine exf_go 2 (show Go (d + 2) true 36 47 [.ref 39, .ref 31, .ref 44, .int (nI j), .int (nI (nb j))] [.int ((nI (cntN (fun m => tkT (lT l) nb j m == 1) (tot g))) - 1), .ref 39] (uI h1 40 ((nI (nb j)).toNatClampNeg) (nI (cel g (lkT l (va_up (tkT (lT l) nb j) (nb j) 0)) (nb j)))) Q from ?_)
          rw [show ((nI (cntN (fun m => tkT (lT l) nb j m == 1) (tot g))) - 1 : Int32) = nI (cntN (fun m => tkT (lT l) nb j m == 1) (tot g) - 1) from pk_sub (b := 1) (by omega)]
          refine exf_go 2 (show Go (d + 2) true 36 53 [.ref 39, .ref 31, .ref 44, .int ((nI j) + 1), .int (nI (nb j))] [] (uI (uI h1 40 ((nI (nb j)).toNatClampNeg) (nI (cel g (lkT l (va_up (tkT (lT l) nb j) (nb j) 0)) (nb j)))) 39 6 (nI (cntN (fun m => tkT (lT l) nb j m == 1) (tot g) - 1))) Q from ?_)
          rw [show ((nI j) + 1 : Int32) = nI (j + 1) from nI_add j 1]
          refine exf_go 1 (show Go (d + 2) true 36 2 [.ref 39, .ref 31, .ref 44, .int (nI (j + 1)), .int (nI (nb j))] [] (uI (uI h1 40 ((nI (nb j)).toNatClampNeg) (nI (cel g (lkT l (va_up (tkT (lT l) nb j) (nb j) 0)) (nb j)))) 39 6 (nI (cntN (fun m => tkT (lT l) nb j m == 1) (tot g) - 1))) Q from ?_)
          exact ih2 (.int (nI (nb j))) (j + 1) _ (by omega) (by omega) ((q1.uI' _ _ _ rfl).uI' _ _ _ rfl) (by rw [nI_clamp (by omega)]; exact cl_unt cs.1 cl1 (b1 j (by omega)).2.1 hTj)
  exact L2 (c + 1) mk_ 0 h (by omega) (by omega) Fq.rfl' cl
theorem c_tb1 {d : Nat} {h : Hp} {g : ShG} {l l0 : LkG} {c : Nat} {Q : Po} (cs : CS 31 g h) (cl : CL 39 g l h) (mk : CMK g 1 l0 l c h) (k : ∀ h1, Fq sL3 h h1 → CL 39 g l0 h1 → Q mk_ h1) : wpC (d + 3) true 36 [.ref 39, .ref 31, .ref 47] h Q := by
  have hN := tot_b cs.1
  have h4 := cs.1.1
  obtain ⟨a1, a2, a3, a4, nb, b1, b2, b3⟩ := mk
  refine go_in rfl ?_
  refine exf_go 2 (show Go (d + 2) true 36 2 [.ref 39, .ref 31, .ref 47, .int 0, mk_] [] h Q from ?_)
  have L2 : ∀ (k2 : Nat) (z4 : Value) (j : Nat) (h1 : Hp), (c - j) < k2 → (j ≤ c) → (Fq sL3 h h1) → (CL 39 g (lkT l (tkT (lT l) nb j)) h1) → Go (d + 2) true 36 2 [.ref 39, .ref 31, .ref 47, .int (nI j), z4] [] h1 Q := by
    intro k2
    induction k2 with
    | zero => intro z4 j h1 hk; exact absurd hk (Nat.not_lt_zero _)
    | succ k2 ih2 =>
      intro z4 j h1 hk hj q1 cl1
      have cs1 := cs_L3 cs q1
      have em : rI h1 47 = rI h 47 := q1.I (fun _ => rfl)
      have em1 : rI h1 48 = rI h 48 := q1.I (fun _ => rfl)
      have hal1 := cl_al cl1
      simp only [Nat.reduceAdd] at hal1
      have hfN := cl_N cl1; have hfT := cl_T cl1; have hfC := cl_Cl cl1
      refine exf_go 3 (show Go (d + 2) true 36 7 [.ref 39, .ref 31, .ref 47, .int (nI j), z4] [.int (rI h1 47 1), .int (nI j)] h1 Q from ?_)
      rw [show (rI h1 47 1 : Int32) = nI c from by rw [em]; exact a2.1]
      refine exf_go 1 (show ((nI c) ≤ (nI j) → Go (d + 2) true 36 56 [.ref 39, .ref 31, .ref 47, .int (nI j), z4] [] h1 Q) ∧ (¬ ((nI c) ≤ (nI j)) → Go (d + 2) true 36 10 [.ref 39, .ref 31, .ref 47, .int (nI j), z4] [] h1 Q) from ⟨fun c1 => ?_, fun c1 => ?_⟩)
      · skip
        have c1 : c ≤ j := (nI_leI (a := c) (b := j) (by omega) (by omega)).mp c1
        have hjc : j = c := by omega
        have hT0 : ∀ n, n < tot g → tkT (lT l) nb j n = lT l0 n := fun n hn => tk_all hjc (fun k hk => (b1 k hk).2.2.2) b3 n hn
        refine exf_go 3 (show Go (d + 2) true 36 61 [.ref 39, .ref 31, .ref 47, .int (nI j), z4] [.int (rI h1 47 3), .ref 39] h1 Q from ?_)
        rw [show (rI h1 47 3 : Int32) = nI (lA l0) from by rw [em]; exact a2.2.1]
        refine exf_go 4 (show Go (d + 2) true 36 69 [.ref 39, .ref 31, .ref 47, .int (nI j), z4] [.int (rI h1 47 4), .ref 39] (uI h1 39 3 (nI (lA l0))) Q from ?_)
        rw [show (rI h1 47 4 : Int32) = lX l0 from by rw [em]; exact a2.2.2.1]
        refine exf_go 4 (show Go (d + 2) true 36 77 [.ref 39, .ref 31, .ref 47, .int (nI j), z4] [.int (rI h1 47 5), .ref 39] (uI (uI h1 39 3 (nI (lA l0))) 39 4 (lX l0)) Q from ?_)
        rw [show (rI h1 47 5 : Int32) = lG l0 from by rw [em]; exact a2.2.2.2.1]
        refine exf_go 4 (show Go (d + 2) true 36 85 [.ref 39, .ref 31, .ref 47, .int (nI j), z4] [.int (rI h1 47 6), .ref 39] (uI (uI (uI h1 39 3 (nI (lA l0))) 39 4 (lX l0)) 39 5 (lG l0)) Q from ?_)
        rw [show (rI h1 47 6 : Int32) = nI (lO l0) from by rw [em]; exact a2.2.2.2.2]
        refine exf_go 12 (show ((nI (lO l0)) = 0 ∨ (nI (lO l0)) = 1) ∧ ¬ (0 : Int32) < 0 ∧ ¬ (0 : Int32) < 0 ∧ ¬ (4 : Int32) < 0 ∧ 0 + 4 ≤ 4 ∧ 0 + 4 ≤ 4 ∧ (wpC (d + 2) true 37 [.ref 39, .ref 31] (uA (uI (uI (uI (uI h1 39 3 (nI (lA l0))) 39 4 (lX l0)) 39 5 (lG l0)) 39 7 (nI (lO l0))) 41 (va_cpy (rI h1 49) (rI h1 41) 0 0 4)) (fun _ h' => Go (d + 2) true 36 107 [.ref 39, .ref 31, .ref 47, .int (nI j), z4] [] h' Q)) from ⟨(by first | exact Or.inl rfl | exact Or.inr rfl | exact lO_b a4), (by decide), (by decide), (by decide), (by first | decide | omega), (by first | decide | omega), ?_⟩)
        have csu := cs_same (h1 := uA (uI (uI (uI (uI h1 39 3 (nI (lA l0))) 39 4 (lX l0)) 39 5 (lG l0)) 39 7 (nI (lO l0))) 41 (va_cpy (rI h1 49) (rI h1 41) 0 0 4)) cs1 (fun a u v => by show rI (uA (uI (uI (uI (uI h1 39 3 _) 39 4 _) 39 5 _) 39 7 _) 41 _) a = _; rw [rI_uA_ne (by omega), rI_uI_ne (by omega), rI_uI_ne (by omega), rI_uI_ne (by omega), rI_uI_ne (by omega)])
        refine c_unfelt csu (l := l0) ⟨a4, hfN, rfl, rfl, rfl, rfl, ?_, hal1.1, hal1.2, fun n hn => ⟨1 - agA g (lkT l (tkT (lT l) nb j)) n, by omega, ?_⟩, fun v hv => ?_⟩ (fun h2 q2 cl2 => ?_)
        · exact hfT.trans (congrArg nI (cnt_cg _ (fun m hm => by show (tkT (lT l) nb j m == 1) = (lT l0 m == 1); rw [hT0 m hm])))
        · refine (hfC n hn).trans (congrArg nI ?_); rw [cel, show lT (lkT l (tkT (lT l) nb j)) n = lT l0 n from hT0 n hn]
        · show va_cpy (rI h1 49) (rI h1 41) 0 0 4 v = _; rw [q1.I (a := 49) (fun _ => rfl), cpy4 _ _ (by omega)]; exact a3 v hv
        show Go (d + 2) true 36 107 [.ref 39, .ref 31, .ref 47, .int (nI j), z4] [] h2 Q
        refine exf_go 1 (show Q (mk_) h2 from ?_)
        exact k h2 ((((((q1.uI' _ _ _ rfl).uI' _ _ _ rfl).uI' _ _ _ rfl).uI' _ _ _ rfl).uA' _ _ (fun _ => rfl)).tr (q2.mono (sAt_s (fun _ => rfl)))) cl2
      · skip
        have c1 : ¬ c ≤ j := fun q => c1 ((nI_leI (a := c) (b := j) (by omega) (by omega)).mpr q)
        refine exf_go 4 (show vp_in (nI j) 40 ∧ (Go (d + 2) true 36 16 [.ref 39, .ref 31, .ref 47, .int (nI j), z4] [.int (rI h1 48 ((nI j).toNatClampNeg))] h1 Q) from ⟨(vp_in_nI (by omega) (by omega)), ?_⟩)
        rw [show (rI h1 48 ((nI j).toNatClampNeg) : Int32) = nI (nb j) from by rw [em1, nI_clamp (by omega)]; exact (b1 j (by omega)).1]
        have hbj := b1 j (by omega)
        have hTj : tkT (lT l) nb j (nb j) = 1 := by rw [tk_out j (fun k hk q => by have := b2 k j (by omega) (by omega) q; omega)]; exact hbj.2.2.1
        have hcnt := cnt_lt hbj.2.1 (p := fun m => tkT (lT l) nb j m == 1) (by show (tkT (lT l) nb j (nb j) == 1) = true; rw [hTj]; rfl); have hcle := cntN_le (fun m => tkT (lT l) nb j m == 1) (tot g)
        refine exf_go 4 (show wpC (d + 2) true 32 [.ref 39, .int (nI (nb j))] h1 (fun r h' => Go (d + 2) true 36 24 [.ref 39, .ref 31, .ref 47, .int (nI j), .int (nI (nb j))] [r] h' Q) from ?_)
        refine c_isCell cs1 cl1 (by omega) ?_
        show Go (d + 2) true 36 24 [.ref 39, .ref 31, .ref 47, .int (nI j), .int (nI (nb j))] [.int 1] h1 Q
        refine exf_go 1 (show ((1 : Int32) = 0 → Go (d + 2) true 36 50 [.ref 39, .ref 31, .ref 47, .int (nI j), .int (nI (nb j))] [] h1 Q) ∧ (¬ ((1 : Int32) = 0) → Go (d + 2) true 36 27 [.ref 39, .ref 31, .ref 47, .int (nI j), .int (nI (nb j))] [] h1 Q) from ⟨fun c2 => ?_, fun c2 => ?_⟩)
        · skip
          exact absurd c2 (by decide)
        · skip
          refine exf_go 5 (show vp_in (nI (nb j)) (al h1 40) ∧ (Go (d + 2) true 36 35 [.ref 39, .ref 31, .ref 47, .int (nI j), .int (nI (nb j))] [.int (rI h1 40 ((nI (nb j)).toNatClampNeg)), .int (nI (nb j)), .ref 40] h1 Q) from ⟨(vp_in_nI (by omega) (by omega)), ?_⟩)
          rw [show (rI h1 40 ((nI (nb j)).toNatClampNeg) : Int32) = nI (cel g (lkT l (tkT (lT l) nb j)) (nb j)) from by rw [nI_clamp (by omega)]; exact cl_Cl cl1 (nb j) (by omega)]
          refine exf_go 2 (show Go (d + 2) true 36 39 [.ref 39, .ref 31, .ref 47, .int (nI j), .int (nI (nb j))] [.int ((nI (cel g (lkT l (tkT (lT l) nb j)) (nb j))) &&& (-257)), .int (nI (nb j)), .ref 40] h1 Q from ?_)
          rw [show ((nI (cel g (lkT l (tkT (lT l) nb j)) (nb j))) &&& (-257) : Int32) = nI (cel g (lkT l (va_up (tkT (lT l) nb j) (nb j) 0)) (nb j)) from cel_unt cs.1 cl1.1 hTj (by show va_up _ _ _ _ = _; rw [up_eq]) rfl]
          refine exf_go 4 (show vp_in (nI (nb j)) (al h1 40) ∧ (Go (d + 2) true 36 45 [.ref 39, .ref 31, .ref 47, .int (nI j), .int (nI (nb j))] [.int (rI h1 39 6), .ref 39] (uI h1 40 ((nI (nb j)).toNatClampNeg) (nI (cel g (lkT l (va_up (tkT (lT l) nb j) (nb j) 0)) (nb j)))) Q) from ⟨(vp_in_nI (by omega) (by omega)), ?_⟩)
          rw [show (rI h1 39 6 : Int32) = nI (cntN (fun m => tkT (lT l) nb j m == 1) (tot g)) from cl_T cl1]
          refine exf_go 2 (show Go (d + 2) true 36 47 [.ref 39, .ref 31, .ref 47, .int (nI j), .int (nI (nb j))] [.int ((nI (cntN (fun m => tkT (lT l) nb j m == 1) (tot g))) - 1), .ref 39] (uI h1 40 ((nI (nb j)).toNatClampNeg) (nI (cel g (lkT l (va_up (tkT (lT l) nb j) (nb j) 0)) (nb j)))) Q from ?_)
          rw [show ((nI (cntN (fun m => tkT (lT l) nb j m == 1) (tot g))) - 1 : Int32) = nI (cntN (fun m => tkT (lT l) nb j m == 1) (tot g) - 1) from pk_sub (b := 1) (by omega)]
          refine exf_go 2 (show Go (d + 2) true 36 53 [.ref 39, .ref 31, .ref 47, .int ((nI j) + 1), .int (nI (nb j))] [] (uI (uI h1 40 ((nI (nb j)).toNatClampNeg) (nI (cel g (lkT l (va_up (tkT (lT l) nb j) (nb j) 0)) (nb j)))) 39 6 (nI (cntN (fun m => tkT (lT l) nb j m == 1) (tot g) - 1))) Q from ?_)
          rw [show ((nI j) + 1 : Int32) = nI (j + 1) from nI_add j 1]
          refine exf_go 1 (show Go (d + 2) true 36 2 [.ref 39, .ref 31, .ref 47, .int (nI (j + 1)), .int (nI (nb j))] [] (uI (uI h1 40 ((nI (nb j)).toNatClampNeg) (nI (cel g (lkT l (va_up (tkT (lT l) nb j) (nb j) 0)) (nb j)))) 39 6 (nI (cntN (fun m => tkT (lT l) nb j m == 1) (tot g) - 1))) Q from ?_)
          exact ih2 (.int (nI (nb j))) (j + 1) _ (by omega) (by omega) ((q1.uI' _ _ _ rfl).uI' _ _ _ rfl) (by rw [nI_clamp (by omega)]; exact cl_unt cs.1 cl1 (b1 j (by omega)).2.1 hTj)
  exact L2 (c + 1) mk_ 0 h (by omega) (by omega) Fq.rfl' cl
theorem c_tb2 {d : Nat} {h : Hp} {g : ShG} {l l0 : LkG} {c : Nat} {Q : Po} (cs : CS 31 g h) (cl : CL 39 g l h) (mk : CMK g 2 l0 l c h) (k : ∀ h1, Fq sL3 h h1 → CL 39 g l0 h1 → Q mk_ h1) : wpC (d + 3) true 36 [.ref 39, .ref 31, .ref 50] h Q := by
  have hN := tot_b cs.1
  have h4 := cs.1.1
  obtain ⟨a1, a2, a3, a4, nb, b1, b2, b3⟩ := mk
  refine go_in rfl ?_
  refine exf_go 2 (show Go (d + 2) true 36 2 [.ref 39, .ref 31, .ref 50, .int 0, mk_] [] h Q from ?_)
  have L2 : ∀ (k2 : Nat) (z4 : Value) (j : Nat) (h1 : Hp), (c - j) < k2 → (j ≤ c) → (Fq sL3 h h1) → (CL 39 g (lkT l (tkT (lT l) nb j)) h1) → Go (d + 2) true 36 2 [.ref 39, .ref 31, .ref 50, .int (nI j), z4] [] h1 Q := by
    intro k2
    induction k2 with
    | zero => intro z4 j h1 hk; exact absurd hk (Nat.not_lt_zero _)
    | succ k2 ih2 =>
      intro z4 j h1 hk hj q1 cl1
      have cs1 := cs_L3 cs q1
      have em : rI h1 50 = rI h 50 := q1.I (fun _ => rfl)
      have em1 : rI h1 51 = rI h 51 := q1.I (fun _ => rfl)
      have hal1 := cl_al cl1
      simp only [Nat.reduceAdd] at hal1
      have hfN := cl_N cl1; have hfT := cl_T cl1; have hfC := cl_Cl cl1
      refine exf_go 3 (show Go (d + 2) true 36 7 [.ref 39, .ref 31, .ref 50, .int (nI j), z4] [.int (rI h1 50 1), .int (nI j)] h1 Q from ?_)
      rw [show (rI h1 50 1 : Int32) = nI c from by rw [em]; exact a2.1]
      refine exf_go 1 (show ((nI c) ≤ (nI j) → Go (d + 2) true 36 56 [.ref 39, .ref 31, .ref 50, .int (nI j), z4] [] h1 Q) ∧ (¬ ((nI c) ≤ (nI j)) → Go (d + 2) true 36 10 [.ref 39, .ref 31, .ref 50, .int (nI j), z4] [] h1 Q) from ⟨fun c1 => ?_, fun c1 => ?_⟩)
      · skip
        have c1 : c ≤ j := (nI_leI (a := c) (b := j) (by omega) (by omega)).mp c1
        have hjc : j = c := by omega
        have hT0 : ∀ n, n < tot g → tkT (lT l) nb j n = lT l0 n := fun n hn => tk_all hjc (fun k hk => (b1 k hk).2.2.2) b3 n hn
        refine exf_go 3 (show Go (d + 2) true 36 61 [.ref 39, .ref 31, .ref 50, .int (nI j), z4] [.int (rI h1 50 3), .ref 39] h1 Q from ?_)
        rw [show (rI h1 50 3 : Int32) = nI (lA l0) from by rw [em]; exact a2.2.1]
        refine exf_go 4 (show Go (d + 2) true 36 69 [.ref 39, .ref 31, .ref 50, .int (nI j), z4] [.int (rI h1 50 4), .ref 39] (uI h1 39 3 (nI (lA l0))) Q from ?_)
        rw [show (rI h1 50 4 : Int32) = lX l0 from by rw [em]; exact a2.2.2.1]
        refine exf_go 4 (show Go (d + 2) true 36 77 [.ref 39, .ref 31, .ref 50, .int (nI j), z4] [.int (rI h1 50 5), .ref 39] (uI (uI h1 39 3 (nI (lA l0))) 39 4 (lX l0)) Q from ?_)
        rw [show (rI h1 50 5 : Int32) = lG l0 from by rw [em]; exact a2.2.2.2.1]
        refine exf_go 4 (show Go (d + 2) true 36 85 [.ref 39, .ref 31, .ref 50, .int (nI j), z4] [.int (rI h1 50 6), .ref 39] (uI (uI (uI h1 39 3 (nI (lA l0))) 39 4 (lX l0)) 39 5 (lG l0)) Q from ?_)
        rw [show (rI h1 50 6 : Int32) = nI (lO l0) from by rw [em]; exact a2.2.2.2.2]
        refine exf_go 12 (show ((nI (lO l0)) = 0 ∨ (nI (lO l0)) = 1) ∧ ¬ (0 : Int32) < 0 ∧ ¬ (0 : Int32) < 0 ∧ ¬ (4 : Int32) < 0 ∧ 0 + 4 ≤ 4 ∧ 0 + 4 ≤ 4 ∧ (wpC (d + 2) true 37 [.ref 39, .ref 31] (uA (uI (uI (uI (uI h1 39 3 (nI (lA l0))) 39 4 (lX l0)) 39 5 (lG l0)) 39 7 (nI (lO l0))) 41 (va_cpy (rI h1 52) (rI h1 41) 0 0 4)) (fun _ h' => Go (d + 2) true 36 107 [.ref 39, .ref 31, .ref 50, .int (nI j), z4] [] h' Q)) from ⟨(by first | exact Or.inl rfl | exact Or.inr rfl | exact lO_b a4), (by decide), (by decide), (by decide), (by first | decide | omega), (by first | decide | omega), ?_⟩)
        have csu := cs_same (h1 := uA (uI (uI (uI (uI h1 39 3 (nI (lA l0))) 39 4 (lX l0)) 39 5 (lG l0)) 39 7 (nI (lO l0))) 41 (va_cpy (rI h1 52) (rI h1 41) 0 0 4)) cs1 (fun a u v => by show rI (uA (uI (uI (uI (uI h1 39 3 _) 39 4 _) 39 5 _) 39 7 _) 41 _) a = _; rw [rI_uA_ne (by omega), rI_uI_ne (by omega), rI_uI_ne (by omega), rI_uI_ne (by omega), rI_uI_ne (by omega)])
        refine c_unfelt csu (l := l0) ⟨a4, hfN, rfl, rfl, rfl, rfl, ?_, hal1.1, hal1.2, fun n hn => ⟨1 - agA g (lkT l (tkT (lT l) nb j)) n, by omega, ?_⟩, fun v hv => ?_⟩ (fun h2 q2 cl2 => ?_)
        · exact hfT.trans (congrArg nI (cnt_cg _ (fun m hm => by show (tkT (lT l) nb j m == 1) = (lT l0 m == 1); rw [hT0 m hm])))
        · refine (hfC n hn).trans (congrArg nI ?_); rw [cel, show lT (lkT l (tkT (lT l) nb j)) n = lT l0 n from hT0 n hn]
        · show va_cpy (rI h1 52) (rI h1 41) 0 0 4 v = _; rw [q1.I (a := 52) (fun _ => rfl), cpy4 _ _ (by omega)]; exact a3 v hv
        show Go (d + 2) true 36 107 [.ref 39, .ref 31, .ref 50, .int (nI j), z4] [] h2 Q
        refine exf_go 1 (show Q (mk_) h2 from ?_)
        exact k h2 ((((((q1.uI' _ _ _ rfl).uI' _ _ _ rfl).uI' _ _ _ rfl).uI' _ _ _ rfl).uA' _ _ (fun _ => rfl)).tr (q2.mono (sAt_s (fun _ => rfl)))) cl2
      · skip
        have c1 : ¬ c ≤ j := fun q => c1 ((nI_leI (a := c) (b := j) (by omega) (by omega)).mpr q)
        refine exf_go 4 (show vp_in (nI j) 40 ∧ (Go (d + 2) true 36 16 [.ref 39, .ref 31, .ref 50, .int (nI j), z4] [.int (rI h1 51 ((nI j).toNatClampNeg))] h1 Q) from ⟨(vp_in_nI (by omega) (by omega)), ?_⟩)
        rw [show (rI h1 51 ((nI j).toNatClampNeg) : Int32) = nI (nb j) from by rw [em1, nI_clamp (by omega)]; exact (b1 j (by omega)).1]
        have hbj := b1 j (by omega)
        have hTj : tkT (lT l) nb j (nb j) = 1 := by rw [tk_out j (fun k hk q => by have := b2 k j (by omega) (by omega) q; omega)]; exact hbj.2.2.1
        have hcnt := cnt_lt hbj.2.1 (p := fun m => tkT (lT l) nb j m == 1) (by show (tkT (lT l) nb j (nb j) == 1) = true; rw [hTj]; rfl); have hcle := cntN_le (fun m => tkT (lT l) nb j m == 1) (tot g)
        refine exf_go 4 (show wpC (d + 2) true 32 [.ref 39, .int (nI (nb j))] h1 (fun r h' => Go (d + 2) true 36 24 [.ref 39, .ref 31, .ref 50, .int (nI j), .int (nI (nb j))] [r] h' Q) from ?_)
        refine c_isCell cs1 cl1 (by omega) ?_
        show Go (d + 2) true 36 24 [.ref 39, .ref 31, .ref 50, .int (nI j), .int (nI (nb j))] [.int 1] h1 Q
        refine exf_go 1 (show ((1 : Int32) = 0 → Go (d + 2) true 36 50 [.ref 39, .ref 31, .ref 50, .int (nI j), .int (nI (nb j))] [] h1 Q) ∧ (¬ ((1 : Int32) = 0) → Go (d + 2) true 36 27 [.ref 39, .ref 31, .ref 50, .int (nI j), .int (nI (nb j))] [] h1 Q) from ⟨fun c2 => ?_, fun c2 => ?_⟩)
        · skip
          exact absurd c2 (by decide)
        · skip
          refine exf_go 5 (show vp_in (nI (nb j)) (al h1 40) ∧ (Go (d + 2) true 36 35 [.ref 39, .ref 31, .ref 50, .int (nI j), .int (nI (nb j))] [.int (rI h1 40 ((nI (nb j)).toNatClampNeg)), .int (nI (nb j)), .ref 40] h1 Q) from ⟨(vp_in_nI (by omega) (by omega)), ?_⟩)
          rw [show (rI h1 40 ((nI (nb j)).toNatClampNeg) : Int32) = nI (cel g (lkT l (tkT (lT l) nb j)) (nb j)) from by rw [nI_clamp (by omega)]; exact cl_Cl cl1 (nb j) (by omega)]
          refine exf_go 2 (show Go (d + 2) true 36 39 [.ref 39, .ref 31, .ref 50, .int (nI j), .int (nI (nb j))] [.int ((nI (cel g (lkT l (tkT (lT l) nb j)) (nb j))) &&& (-257)), .int (nI (nb j)), .ref 40] h1 Q from ?_)
          rw [show ((nI (cel g (lkT l (tkT (lT l) nb j)) (nb j))) &&& (-257) : Int32) = nI (cel g (lkT l (va_up (tkT (lT l) nb j) (nb j) 0)) (nb j)) from cel_unt cs.1 cl1.1 hTj (by show va_up _ _ _ _ = _; rw [up_eq]) rfl]
          refine exf_go 4 (show vp_in (nI (nb j)) (al h1 40) ∧ (Go (d + 2) true 36 45 [.ref 39, .ref 31, .ref 50, .int (nI j), .int (nI (nb j))] [.int (rI h1 39 6), .ref 39] (uI h1 40 ((nI (nb j)).toNatClampNeg) (nI (cel g (lkT l (va_up (tkT (lT l) nb j) (nb j) 0)) (nb j)))) Q) from ⟨(vp_in_nI (by omega) (by omega)), ?_⟩)
          rw [show (rI h1 39 6 : Int32) = nI (cntN (fun m => tkT (lT l) nb j m == 1) (tot g)) from cl_T cl1]
          refine exf_go 2 (show Go (d + 2) true 36 47 [.ref 39, .ref 31, .ref 50, .int (nI j), .int (nI (nb j))] [.int ((nI (cntN (fun m => tkT (lT l) nb j m == 1) (tot g))) - 1), .ref 39] (uI h1 40 ((nI (nb j)).toNatClampNeg) (nI (cel g (lkT l (va_up (tkT (lT l) nb j) (nb j) 0)) (nb j)))) Q from ?_)
          rw [show ((nI (cntN (fun m => tkT (lT l) nb j m == 1) (tot g))) - 1 : Int32) = nI (cntN (fun m => tkT (lT l) nb j m == 1) (tot g) - 1) from pk_sub (b := 1) (by omega)]
          refine exf_go 2 (show Go (d + 2) true 36 53 [.ref 39, .ref 31, .ref 50, .int ((nI j) + 1), .int (nI (nb j))] [] (uI (uI h1 40 ((nI (nb j)).toNatClampNeg) (nI (cel g (lkT l (va_up (tkT (lT l) nb j) (nb j) 0)) (nb j)))) 39 6 (nI (cntN (fun m => tkT (lT l) nb j m == 1) (tot g) - 1))) Q from ?_)
          rw [show ((nI j) + 1 : Int32) = nI (j + 1) from nI_add j 1]
          refine exf_go 1 (show Go (d + 2) true 36 2 [.ref 39, .ref 31, .ref 50, .int (nI (j + 1)), .int (nI (nb j))] [] (uI (uI h1 40 ((nI (nb j)).toNatClampNeg) (nI (cel g (lkT l (va_up (tkT (lT l) nb j) (nb j) 0)) (nb j)))) 39 6 (nI (cntN (fun m => tkT (lT l) nb j m == 1) (tot g) - 1))) Q from ?_)
          exact ih2 (.int (nI (nb j))) (j + 1) _ (by omega) (by omega) ((q1.uI' _ _ _ rfl).uI' _ _ _ rfl) (by rw [nI_clamp (by omega)]; exact cl_unt cs.1 cl1 (b1 j (by omega)).2.1 hTj)
  exact L2 (c + 1) mk_ 0 h (by omega) (by omega) Fq.rfl' cl
theorem c_tb3 {d : Nat} {h : Hp} {g : ShG} {l l0 : LkG} {c : Nat} {Q : Po} (cs : CS 31 g h) (cl : CL 39 g l h) (mk : CMK g 3 l0 l c h) (k : ∀ h1, Fq sL3 h h1 → CL 39 g l0 h1 → Q mk_ h1) : wpC (d + 3) true 36 [.ref 39, .ref 31, .ref 53] h Q := by
  have hN := tot_b cs.1
  have h4 := cs.1.1
  obtain ⟨a1, a2, a3, a4, nb, b1, b2, b3⟩ := mk
  refine go_in rfl ?_
  refine exf_go 2 (show Go (d + 2) true 36 2 [.ref 39, .ref 31, .ref 53, .int 0, mk_] [] h Q from ?_)
  have L2 : ∀ (k2 : Nat) (z4 : Value) (j : Nat) (h1 : Hp), (c - j) < k2 → (j ≤ c) → (Fq sL3 h h1) → (CL 39 g (lkT l (tkT (lT l) nb j)) h1) → Go (d + 2) true 36 2 [.ref 39, .ref 31, .ref 53, .int (nI j), z4] [] h1 Q := by
    intro k2
    induction k2 with
    | zero => intro z4 j h1 hk; exact absurd hk (Nat.not_lt_zero _)
    | succ k2 ih2 =>
      intro z4 j h1 hk hj q1 cl1
      have cs1 := cs_L3 cs q1
      have em : rI h1 53 = rI h 53 := q1.I (fun _ => rfl)
      have em1 : rI h1 54 = rI h 54 := q1.I (fun _ => rfl)
      have hal1 := cl_al cl1
      simp only [Nat.reduceAdd] at hal1
      have hfN := cl_N cl1; have hfT := cl_T cl1; have hfC := cl_Cl cl1
      refine exf_go 3 (show Go (d + 2) true 36 7 [.ref 39, .ref 31, .ref 53, .int (nI j), z4] [.int (rI h1 53 1), .int (nI j)] h1 Q from ?_)
      rw [show (rI h1 53 1 : Int32) = nI c from by rw [em]; exact a2.1]
      refine exf_go 1 (show ((nI c) ≤ (nI j) → Go (d + 2) true 36 56 [.ref 39, .ref 31, .ref 53, .int (nI j), z4] [] h1 Q) ∧ (¬ ((nI c) ≤ (nI j)) → Go (d + 2) true 36 10 [.ref 39, .ref 31, .ref 53, .int (nI j), z4] [] h1 Q) from ⟨fun c1 => ?_, fun c1 => ?_⟩)
      · skip
        have c1 : c ≤ j := (nI_leI (a := c) (b := j) (by omega) (by omega)).mp c1
        have hjc : j = c := by omega
        have hT0 : ∀ n, n < tot g → tkT (lT l) nb j n = lT l0 n := fun n hn => tk_all hjc (fun k hk => (b1 k hk).2.2.2) b3 n hn
        refine exf_go 3 (show Go (d + 2) true 36 61 [.ref 39, .ref 31, .ref 53, .int (nI j), z4] [.int (rI h1 53 3), .ref 39] h1 Q from ?_)
        rw [show (rI h1 53 3 : Int32) = nI (lA l0) from by rw [em]; exact a2.2.1]
        refine exf_go 4 (show Go (d + 2) true 36 69 [.ref 39, .ref 31, .ref 53, .int (nI j), z4] [.int (rI h1 53 4), .ref 39] (uI h1 39 3 (nI (lA l0))) Q from ?_)
        rw [show (rI h1 53 4 : Int32) = lX l0 from by rw [em]; exact a2.2.2.1]
        refine exf_go 4 (show Go (d + 2) true 36 77 [.ref 39, .ref 31, .ref 53, .int (nI j), z4] [.int (rI h1 53 5), .ref 39] (uI (uI h1 39 3 (nI (lA l0))) 39 4 (lX l0)) Q from ?_)
        rw [show (rI h1 53 5 : Int32) = lG l0 from by rw [em]; exact a2.2.2.2.1]
        refine exf_go 4 (show Go (d + 2) true 36 85 [.ref 39, .ref 31, .ref 53, .int (nI j), z4] [.int (rI h1 53 6), .ref 39] (uI (uI (uI h1 39 3 (nI (lA l0))) 39 4 (lX l0)) 39 5 (lG l0)) Q from ?_)
        rw [show (rI h1 53 6 : Int32) = nI (lO l0) from by rw [em]; exact a2.2.2.2.2]
        refine exf_go 12 (show ((nI (lO l0)) = 0 ∨ (nI (lO l0)) = 1) ∧ ¬ (0 : Int32) < 0 ∧ ¬ (0 : Int32) < 0 ∧ ¬ (4 : Int32) < 0 ∧ 0 + 4 ≤ 4 ∧ 0 + 4 ≤ 4 ∧ (wpC (d + 2) true 37 [.ref 39, .ref 31] (uA (uI (uI (uI (uI h1 39 3 (nI (lA l0))) 39 4 (lX l0)) 39 5 (lG l0)) 39 7 (nI (lO l0))) 41 (va_cpy (rI h1 55) (rI h1 41) 0 0 4)) (fun _ h' => Go (d + 2) true 36 107 [.ref 39, .ref 31, .ref 53, .int (nI j), z4] [] h' Q)) from ⟨(by first | exact Or.inl rfl | exact Or.inr rfl | exact lO_b a4), (by decide), (by decide), (by decide), (by first | decide | omega), (by first | decide | omega), ?_⟩)
        have csu := cs_same (h1 := uA (uI (uI (uI (uI h1 39 3 (nI (lA l0))) 39 4 (lX l0)) 39 5 (lG l0)) 39 7 (nI (lO l0))) 41 (va_cpy (rI h1 55) (rI h1 41) 0 0 4)) cs1 (fun a u v => by show rI (uA (uI (uI (uI (uI h1 39 3 _) 39 4 _) 39 5 _) 39 7 _) 41 _) a = _; rw [rI_uA_ne (by omega), rI_uI_ne (by omega), rI_uI_ne (by omega), rI_uI_ne (by omega), rI_uI_ne (by omega)])
        refine c_unfelt csu (l := l0) ⟨a4, hfN, rfl, rfl, rfl, rfl, ?_, hal1.1, hal1.2, fun n hn => ⟨1 - agA g (lkT l (tkT (lT l) nb j)) n, by omega, ?_⟩, fun v hv => ?_⟩ (fun h2 q2 cl2 => ?_)
        · exact hfT.trans (congrArg nI (cnt_cg _ (fun m hm => by show (tkT (lT l) nb j m == 1) = (lT l0 m == 1); rw [hT0 m hm])))
        · refine (hfC n hn).trans (congrArg nI ?_); rw [cel, show lT (lkT l (tkT (lT l) nb j)) n = lT l0 n from hT0 n hn]
        · show va_cpy (rI h1 55) (rI h1 41) 0 0 4 v = _; rw [q1.I (a := 55) (fun _ => rfl), cpy4 _ _ (by omega)]; exact a3 v hv
        show Go (d + 2) true 36 107 [.ref 39, .ref 31, .ref 53, .int (nI j), z4] [] h2 Q
        refine exf_go 1 (show Q (mk_) h2 from ?_)
        exact k h2 ((((((q1.uI' _ _ _ rfl).uI' _ _ _ rfl).uI' _ _ _ rfl).uI' _ _ _ rfl).uA' _ _ (fun _ => rfl)).tr (q2.mono (sAt_s (fun _ => rfl)))) cl2
      · skip
        have c1 : ¬ c ≤ j := fun q => c1 ((nI_leI (a := c) (b := j) (by omega) (by omega)).mpr q)
        refine exf_go 4 (show vp_in (nI j) 40 ∧ (Go (d + 2) true 36 16 [.ref 39, .ref 31, .ref 53, .int (nI j), z4] [.int (rI h1 54 ((nI j).toNatClampNeg))] h1 Q) from ⟨(vp_in_nI (by omega) (by omega)), ?_⟩)
        rw [show (rI h1 54 ((nI j).toNatClampNeg) : Int32) = nI (nb j) from by rw [em1, nI_clamp (by omega)]; exact (b1 j (by omega)).1]
        have hbj := b1 j (by omega)
        have hTj : tkT (lT l) nb j (nb j) = 1 := by rw [tk_out j (fun k hk q => by have := b2 k j (by omega) (by omega) q; omega)]; exact hbj.2.2.1
        have hcnt := cnt_lt hbj.2.1 (p := fun m => tkT (lT l) nb j m == 1) (by show (tkT (lT l) nb j (nb j) == 1) = true; rw [hTj]; rfl); have hcle := cntN_le (fun m => tkT (lT l) nb j m == 1) (tot g)
        refine exf_go 4 (show wpC (d + 2) true 32 [.ref 39, .int (nI (nb j))] h1 (fun r h' => Go (d + 2) true 36 24 [.ref 39, .ref 31, .ref 53, .int (nI j), .int (nI (nb j))] [r] h' Q) from ?_)
        refine c_isCell cs1 cl1 (by omega) ?_
        show Go (d + 2) true 36 24 [.ref 39, .ref 31, .ref 53, .int (nI j), .int (nI (nb j))] [.int 1] h1 Q
        refine exf_go 1 (show ((1 : Int32) = 0 → Go (d + 2) true 36 50 [.ref 39, .ref 31, .ref 53, .int (nI j), .int (nI (nb j))] [] h1 Q) ∧ (¬ ((1 : Int32) = 0) → Go (d + 2) true 36 27 [.ref 39, .ref 31, .ref 53, .int (nI j), .int (nI (nb j))] [] h1 Q) from ⟨fun c2 => ?_, fun c2 => ?_⟩)
        · skip
          exact absurd c2 (by decide)
        · skip
          refine exf_go 5 (show vp_in (nI (nb j)) (al h1 40) ∧ (Go (d + 2) true 36 35 [.ref 39, .ref 31, .ref 53, .int (nI j), .int (nI (nb j))] [.int (rI h1 40 ((nI (nb j)).toNatClampNeg)), .int (nI (nb j)), .ref 40] h1 Q) from ⟨(vp_in_nI (by omega) (by omega)), ?_⟩)
          rw [show (rI h1 40 ((nI (nb j)).toNatClampNeg) : Int32) = nI (cel g (lkT l (tkT (lT l) nb j)) (nb j)) from by rw [nI_clamp (by omega)]; exact cl_Cl cl1 (nb j) (by omega)]
          refine exf_go 2 (show Go (d + 2) true 36 39 [.ref 39, .ref 31, .ref 53, .int (nI j), .int (nI (nb j))] [.int ((nI (cel g (lkT l (tkT (lT l) nb j)) (nb j))) &&& (-257)), .int (nI (nb j)), .ref 40] h1 Q from ?_)
          rw [show ((nI (cel g (lkT l (tkT (lT l) nb j)) (nb j))) &&& (-257) : Int32) = nI (cel g (lkT l (va_up (tkT (lT l) nb j) (nb j) 0)) (nb j)) from cel_unt cs.1 cl1.1 hTj (by show va_up _ _ _ _ = _; rw [up_eq]) rfl]
          refine exf_go 4 (show vp_in (nI (nb j)) (al h1 40) ∧ (Go (d + 2) true 36 45 [.ref 39, .ref 31, .ref 53, .int (nI j), .int (nI (nb j))] [.int (rI h1 39 6), .ref 39] (uI h1 40 ((nI (nb j)).toNatClampNeg) (nI (cel g (lkT l (va_up (tkT (lT l) nb j) (nb j) 0)) (nb j)))) Q) from ⟨(vp_in_nI (by omega) (by omega)), ?_⟩)
          rw [show (rI h1 39 6 : Int32) = nI (cntN (fun m => tkT (lT l) nb j m == 1) (tot g)) from cl_T cl1]
          refine exf_go 2 (show Go (d + 2) true 36 47 [.ref 39, .ref 31, .ref 53, .int (nI j), .int (nI (nb j))] [.int ((nI (cntN (fun m => tkT (lT l) nb j m == 1) (tot g))) - 1), .ref 39] (uI h1 40 ((nI (nb j)).toNatClampNeg) (nI (cel g (lkT l (va_up (tkT (lT l) nb j) (nb j) 0)) (nb j)))) Q from ?_)
          rw [show ((nI (cntN (fun m => tkT (lT l) nb j m == 1) (tot g))) - 1 : Int32) = nI (cntN (fun m => tkT (lT l) nb j m == 1) (tot g) - 1) from pk_sub (b := 1) (by omega)]
          refine exf_go 2 (show Go (d + 2) true 36 53 [.ref 39, .ref 31, .ref 53, .int ((nI j) + 1), .int (nI (nb j))] [] (uI (uI h1 40 ((nI (nb j)).toNatClampNeg) (nI (cel g (lkT l (va_up (tkT (lT l) nb j) (nb j) 0)) (nb j)))) 39 6 (nI (cntN (fun m => tkT (lT l) nb j m == 1) (tot g) - 1))) Q from ?_)
          rw [show ((nI j) + 1 : Int32) = nI (j + 1) from nI_add j 1]
          refine exf_go 1 (show Go (d + 2) true 36 2 [.ref 39, .ref 31, .ref 53, .int (nI (j + 1)), .int (nI (nb j))] [] (uI (uI h1 40 ((nI (nb j)).toNatClampNeg) (nI (cel g (lkT l (va_up (tkT (lT l) nb j) (nb j) 0)) (nb j)))) 39 6 (nI (cntN (fun m => tkT (lT l) nb j m == 1) (tot g) - 1))) Q from ?_)
          exact ih2 (.int (nI (nb j))) (j + 1) _ (by omega) (by omega) ((q1.uI' _ _ _ rfl).uI' _ _ _ rfl) (by rw [nI_clamp (by omega)]; exact cl_unt cs.1 cl1 (b1 j (by omega)).2.1 hTj)
  exact L2 (c + 1) mk_ 0 h (by omega) (by omega) Fq.rfl' cl
theorem c_tb4 {d : Nat} {h : Hp} {g : ShG} {l l0 : LkG} {c : Nat} {Q : Po} (cs : CS 31 g h) (cl : CL 39 g l h) (mk : CMK g 4 l0 l c h) (k : ∀ h1, Fq sL3 h h1 → CL 39 g l0 h1 → Q mk_ h1) : wpC (d + 3) true 36 [.ref 39, .ref 31, .ref 56] h Q := by
  have hN := tot_b cs.1
  have h4 := cs.1.1
  obtain ⟨a1, a2, a3, a4, nb, b1, b2, b3⟩ := mk
  refine go_in rfl ?_
  refine exf_go 2 (show Go (d + 2) true 36 2 [.ref 39, .ref 31, .ref 56, .int 0, mk_] [] h Q from ?_)
  have L2 : ∀ (k2 : Nat) (z4 : Value) (j : Nat) (h1 : Hp), (c - j) < k2 → (j ≤ c) → (Fq sL3 h h1) → (CL 39 g (lkT l (tkT (lT l) nb j)) h1) → Go (d + 2) true 36 2 [.ref 39, .ref 31, .ref 56, .int (nI j), z4] [] h1 Q := by
    intro k2
    induction k2 with
    | zero => intro z4 j h1 hk; exact absurd hk (Nat.not_lt_zero _)
    | succ k2 ih2 =>
      intro z4 j h1 hk hj q1 cl1
      have cs1 := cs_L3 cs q1
      have em : rI h1 56 = rI h 56 := q1.I (fun _ => rfl)
      have em1 : rI h1 57 = rI h 57 := q1.I (fun _ => rfl)
      have hal1 := cl_al cl1
      simp only [Nat.reduceAdd] at hal1
      have hfN := cl_N cl1; have hfT := cl_T cl1; have hfC := cl_Cl cl1
      refine exf_go 3 (show Go (d + 2) true 36 7 [.ref 39, .ref 31, .ref 56, .int (nI j), z4] [.int (rI h1 56 1), .int (nI j)] h1 Q from ?_)
      rw [show (rI h1 56 1 : Int32) = nI c from by rw [em]; exact a2.1]
      refine exf_go 1 (show ((nI c) ≤ (nI j) → Go (d + 2) true 36 56 [.ref 39, .ref 31, .ref 56, .int (nI j), z4] [] h1 Q) ∧ (¬ ((nI c) ≤ (nI j)) → Go (d + 2) true 36 10 [.ref 39, .ref 31, .ref 56, .int (nI j), z4] [] h1 Q) from ⟨fun c1 => ?_, fun c1 => ?_⟩)
      · skip
        have c1 : c ≤ j := (nI_leI (a := c) (b := j) (by omega) (by omega)).mp c1
        have hjc : j = c := by omega
        have hT0 : ∀ n, n < tot g → tkT (lT l) nb j n = lT l0 n := fun n hn => tk_all hjc (fun k hk => (b1 k hk).2.2.2) b3 n hn
        refine exf_go 3 (show Go (d + 2) true 36 61 [.ref 39, .ref 31, .ref 56, .int (nI j), z4] [.int (rI h1 56 3), .ref 39] h1 Q from ?_)
        rw [show (rI h1 56 3 : Int32) = nI (lA l0) from by rw [em]; exact a2.2.1]
        refine exf_go 4 (show Go (d + 2) true 36 69 [.ref 39, .ref 31, .ref 56, .int (nI j), z4] [.int (rI h1 56 4), .ref 39] (uI h1 39 3 (nI (lA l0))) Q from ?_)
        rw [show (rI h1 56 4 : Int32) = lX l0 from by rw [em]; exact a2.2.2.1]
        refine exf_go 4 (show Go (d + 2) true 36 77 [.ref 39, .ref 31, .ref 56, .int (nI j), z4] [.int (rI h1 56 5), .ref 39] (uI (uI h1 39 3 (nI (lA l0))) 39 4 (lX l0)) Q from ?_)
        rw [show (rI h1 56 5 : Int32) = lG l0 from by rw [em]; exact a2.2.2.2.1]
        refine exf_go 4 (show Go (d + 2) true 36 85 [.ref 39, .ref 31, .ref 56, .int (nI j), z4] [.int (rI h1 56 6), .ref 39] (uI (uI (uI h1 39 3 (nI (lA l0))) 39 4 (lX l0)) 39 5 (lG l0)) Q from ?_)
        rw [show (rI h1 56 6 : Int32) = nI (lO l0) from by rw [em]; exact a2.2.2.2.2]
        refine exf_go 12 (show ((nI (lO l0)) = 0 ∨ (nI (lO l0)) = 1) ∧ ¬ (0 : Int32) < 0 ∧ ¬ (0 : Int32) < 0 ∧ ¬ (4 : Int32) < 0 ∧ 0 + 4 ≤ 4 ∧ 0 + 4 ≤ 4 ∧ (wpC (d + 2) true 37 [.ref 39, .ref 31] (uA (uI (uI (uI (uI h1 39 3 (nI (lA l0))) 39 4 (lX l0)) 39 5 (lG l0)) 39 7 (nI (lO l0))) 41 (va_cpy (rI h1 58) (rI h1 41) 0 0 4)) (fun _ h' => Go (d + 2) true 36 107 [.ref 39, .ref 31, .ref 56, .int (nI j), z4] [] h' Q)) from ⟨(by first | exact Or.inl rfl | exact Or.inr rfl | exact lO_b a4), (by decide), (by decide), (by decide), (by first | decide | omega), (by first | decide | omega), ?_⟩)
        have csu := cs_same (h1 := uA (uI (uI (uI (uI h1 39 3 (nI (lA l0))) 39 4 (lX l0)) 39 5 (lG l0)) 39 7 (nI (lO l0))) 41 (va_cpy (rI h1 58) (rI h1 41) 0 0 4)) cs1 (fun a u v => by show rI (uA (uI (uI (uI (uI h1 39 3 _) 39 4 _) 39 5 _) 39 7 _) 41 _) a = _; rw [rI_uA_ne (by omega), rI_uI_ne (by omega), rI_uI_ne (by omega), rI_uI_ne (by omega), rI_uI_ne (by omega)])
        refine c_unfelt csu (l := l0) ⟨a4, hfN, rfl, rfl, rfl, rfl, ?_, hal1.1, hal1.2, fun n hn => ⟨1 - agA g (lkT l (tkT (lT l) nb j)) n, by omega, ?_⟩, fun v hv => ?_⟩ (fun h2 q2 cl2 => ?_)
        · exact hfT.trans (congrArg nI (cnt_cg _ (fun m hm => by show (tkT (lT l) nb j m == 1) = (lT l0 m == 1); rw [hT0 m hm])))
        · refine (hfC n hn).trans (congrArg nI ?_); rw [cel, show lT (lkT l (tkT (lT l) nb j)) n = lT l0 n from hT0 n hn]
        · show va_cpy (rI h1 58) (rI h1 41) 0 0 4 v = _; rw [q1.I (a := 58) (fun _ => rfl), cpy4 _ _ (by omega)]; exact a3 v hv
        show Go (d + 2) true 36 107 [.ref 39, .ref 31, .ref 56, .int (nI j), z4] [] h2 Q
        refine exf_go 1 (show Q (mk_) h2 from ?_)
        exact k h2 ((((((q1.uI' _ _ _ rfl).uI' _ _ _ rfl).uI' _ _ _ rfl).uI' _ _ _ rfl).uA' _ _ (fun _ => rfl)).tr (q2.mono (sAt_s (fun _ => rfl)))) cl2
      · skip
        have c1 : ¬ c ≤ j := fun q => c1 ((nI_leI (a := c) (b := j) (by omega) (by omega)).mpr q)
        refine exf_go 4 (show vp_in (nI j) 40 ∧ (Go (d + 2) true 36 16 [.ref 39, .ref 31, .ref 56, .int (nI j), z4] [.int (rI h1 57 ((nI j).toNatClampNeg))] h1 Q) from ⟨(vp_in_nI (by omega) (by omega)), ?_⟩)
        rw [show (rI h1 57 ((nI j).toNatClampNeg) : Int32) = nI (nb j) from by rw [em1, nI_clamp (by omega)]; exact (b1 j (by omega)).1]
        have hbj := b1 j (by omega)
        have hTj : tkT (lT l) nb j (nb j) = 1 := by rw [tk_out j (fun k hk q => by have := b2 k j (by omega) (by omega) q; omega)]; exact hbj.2.2.1
        have hcnt := cnt_lt hbj.2.1 (p := fun m => tkT (lT l) nb j m == 1) (by show (tkT (lT l) nb j (nb j) == 1) = true; rw [hTj]; rfl); have hcle := cntN_le (fun m => tkT (lT l) nb j m == 1) (tot g)
        refine exf_go 4 (show wpC (d + 2) true 32 [.ref 39, .int (nI (nb j))] h1 (fun r h' => Go (d + 2) true 36 24 [.ref 39, .ref 31, .ref 56, .int (nI j), .int (nI (nb j))] [r] h' Q) from ?_)
        refine c_isCell cs1 cl1 (by omega) ?_
        show Go (d + 2) true 36 24 [.ref 39, .ref 31, .ref 56, .int (nI j), .int (nI (nb j))] [.int 1] h1 Q
        refine exf_go 1 (show ((1 : Int32) = 0 → Go (d + 2) true 36 50 [.ref 39, .ref 31, .ref 56, .int (nI j), .int (nI (nb j))] [] h1 Q) ∧ (¬ ((1 : Int32) = 0) → Go (d + 2) true 36 27 [.ref 39, .ref 31, .ref 56, .int (nI j), .int (nI (nb j))] [] h1 Q) from ⟨fun c2 => ?_, fun c2 => ?_⟩)
        · skip
          exact absurd c2 (by decide)
        · skip
          refine exf_go 5 (show vp_in (nI (nb j)) (al h1 40) ∧ (Go (d + 2) true 36 35 [.ref 39, .ref 31, .ref 56, .int (nI j), .int (nI (nb j))] [.int (rI h1 40 ((nI (nb j)).toNatClampNeg)), .int (nI (nb j)), .ref 40] h1 Q) from ⟨(vp_in_nI (by omega) (by omega)), ?_⟩)
          rw [show (rI h1 40 ((nI (nb j)).toNatClampNeg) : Int32) = nI (cel g (lkT l (tkT (lT l) nb j)) (nb j)) from by rw [nI_clamp (by omega)]; exact cl_Cl cl1 (nb j) (by omega)]
          refine exf_go 2 (show Go (d + 2) true 36 39 [.ref 39, .ref 31, .ref 56, .int (nI j), .int (nI (nb j))] [.int ((nI (cel g (lkT l (tkT (lT l) nb j)) (nb j))) &&& (-257)), .int (nI (nb j)), .ref 40] h1 Q from ?_)
          rw [show ((nI (cel g (lkT l (tkT (lT l) nb j)) (nb j))) &&& (-257) : Int32) = nI (cel g (lkT l (va_up (tkT (lT l) nb j) (nb j) 0)) (nb j)) from cel_unt cs.1 cl1.1 hTj (by show va_up _ _ _ _ = _; rw [up_eq]) rfl]
          refine exf_go 4 (show vp_in (nI (nb j)) (al h1 40) ∧ (Go (d + 2) true 36 45 [.ref 39, .ref 31, .ref 56, .int (nI j), .int (nI (nb j))] [.int (rI h1 39 6), .ref 39] (uI h1 40 ((nI (nb j)).toNatClampNeg) (nI (cel g (lkT l (va_up (tkT (lT l) nb j) (nb j) 0)) (nb j)))) Q) from ⟨(vp_in_nI (by omega) (by omega)), ?_⟩)
          rw [show (rI h1 39 6 : Int32) = nI (cntN (fun m => tkT (lT l) nb j m == 1) (tot g)) from cl_T cl1]
          refine exf_go 2 (show Go (d + 2) true 36 47 [.ref 39, .ref 31, .ref 56, .int (nI j), .int (nI (nb j))] [.int ((nI (cntN (fun m => tkT (lT l) nb j m == 1) (tot g))) - 1), .ref 39] (uI h1 40 ((nI (nb j)).toNatClampNeg) (nI (cel g (lkT l (va_up (tkT (lT l) nb j) (nb j) 0)) (nb j)))) Q from ?_)
          rw [show ((nI (cntN (fun m => tkT (lT l) nb j m == 1) (tot g))) - 1 : Int32) = nI (cntN (fun m => tkT (lT l) nb j m == 1) (tot g) - 1) from pk_sub (b := 1) (by omega)]
          refine exf_go 2 (show Go (d + 2) true 36 53 [.ref 39, .ref 31, .ref 56, .int ((nI j) + 1), .int (nI (nb j))] [] (uI (uI h1 40 ((nI (nb j)).toNatClampNeg) (nI (cel g (lkT l (va_up (tkT (lT l) nb j) (nb j) 0)) (nb j)))) 39 6 (nI (cntN (fun m => tkT (lT l) nb j m == 1) (tot g) - 1))) Q from ?_)
          rw [show ((nI j) + 1 : Int32) = nI (j + 1) from nI_add j 1]
          refine exf_go 1 (show Go (d + 2) true 36 2 [.ref 39, .ref 31, .ref 56, .int (nI (j + 1)), .int (nI (nb j))] [] (uI (uI h1 40 ((nI (nb j)).toNatClampNeg) (nI (cel g (lkT l (va_up (tkT (lT l) nb j) (nb j) 0)) (nb j)))) 39 6 (nI (cntN (fun m => tkT (lT l) nb j m == 1) (tot g) - 1))) Q from ?_)
          exact ih2 (.int (nI (nb j))) (j + 1) _ (by omega) (by omega) ((q1.uI' _ _ _ rfl).uI' _ _ _ rfl) (by rw [nI_clamp (by omega)]; exact cl_unt cs.1 cl1 (b1 j (by omega)).2.1 hTj)
  exact L2 (c + 1) mk_ 0 h (by omega) (by omega) Fq.rfl' cl
theorem c_tb5 {d : Nat} {h : Hp} {g : ShG} {l l0 : LkG} {c : Nat} {Q : Po} (cs : CS 31 g h) (cl : CL 39 g l h) (mk : CMK g 5 l0 l c h) (k : ∀ h1, Fq sL3 h h1 → CL 39 g l0 h1 → Q mk_ h1) : wpC (d + 3) true 36 [.ref 39, .ref 31, .ref 59] h Q := by
  have hN := tot_b cs.1
  have h4 := cs.1.1
  obtain ⟨a1, a2, a3, a4, nb, b1, b2, b3⟩ := mk
  refine go_in rfl ?_
  refine exf_go 2 (show Go (d + 2) true 36 2 [.ref 39, .ref 31, .ref 59, .int 0, mk_] [] h Q from ?_)
  have L2 : ∀ (k2 : Nat) (z4 : Value) (j : Nat) (h1 : Hp), (c - j) < k2 → (j ≤ c) → (Fq sL3 h h1) → (CL 39 g (lkT l (tkT (lT l) nb j)) h1) → Go (d + 2) true 36 2 [.ref 39, .ref 31, .ref 59, .int (nI j), z4] [] h1 Q := by
    intro k2
    induction k2 with
    | zero => intro z4 j h1 hk; exact absurd hk (Nat.not_lt_zero _)
    | succ k2 ih2 =>
      intro z4 j h1 hk hj q1 cl1
      have cs1 := cs_L3 cs q1
      have em : rI h1 59 = rI h 59 := q1.I (fun _ => rfl)
      have em1 : rI h1 60 = rI h 60 := q1.I (fun _ => rfl)
      have hal1 := cl_al cl1
      simp only [Nat.reduceAdd] at hal1
      have hfN := cl_N cl1; have hfT := cl_T cl1; have hfC := cl_Cl cl1
      refine exf_go 3 (show Go (d + 2) true 36 7 [.ref 39, .ref 31, .ref 59, .int (nI j), z4] [.int (rI h1 59 1), .int (nI j)] h1 Q from ?_)
      rw [show (rI h1 59 1 : Int32) = nI c from by rw [em]; exact a2.1]
      refine exf_go 1 (show ((nI c) ≤ (nI j) → Go (d + 2) true 36 56 [.ref 39, .ref 31, .ref 59, .int (nI j), z4] [] h1 Q) ∧ (¬ ((nI c) ≤ (nI j)) → Go (d + 2) true 36 10 [.ref 39, .ref 31, .ref 59, .int (nI j), z4] [] h1 Q) from ⟨fun c1 => ?_, fun c1 => ?_⟩)
      · skip
        have c1 : c ≤ j := (nI_leI (a := c) (b := j) (by omega) (by omega)).mp c1
        have hjc : j = c := by omega
        have hT0 : ∀ n, n < tot g → tkT (lT l) nb j n = lT l0 n := fun n hn => tk_all hjc (fun k hk => (b1 k hk).2.2.2) b3 n hn
        refine exf_go 3 (show Go (d + 2) true 36 61 [.ref 39, .ref 31, .ref 59, .int (nI j), z4] [.int (rI h1 59 3), .ref 39] h1 Q from ?_)
        rw [show (rI h1 59 3 : Int32) = nI (lA l0) from by rw [em]; exact a2.2.1]
        refine exf_go 4 (show Go (d + 2) true 36 69 [.ref 39, .ref 31, .ref 59, .int (nI j), z4] [.int (rI h1 59 4), .ref 39] (uI h1 39 3 (nI (lA l0))) Q from ?_)
        rw [show (rI h1 59 4 : Int32) = lX l0 from by rw [em]; exact a2.2.2.1]
        refine exf_go 4 (show Go (d + 2) true 36 77 [.ref 39, .ref 31, .ref 59, .int (nI j), z4] [.int (rI h1 59 5), .ref 39] (uI (uI h1 39 3 (nI (lA l0))) 39 4 (lX l0)) Q from ?_)
        rw [show (rI h1 59 5 : Int32) = lG l0 from by rw [em]; exact a2.2.2.2.1]
        refine exf_go 4 (show Go (d + 2) true 36 85 [.ref 39, .ref 31, .ref 59, .int (nI j), z4] [.int (rI h1 59 6), .ref 39] (uI (uI (uI h1 39 3 (nI (lA l0))) 39 4 (lX l0)) 39 5 (lG l0)) Q from ?_)
        rw [show (rI h1 59 6 : Int32) = nI (lO l0) from by rw [em]; exact a2.2.2.2.2]
        refine exf_go 12 (show ((nI (lO l0)) = 0 ∨ (nI (lO l0)) = 1) ∧ ¬ (0 : Int32) < 0 ∧ ¬ (0 : Int32) < 0 ∧ ¬ (4 : Int32) < 0 ∧ 0 + 4 ≤ 4 ∧ 0 + 4 ≤ 4 ∧ (wpC (d + 2) true 37 [.ref 39, .ref 31] (uA (uI (uI (uI (uI h1 39 3 (nI (lA l0))) 39 4 (lX l0)) 39 5 (lG l0)) 39 7 (nI (lO l0))) 41 (va_cpy (rI h1 61) (rI h1 41) 0 0 4)) (fun _ h' => Go (d + 2) true 36 107 [.ref 39, .ref 31, .ref 59, .int (nI j), z4] [] h' Q)) from ⟨(by first | exact Or.inl rfl | exact Or.inr rfl | exact lO_b a4), (by decide), (by decide), (by decide), (by first | decide | omega), (by first | decide | omega), ?_⟩)
        have csu := cs_same (h1 := uA (uI (uI (uI (uI h1 39 3 (nI (lA l0))) 39 4 (lX l0)) 39 5 (lG l0)) 39 7 (nI (lO l0))) 41 (va_cpy (rI h1 61) (rI h1 41) 0 0 4)) cs1 (fun a u v => by show rI (uA (uI (uI (uI (uI h1 39 3 _) 39 4 _) 39 5 _) 39 7 _) 41 _) a = _; rw [rI_uA_ne (by omega), rI_uI_ne (by omega), rI_uI_ne (by omega), rI_uI_ne (by omega), rI_uI_ne (by omega)])
        refine c_unfelt csu (l := l0) ⟨a4, hfN, rfl, rfl, rfl, rfl, ?_, hal1.1, hal1.2, fun n hn => ⟨1 - agA g (lkT l (tkT (lT l) nb j)) n, by omega, ?_⟩, fun v hv => ?_⟩ (fun h2 q2 cl2 => ?_)
        · exact hfT.trans (congrArg nI (cnt_cg _ (fun m hm => by show (tkT (lT l) nb j m == 1) = (lT l0 m == 1); rw [hT0 m hm])))
        · refine (hfC n hn).trans (congrArg nI ?_); rw [cel, show lT (lkT l (tkT (lT l) nb j)) n = lT l0 n from hT0 n hn]
        · show va_cpy (rI h1 61) (rI h1 41) 0 0 4 v = _; rw [q1.I (a := 61) (fun _ => rfl), cpy4 _ _ (by omega)]; exact a3 v hv
        show Go (d + 2) true 36 107 [.ref 39, .ref 31, .ref 59, .int (nI j), z4] [] h2 Q
        refine exf_go 1 (show Q (mk_) h2 from ?_)
        exact k h2 ((((((q1.uI' _ _ _ rfl).uI' _ _ _ rfl).uI' _ _ _ rfl).uI' _ _ _ rfl).uA' _ _ (fun _ => rfl)).tr (q2.mono (sAt_s (fun _ => rfl)))) cl2
      · skip
        have c1 : ¬ c ≤ j := fun q => c1 ((nI_leI (a := c) (b := j) (by omega) (by omega)).mpr q)
        refine exf_go 4 (show vp_in (nI j) 40 ∧ (Go (d + 2) true 36 16 [.ref 39, .ref 31, .ref 59, .int (nI j), z4] [.int (rI h1 60 ((nI j).toNatClampNeg))] h1 Q) from ⟨(vp_in_nI (by omega) (by omega)), ?_⟩)
        rw [show (rI h1 60 ((nI j).toNatClampNeg) : Int32) = nI (nb j) from by rw [em1, nI_clamp (by omega)]; exact (b1 j (by omega)).1]
        have hbj := b1 j (by omega)
        have hTj : tkT (lT l) nb j (nb j) = 1 := by rw [tk_out j (fun k hk q => by have := b2 k j (by omega) (by omega) q; omega)]; exact hbj.2.2.1
        have hcnt := cnt_lt hbj.2.1 (p := fun m => tkT (lT l) nb j m == 1) (by show (tkT (lT l) nb j (nb j) == 1) = true; rw [hTj]; rfl); have hcle := cntN_le (fun m => tkT (lT l) nb j m == 1) (tot g)
        refine exf_go 4 (show wpC (d + 2) true 32 [.ref 39, .int (nI (nb j))] h1 (fun r h' => Go (d + 2) true 36 24 [.ref 39, .ref 31, .ref 59, .int (nI j), .int (nI (nb j))] [r] h' Q) from ?_)
        refine c_isCell cs1 cl1 (by omega) ?_
        show Go (d + 2) true 36 24 [.ref 39, .ref 31, .ref 59, .int (nI j), .int (nI (nb j))] [.int 1] h1 Q
        refine exf_go 1 (show ((1 : Int32) = 0 → Go (d + 2) true 36 50 [.ref 39, .ref 31, .ref 59, .int (nI j), .int (nI (nb j))] [] h1 Q) ∧ (¬ ((1 : Int32) = 0) → Go (d + 2) true 36 27 [.ref 39, .ref 31, .ref 59, .int (nI j), .int (nI (nb j))] [] h1 Q) from ⟨fun c2 => ?_, fun c2 => ?_⟩)
        · skip
          exact absurd c2 (by decide)
        · skip
          refine exf_go 5 (show vp_in (nI (nb j)) (al h1 40) ∧ (Go (d + 2) true 36 35 [.ref 39, .ref 31, .ref 59, .int (nI j), .int (nI (nb j))] [.int (rI h1 40 ((nI (nb j)).toNatClampNeg)), .int (nI (nb j)), .ref 40] h1 Q) from ⟨(vp_in_nI (by omega) (by omega)), ?_⟩)
          rw [show (rI h1 40 ((nI (nb j)).toNatClampNeg) : Int32) = nI (cel g (lkT l (tkT (lT l) nb j)) (nb j)) from by rw [nI_clamp (by omega)]; exact cl_Cl cl1 (nb j) (by omega)]
          refine exf_go 2 (show Go (d + 2) true 36 39 [.ref 39, .ref 31, .ref 59, .int (nI j), .int (nI (nb j))] [.int ((nI (cel g (lkT l (tkT (lT l) nb j)) (nb j))) &&& (-257)), .int (nI (nb j)), .ref 40] h1 Q from ?_)
          rw [show ((nI (cel g (lkT l (tkT (lT l) nb j)) (nb j))) &&& (-257) : Int32) = nI (cel g (lkT l (va_up (tkT (lT l) nb j) (nb j) 0)) (nb j)) from cel_unt cs.1 cl1.1 hTj (by show va_up _ _ _ _ = _; rw [up_eq]) rfl]
          refine exf_go 4 (show vp_in (nI (nb j)) (al h1 40) ∧ (Go (d + 2) true 36 45 [.ref 39, .ref 31, .ref 59, .int (nI j), .int (nI (nb j))] [.int (rI h1 39 6), .ref 39] (uI h1 40 ((nI (nb j)).toNatClampNeg) (nI (cel g (lkT l (va_up (tkT (lT l) nb j) (nb j) 0)) (nb j)))) Q) from ⟨(vp_in_nI (by omega) (by omega)), ?_⟩)
          rw [show (rI h1 39 6 : Int32) = nI (cntN (fun m => tkT (lT l) nb j m == 1) (tot g)) from cl_T cl1]
          refine exf_go 2 (show Go (d + 2) true 36 47 [.ref 39, .ref 31, .ref 59, .int (nI j), .int (nI (nb j))] [.int ((nI (cntN (fun m => tkT (lT l) nb j m == 1) (tot g))) - 1), .ref 39] (uI h1 40 ((nI (nb j)).toNatClampNeg) (nI (cel g (lkT l (va_up (tkT (lT l) nb j) (nb j) 0)) (nb j)))) Q from ?_)
          rw [show ((nI (cntN (fun m => tkT (lT l) nb j m == 1) (tot g))) - 1 : Int32) = nI (cntN (fun m => tkT (lT l) nb j m == 1) (tot g) - 1) from pk_sub (b := 1) (by omega)]
          refine exf_go 2 (show Go (d + 2) true 36 53 [.ref 39, .ref 31, .ref 59, .int ((nI j) + 1), .int (nI (nb j))] [] (uI (uI h1 40 ((nI (nb j)).toNatClampNeg) (nI (cel g (lkT l (va_up (tkT (lT l) nb j) (nb j) 0)) (nb j)))) 39 6 (nI (cntN (fun m => tkT (lT l) nb j m == 1) (tot g) - 1))) Q from ?_)
          rw [show ((nI j) + 1 : Int32) = nI (j + 1) from nI_add j 1]
          refine exf_go 1 (show Go (d + 2) true 36 2 [.ref 39, .ref 31, .ref 59, .int (nI (j + 1)), .int (nI (nb j))] [] (uI (uI h1 40 ((nI (nb j)).toNatClampNeg) (nI (cel g (lkT l (va_up (tkT (lT l) nb j) (nb j) 0)) (nb j)))) 39 6 (nI (cntN (fun m => tkT (lT l) nb j m == 1) (tot g) - 1))) Q from ?_)
          exact ih2 (.int (nI (nb j))) (j + 1) _ (by omega) (by omega) ((q1.uI' _ _ _ rfl).uI' _ _ _ rfl) (by rw [nI_clamp (by omega)]; exact cl_unt cs.1 cl1 (b1 j (by omega)).2.1 hTj)
  exact L2 (c + 1) mk_ 0 h (by omega) (by omega) Fq.rfl' cl
theorem c_tb6 {d : Nat} {h : Hp} {g : ShG} {l l0 : LkG} {c : Nat} {Q : Po} (cs : CS 31 g h) (cl : CL 39 g l h) (mk : CMK g 6 l0 l c h) (k : ∀ h1, Fq sL3 h h1 → CL 39 g l0 h1 → Q mk_ h1) : wpC (d + 3) true 36 [.ref 39, .ref 31, .ref 62] h Q := by
  have hN := tot_b cs.1
  have h4 := cs.1.1
  obtain ⟨a1, a2, a3, a4, nb, b1, b2, b3⟩ := mk
  refine go_in rfl ?_
  refine exf_go 2 (show Go (d + 2) true 36 2 [.ref 39, .ref 31, .ref 62, .int 0, mk_] [] h Q from ?_)
  have L2 : ∀ (k2 : Nat) (z4 : Value) (j : Nat) (h1 : Hp), (c - j) < k2 → (j ≤ c) → (Fq sL3 h h1) → (CL 39 g (lkT l (tkT (lT l) nb j)) h1) → Go (d + 2) true 36 2 [.ref 39, .ref 31, .ref 62, .int (nI j), z4] [] h1 Q := by
    intro k2
    induction k2 with
    | zero => intro z4 j h1 hk; exact absurd hk (Nat.not_lt_zero _)
    | succ k2 ih2 =>
      intro z4 j h1 hk hj q1 cl1
      have cs1 := cs_L3 cs q1
      have em : rI h1 62 = rI h 62 := q1.I (fun _ => rfl)
      have em1 : rI h1 63 = rI h 63 := q1.I (fun _ => rfl)
      have hal1 := cl_al cl1
      simp only [Nat.reduceAdd] at hal1
      have hfN := cl_N cl1; have hfT := cl_T cl1; have hfC := cl_Cl cl1
      refine exf_go 3 (show Go (d + 2) true 36 7 [.ref 39, .ref 31, .ref 62, .int (nI j), z4] [.int (rI h1 62 1), .int (nI j)] h1 Q from ?_)
      rw [show (rI h1 62 1 : Int32) = nI c from by rw [em]; exact a2.1]
      refine exf_go 1 (show ((nI c) ≤ (nI j) → Go (d + 2) true 36 56 [.ref 39, .ref 31, .ref 62, .int (nI j), z4] [] h1 Q) ∧ (¬ ((nI c) ≤ (nI j)) → Go (d + 2) true 36 10 [.ref 39, .ref 31, .ref 62, .int (nI j), z4] [] h1 Q) from ⟨fun c1 => ?_, fun c1 => ?_⟩)
      · skip
        have c1 : c ≤ j := (nI_leI (a := c) (b := j) (by omega) (by omega)).mp c1
        have hjc : j = c := by omega
        have hT0 : ∀ n, n < tot g → tkT (lT l) nb j n = lT l0 n := fun n hn => tk_all hjc (fun k hk => (b1 k hk).2.2.2) b3 n hn
        refine exf_go 3 (show Go (d + 2) true 36 61 [.ref 39, .ref 31, .ref 62, .int (nI j), z4] [.int (rI h1 62 3), .ref 39] h1 Q from ?_)
        rw [show (rI h1 62 3 : Int32) = nI (lA l0) from by rw [em]; exact a2.2.1]
        refine exf_go 4 (show Go (d + 2) true 36 69 [.ref 39, .ref 31, .ref 62, .int (nI j), z4] [.int (rI h1 62 4), .ref 39] (uI h1 39 3 (nI (lA l0))) Q from ?_)
        rw [show (rI h1 62 4 : Int32) = lX l0 from by rw [em]; exact a2.2.2.1]
        refine exf_go 4 (show Go (d + 2) true 36 77 [.ref 39, .ref 31, .ref 62, .int (nI j), z4] [.int (rI h1 62 5), .ref 39] (uI (uI h1 39 3 (nI (lA l0))) 39 4 (lX l0)) Q from ?_)
        rw [show (rI h1 62 5 : Int32) = lG l0 from by rw [em]; exact a2.2.2.2.1]
        refine exf_go 4 (show Go (d + 2) true 36 85 [.ref 39, .ref 31, .ref 62, .int (nI j), z4] [.int (rI h1 62 6), .ref 39] (uI (uI (uI h1 39 3 (nI (lA l0))) 39 4 (lX l0)) 39 5 (lG l0)) Q from ?_)
        rw [show (rI h1 62 6 : Int32) = nI (lO l0) from by rw [em]; exact a2.2.2.2.2]
        refine exf_go 12 (show ((nI (lO l0)) = 0 ∨ (nI (lO l0)) = 1) ∧ ¬ (0 : Int32) < 0 ∧ ¬ (0 : Int32) < 0 ∧ ¬ (4 : Int32) < 0 ∧ 0 + 4 ≤ 4 ∧ 0 + 4 ≤ 4 ∧ (wpC (d + 2) true 37 [.ref 39, .ref 31] (uA (uI (uI (uI (uI h1 39 3 (nI (lA l0))) 39 4 (lX l0)) 39 5 (lG l0)) 39 7 (nI (lO l0))) 41 (va_cpy (rI h1 64) (rI h1 41) 0 0 4)) (fun _ h' => Go (d + 2) true 36 107 [.ref 39, .ref 31, .ref 62, .int (nI j), z4] [] h' Q)) from ⟨(by first | exact Or.inl rfl | exact Or.inr rfl | exact lO_b a4), (by decide), (by decide), (by decide), (by first | decide | omega), (by first | decide | omega), ?_⟩)
        have csu := cs_same (h1 := uA (uI (uI (uI (uI h1 39 3 (nI (lA l0))) 39 4 (lX l0)) 39 5 (lG l0)) 39 7 (nI (lO l0))) 41 (va_cpy (rI h1 64) (rI h1 41) 0 0 4)) cs1 (fun a u v => by show rI (uA (uI (uI (uI (uI h1 39 3 _) 39 4 _) 39 5 _) 39 7 _) 41 _) a = _; rw [rI_uA_ne (by omega), rI_uI_ne (by omega), rI_uI_ne (by omega), rI_uI_ne (by omega), rI_uI_ne (by omega)])
        refine c_unfelt csu (l := l0) ⟨a4, hfN, rfl, rfl, rfl, rfl, ?_, hal1.1, hal1.2, fun n hn => ⟨1 - agA g (lkT l (tkT (lT l) nb j)) n, by omega, ?_⟩, fun v hv => ?_⟩ (fun h2 q2 cl2 => ?_)
        · exact hfT.trans (congrArg nI (cnt_cg _ (fun m hm => by show (tkT (lT l) nb j m == 1) = (lT l0 m == 1); rw [hT0 m hm])))
        · refine (hfC n hn).trans (congrArg nI ?_); rw [cel, show lT (lkT l (tkT (lT l) nb j)) n = lT l0 n from hT0 n hn]
        · show va_cpy (rI h1 64) (rI h1 41) 0 0 4 v = _; rw [q1.I (a := 64) (fun _ => rfl), cpy4 _ _ (by omega)]; exact a3 v hv
        show Go (d + 2) true 36 107 [.ref 39, .ref 31, .ref 62, .int (nI j), z4] [] h2 Q
        refine exf_go 1 (show Q (mk_) h2 from ?_)
        exact k h2 ((((((q1.uI' _ _ _ rfl).uI' _ _ _ rfl).uI' _ _ _ rfl).uI' _ _ _ rfl).uA' _ _ (fun _ => rfl)).tr (q2.mono (sAt_s (fun _ => rfl)))) cl2
      · skip
        have c1 : ¬ c ≤ j := fun q => c1 ((nI_leI (a := c) (b := j) (by omega) (by omega)).mpr q)
        refine exf_go 4 (show vp_in (nI j) 40 ∧ (Go (d + 2) true 36 16 [.ref 39, .ref 31, .ref 62, .int (nI j), z4] [.int (rI h1 63 ((nI j).toNatClampNeg))] h1 Q) from ⟨(vp_in_nI (by omega) (by omega)), ?_⟩)
        rw [show (rI h1 63 ((nI j).toNatClampNeg) : Int32) = nI (nb j) from by rw [em1, nI_clamp (by omega)]; exact (b1 j (by omega)).1]
        have hbj := b1 j (by omega)
        have hTj : tkT (lT l) nb j (nb j) = 1 := by rw [tk_out j (fun k hk q => by have := b2 k j (by omega) (by omega) q; omega)]; exact hbj.2.2.1
        have hcnt := cnt_lt hbj.2.1 (p := fun m => tkT (lT l) nb j m == 1) (by show (tkT (lT l) nb j (nb j) == 1) = true; rw [hTj]; rfl); have hcle := cntN_le (fun m => tkT (lT l) nb j m == 1) (tot g)
        refine exf_go 4 (show wpC (d + 2) true 32 [.ref 39, .int (nI (nb j))] h1 (fun r h' => Go (d + 2) true 36 24 [.ref 39, .ref 31, .ref 62, .int (nI j), .int (nI (nb j))] [r] h' Q) from ?_)
        refine c_isCell cs1 cl1 (by omega) ?_
        show Go (d + 2) true 36 24 [.ref 39, .ref 31, .ref 62, .int (nI j), .int (nI (nb j))] [.int 1] h1 Q
        refine exf_go 1 (show ((1 : Int32) = 0 → Go (d + 2) true 36 50 [.ref 39, .ref 31, .ref 62, .int (nI j), .int (nI (nb j))] [] h1 Q) ∧ (¬ ((1 : Int32) = 0) → Go (d + 2) true 36 27 [.ref 39, .ref 31, .ref 62, .int (nI j), .int (nI (nb j))] [] h1 Q) from ⟨fun c2 => ?_, fun c2 => ?_⟩)
        · skip
          exact absurd c2 (by decide)
        · skip
          refine exf_go 5 (show vp_in (nI (nb j)) (al h1 40) ∧ (Go (d + 2) true 36 35 [.ref 39, .ref 31, .ref 62, .int (nI j), .int (nI (nb j))] [.int (rI h1 40 ((nI (nb j)).toNatClampNeg)), .int (nI (nb j)), .ref 40] h1 Q) from ⟨(vp_in_nI (by omega) (by omega)), ?_⟩)
          rw [show (rI h1 40 ((nI (nb j)).toNatClampNeg) : Int32) = nI (cel g (lkT l (tkT (lT l) nb j)) (nb j)) from by rw [nI_clamp (by omega)]; exact cl_Cl cl1 (nb j) (by omega)]
          refine exf_go 2 (show Go (d + 2) true 36 39 [.ref 39, .ref 31, .ref 62, .int (nI j), .int (nI (nb j))] [.int ((nI (cel g (lkT l (tkT (lT l) nb j)) (nb j))) &&& (-257)), .int (nI (nb j)), .ref 40] h1 Q from ?_)
          rw [show ((nI (cel g (lkT l (tkT (lT l) nb j)) (nb j))) &&& (-257) : Int32) = nI (cel g (lkT l (va_up (tkT (lT l) nb j) (nb j) 0)) (nb j)) from cel_unt cs.1 cl1.1 hTj (by show va_up _ _ _ _ = _; rw [up_eq]) rfl]
          refine exf_go 4 (show vp_in (nI (nb j)) (al h1 40) ∧ (Go (d + 2) true 36 45 [.ref 39, .ref 31, .ref 62, .int (nI j), .int (nI (nb j))] [.int (rI h1 39 6), .ref 39] (uI h1 40 ((nI (nb j)).toNatClampNeg) (nI (cel g (lkT l (va_up (tkT (lT l) nb j) (nb j) 0)) (nb j)))) Q) from ⟨(vp_in_nI (by omega) (by omega)), ?_⟩)
          rw [show (rI h1 39 6 : Int32) = nI (cntN (fun m => tkT (lT l) nb j m == 1) (tot g)) from cl_T cl1]
          refine exf_go 2 (show Go (d + 2) true 36 47 [.ref 39, .ref 31, .ref 62, .int (nI j), .int (nI (nb j))] [.int ((nI (cntN (fun m => tkT (lT l) nb j m == 1) (tot g))) - 1), .ref 39] (uI h1 40 ((nI (nb j)).toNatClampNeg) (nI (cel g (lkT l (va_up (tkT (lT l) nb j) (nb j) 0)) (nb j)))) Q from ?_)
          rw [show ((nI (cntN (fun m => tkT (lT l) nb j m == 1) (tot g))) - 1 : Int32) = nI (cntN (fun m => tkT (lT l) nb j m == 1) (tot g) - 1) from pk_sub (b := 1) (by omega)]
          refine exf_go 2 (show Go (d + 2) true 36 53 [.ref 39, .ref 31, .ref 62, .int ((nI j) + 1), .int (nI (nb j))] [] (uI (uI h1 40 ((nI (nb j)).toNatClampNeg) (nI (cel g (lkT l (va_up (tkT (lT l) nb j) (nb j) 0)) (nb j)))) 39 6 (nI (cntN (fun m => tkT (lT l) nb j m == 1) (tot g) - 1))) Q from ?_)
          rw [show ((nI j) + 1 : Int32) = nI (j + 1) from nI_add j 1]
          refine exf_go 1 (show Go (d + 2) true 36 2 [.ref 39, .ref 31, .ref 62, .int (nI (j + 1)), .int (nI (nb j))] [] (uI (uI h1 40 ((nI (nb j)).toNatClampNeg) (nI (cel g (lkT l (va_up (tkT (lT l) nb j) (nb j) 0)) (nb j)))) 39 6 (nI (cntN (fun m => tkT (lT l) nb j m == 1) (tot g) - 1))) Q from ?_)
          exact ih2 (.int (nI (nb j))) (j + 1) _ (by omega) (by omega) ((q1.uI' _ _ _ rfl).uI' _ _ _ rfl) (by rw [nI_clamp (by omega)]; exact cl_unt cs.1 cl1 (b1 j (by omega)).2.1 hTj)
  exact L2 (c + 1) mk_ 0 h (by omega) (by omega) Fq.rfl' cl
theorem c_tb7 {d : Nat} {h : Hp} {g : ShG} {l l0 : LkG} {c : Nat} {Q : Po} (cs : CS 31 g h) (cl : CL 39 g l h) (mk : CMK g 7 l0 l c h) (k : ∀ h1, Fq sL3 h h1 → CL 39 g l0 h1 → Q mk_ h1) : wpC (d + 3) true 36 [.ref 39, .ref 31, .ref 65] h Q := by
  have hN := tot_b cs.1
  have h4 := cs.1.1
  obtain ⟨a1, a2, a3, a4, nb, b1, b2, b3⟩ := mk
  refine go_in rfl ?_
  refine exf_go 2 (show Go (d + 2) true 36 2 [.ref 39, .ref 31, .ref 65, .int 0, mk_] [] h Q from ?_)
  have L2 : ∀ (k2 : Nat) (z4 : Value) (j : Nat) (h1 : Hp), (c - j) < k2 → (j ≤ c) → (Fq sL3 h h1) → (CL 39 g (lkT l (tkT (lT l) nb j)) h1) → Go (d + 2) true 36 2 [.ref 39, .ref 31, .ref 65, .int (nI j), z4] [] h1 Q := by
    intro k2
    induction k2 with
    | zero => intro z4 j h1 hk; exact absurd hk (Nat.not_lt_zero _)
    | succ k2 ih2 =>
      intro z4 j h1 hk hj q1 cl1
      have cs1 := cs_L3 cs q1
      have em : rI h1 65 = rI h 65 := q1.I (fun _ => rfl)
      have em1 : rI h1 66 = rI h 66 := q1.I (fun _ => rfl)
      have hal1 := cl_al cl1
      simp only [Nat.reduceAdd] at hal1
      have hfN := cl_N cl1; have hfT := cl_T cl1; have hfC := cl_Cl cl1
      refine exf_go 3 (show Go (d + 2) true 36 7 [.ref 39, .ref 31, .ref 65, .int (nI j), z4] [.int (rI h1 65 1), .int (nI j)] h1 Q from ?_)
      rw [show (rI h1 65 1 : Int32) = nI c from by rw [em]; exact a2.1]
      refine exf_go 1 (show ((nI c) ≤ (nI j) → Go (d + 2) true 36 56 [.ref 39, .ref 31, .ref 65, .int (nI j), z4] [] h1 Q) ∧ (¬ ((nI c) ≤ (nI j)) → Go (d + 2) true 36 10 [.ref 39, .ref 31, .ref 65, .int (nI j), z4] [] h1 Q) from ⟨fun c1 => ?_, fun c1 => ?_⟩)
      · skip
        have c1 : c ≤ j := (nI_leI (a := c) (b := j) (by omega) (by omega)).mp c1
        have hjc : j = c := by omega
        have hT0 : ∀ n, n < tot g → tkT (lT l) nb j n = lT l0 n := fun n hn => tk_all hjc (fun k hk => (b1 k hk).2.2.2) b3 n hn
        refine exf_go 3 (show Go (d + 2) true 36 61 [.ref 39, .ref 31, .ref 65, .int (nI j), z4] [.int (rI h1 65 3), .ref 39] h1 Q from ?_)
        rw [show (rI h1 65 3 : Int32) = nI (lA l0) from by rw [em]; exact a2.2.1]
        refine exf_go 4 (show Go (d + 2) true 36 69 [.ref 39, .ref 31, .ref 65, .int (nI j), z4] [.int (rI h1 65 4), .ref 39] (uI h1 39 3 (nI (lA l0))) Q from ?_)
        rw [show (rI h1 65 4 : Int32) = lX l0 from by rw [em]; exact a2.2.2.1]
        refine exf_go 4 (show Go (d + 2) true 36 77 [.ref 39, .ref 31, .ref 65, .int (nI j), z4] [.int (rI h1 65 5), .ref 39] (uI (uI h1 39 3 (nI (lA l0))) 39 4 (lX l0)) Q from ?_)
        rw [show (rI h1 65 5 : Int32) = lG l0 from by rw [em]; exact a2.2.2.2.1]
        refine exf_go 4 (show Go (d + 2) true 36 85 [.ref 39, .ref 31, .ref 65, .int (nI j), z4] [.int (rI h1 65 6), .ref 39] (uI (uI (uI h1 39 3 (nI (lA l0))) 39 4 (lX l0)) 39 5 (lG l0)) Q from ?_)
        rw [show (rI h1 65 6 : Int32) = nI (lO l0) from by rw [em]; exact a2.2.2.2.2]
        refine exf_go 12 (show ((nI (lO l0)) = 0 ∨ (nI (lO l0)) = 1) ∧ ¬ (0 : Int32) < 0 ∧ ¬ (0 : Int32) < 0 ∧ ¬ (4 : Int32) < 0 ∧ 0 + 4 ≤ 4 ∧ 0 + 4 ≤ 4 ∧ (wpC (d + 2) true 37 [.ref 39, .ref 31] (uA (uI (uI (uI (uI h1 39 3 (nI (lA l0))) 39 4 (lX l0)) 39 5 (lG l0)) 39 7 (nI (lO l0))) 41 (va_cpy (rI h1 67) (rI h1 41) 0 0 4)) (fun _ h' => Go (d + 2) true 36 107 [.ref 39, .ref 31, .ref 65, .int (nI j), z4] [] h' Q)) from ⟨(by first | exact Or.inl rfl | exact Or.inr rfl | exact lO_b a4), (by decide), (by decide), (by decide), (by first | decide | omega), (by first | decide | omega), ?_⟩)
        have csu := cs_same (h1 := uA (uI (uI (uI (uI h1 39 3 (nI (lA l0))) 39 4 (lX l0)) 39 5 (lG l0)) 39 7 (nI (lO l0))) 41 (va_cpy (rI h1 67) (rI h1 41) 0 0 4)) cs1 (fun a u v => by show rI (uA (uI (uI (uI (uI h1 39 3 _) 39 4 _) 39 5 _) 39 7 _) 41 _) a = _; rw [rI_uA_ne (by omega), rI_uI_ne (by omega), rI_uI_ne (by omega), rI_uI_ne (by omega), rI_uI_ne (by omega)])
        refine c_unfelt csu (l := l0) ⟨a4, hfN, rfl, rfl, rfl, rfl, ?_, hal1.1, hal1.2, fun n hn => ⟨1 - agA g (lkT l (tkT (lT l) nb j)) n, by omega, ?_⟩, fun v hv => ?_⟩ (fun h2 q2 cl2 => ?_)
        · exact hfT.trans (congrArg nI (cnt_cg _ (fun m hm => by show (tkT (lT l) nb j m == 1) = (lT l0 m == 1); rw [hT0 m hm])))
        · refine (hfC n hn).trans (congrArg nI ?_); rw [cel, show lT (lkT l (tkT (lT l) nb j)) n = lT l0 n from hT0 n hn]
        · show va_cpy (rI h1 67) (rI h1 41) 0 0 4 v = _; rw [q1.I (a := 67) (fun _ => rfl), cpy4 _ _ (by omega)]; exact a3 v hv
        show Go (d + 2) true 36 107 [.ref 39, .ref 31, .ref 65, .int (nI j), z4] [] h2 Q
        refine exf_go 1 (show Q (mk_) h2 from ?_)
        exact k h2 ((((((q1.uI' _ _ _ rfl).uI' _ _ _ rfl).uI' _ _ _ rfl).uI' _ _ _ rfl).uA' _ _ (fun _ => rfl)).tr (q2.mono (sAt_s (fun _ => rfl)))) cl2
      · skip
        have c1 : ¬ c ≤ j := fun q => c1 ((nI_leI (a := c) (b := j) (by omega) (by omega)).mpr q)
        refine exf_go 4 (show vp_in (nI j) 40 ∧ (Go (d + 2) true 36 16 [.ref 39, .ref 31, .ref 65, .int (nI j), z4] [.int (rI h1 66 ((nI j).toNatClampNeg))] h1 Q) from ⟨(vp_in_nI (by omega) (by omega)), ?_⟩)
        rw [show (rI h1 66 ((nI j).toNatClampNeg) : Int32) = nI (nb j) from by rw [em1, nI_clamp (by omega)]; exact (b1 j (by omega)).1]
        have hbj := b1 j (by omega)
        have hTj : tkT (lT l) nb j (nb j) = 1 := by rw [tk_out j (fun k hk q => by have := b2 k j (by omega) (by omega) q; omega)]; exact hbj.2.2.1
        have hcnt := cnt_lt hbj.2.1 (p := fun m => tkT (lT l) nb j m == 1) (by show (tkT (lT l) nb j (nb j) == 1) = true; rw [hTj]; rfl); have hcle := cntN_le (fun m => tkT (lT l) nb j m == 1) (tot g)
        refine exf_go 4 (show wpC (d + 2) true 32 [.ref 39, .int (nI (nb j))] h1 (fun r h' => Go (d + 2) true 36 24 [.ref 39, .ref 31, .ref 65, .int (nI j), .int (nI (nb j))] [r] h' Q) from ?_)
        refine c_isCell cs1 cl1 (by omega) ?_
        show Go (d + 2) true 36 24 [.ref 39, .ref 31, .ref 65, .int (nI j), .int (nI (nb j))] [.int 1] h1 Q
        refine exf_go 1 (show ((1 : Int32) = 0 → Go (d + 2) true 36 50 [.ref 39, .ref 31, .ref 65, .int (nI j), .int (nI (nb j))] [] h1 Q) ∧ (¬ ((1 : Int32) = 0) → Go (d + 2) true 36 27 [.ref 39, .ref 31, .ref 65, .int (nI j), .int (nI (nb j))] [] h1 Q) from ⟨fun c2 => ?_, fun c2 => ?_⟩)
        · skip
          exact absurd c2 (by decide)
        · skip
          refine exf_go 5 (show vp_in (nI (nb j)) (al h1 40) ∧ (Go (d + 2) true 36 35 [.ref 39, .ref 31, .ref 65, .int (nI j), .int (nI (nb j))] [.int (rI h1 40 ((nI (nb j)).toNatClampNeg)), .int (nI (nb j)), .ref 40] h1 Q) from ⟨(vp_in_nI (by omega) (by omega)), ?_⟩)
          rw [show (rI h1 40 ((nI (nb j)).toNatClampNeg) : Int32) = nI (cel g (lkT l (tkT (lT l) nb j)) (nb j)) from by rw [nI_clamp (by omega)]; exact cl_Cl cl1 (nb j) (by omega)]
          refine exf_go 2 (show Go (d + 2) true 36 39 [.ref 39, .ref 31, .ref 65, .int (nI j), .int (nI (nb j))] [.int ((nI (cel g (lkT l (tkT (lT l) nb j)) (nb j))) &&& (-257)), .int (nI (nb j)), .ref 40] h1 Q from ?_)
          rw [show ((nI (cel g (lkT l (tkT (lT l) nb j)) (nb j))) &&& (-257) : Int32) = nI (cel g (lkT l (va_up (tkT (lT l) nb j) (nb j) 0)) (nb j)) from cel_unt cs.1 cl1.1 hTj (by show va_up _ _ _ _ = _; rw [up_eq]) rfl]
          refine exf_go 4 (show vp_in (nI (nb j)) (al h1 40) ∧ (Go (d + 2) true 36 45 [.ref 39, .ref 31, .ref 65, .int (nI j), .int (nI (nb j))] [.int (rI h1 39 6), .ref 39] (uI h1 40 ((nI (nb j)).toNatClampNeg) (nI (cel g (lkT l (va_up (tkT (lT l) nb j) (nb j) 0)) (nb j)))) Q) from ⟨(vp_in_nI (by omega) (by omega)), ?_⟩)
          rw [show (rI h1 39 6 : Int32) = nI (cntN (fun m => tkT (lT l) nb j m == 1) (tot g)) from cl_T cl1]
          refine exf_go 2 (show Go (d + 2) true 36 47 [.ref 39, .ref 31, .ref 65, .int (nI j), .int (nI (nb j))] [.int ((nI (cntN (fun m => tkT (lT l) nb j m == 1) (tot g))) - 1), .ref 39] (uI h1 40 ((nI (nb j)).toNatClampNeg) (nI (cel g (lkT l (va_up (tkT (lT l) nb j) (nb j) 0)) (nb j)))) Q from ?_)
          rw [show ((nI (cntN (fun m => tkT (lT l) nb j m == 1) (tot g))) - 1 : Int32) = nI (cntN (fun m => tkT (lT l) nb j m == 1) (tot g) - 1) from pk_sub (b := 1) (by omega)]
          refine exf_go 2 (show Go (d + 2) true 36 53 [.ref 39, .ref 31, .ref 65, .int ((nI j) + 1), .int (nI (nb j))] [] (uI (uI h1 40 ((nI (nb j)).toNatClampNeg) (nI (cel g (lkT l (va_up (tkT (lT l) nb j) (nb j) 0)) (nb j)))) 39 6 (nI (cntN (fun m => tkT (lT l) nb j m == 1) (tot g) - 1))) Q from ?_)
          rw [show ((nI j) + 1 : Int32) = nI (j + 1) from nI_add j 1]
          refine exf_go 1 (show Go (d + 2) true 36 2 [.ref 39, .ref 31, .ref 65, .int (nI (j + 1)), .int (nI (nb j))] [] (uI (uI h1 40 ((nI (nb j)).toNatClampNeg) (nI (cel g (lkT l (va_up (tkT (lT l) nb j) (nb j) 0)) (nb j)))) 39 6 (nI (cntN (fun m => tkT (lT l) nb j m == 1) (tot g) - 1))) Q from ?_)
          exact ih2 (.int (nI (nb j))) (j + 1) _ (by omega) (by omega) ((q1.uI' _ _ _ rfl).uI' _ _ _ rfl) (by rw [nI_clamp (by omega)]; exact cl_unt cs.1 cl1 (b1 j (by omega)).2.1 hTj)
  exact L2 (c + 1) mk_ 0 h (by omega) (by omega) Fq.rfl' cl
theorem c_tb8 {d : Nat} {h : Hp} {g : ShG} {l l0 : LkG} {c : Nat} {Q : Po} (cs : CS 31 g h) (cl : CL 39 g l h) (mk : CMK g 8 l0 l c h) (k : ∀ h1, Fq sL3 h h1 → CL 39 g l0 h1 → Q mk_ h1) : wpC (d + 3) true 36 [.ref 39, .ref 31, .ref 68] h Q := by
  have hN := tot_b cs.1
  have h4 := cs.1.1
  obtain ⟨a1, a2, a3, a4, nb, b1, b2, b3⟩ := mk
  refine go_in rfl ?_
  refine exf_go 2 (show Go (d + 2) true 36 2 [.ref 39, .ref 31, .ref 68, .int 0, mk_] [] h Q from ?_)
  have L2 : ∀ (k2 : Nat) (z4 : Value) (j : Nat) (h1 : Hp), (c - j) < k2 → (j ≤ c) → (Fq sL3 h h1) → (CL 39 g (lkT l (tkT (lT l) nb j)) h1) → Go (d + 2) true 36 2 [.ref 39, .ref 31, .ref 68, .int (nI j), z4] [] h1 Q := by
    intro k2
    induction k2 with
    | zero => intro z4 j h1 hk; exact absurd hk (Nat.not_lt_zero _)
    | succ k2 ih2 =>
      intro z4 j h1 hk hj q1 cl1
      have cs1 := cs_L3 cs q1
      have em : rI h1 68 = rI h 68 := q1.I (fun _ => rfl)
      have em1 : rI h1 69 = rI h 69 := q1.I (fun _ => rfl)
      have hal1 := cl_al cl1
      simp only [Nat.reduceAdd] at hal1
      have hfN := cl_N cl1; have hfT := cl_T cl1; have hfC := cl_Cl cl1
      refine exf_go 3 (show Go (d + 2) true 36 7 [.ref 39, .ref 31, .ref 68, .int (nI j), z4] [.int (rI h1 68 1), .int (nI j)] h1 Q from ?_)
      rw [show (rI h1 68 1 : Int32) = nI c from by rw [em]; exact a2.1]
      refine exf_go 1 (show ((nI c) ≤ (nI j) → Go (d + 2) true 36 56 [.ref 39, .ref 31, .ref 68, .int (nI j), z4] [] h1 Q) ∧ (¬ ((nI c) ≤ (nI j)) → Go (d + 2) true 36 10 [.ref 39, .ref 31, .ref 68, .int (nI j), z4] [] h1 Q) from ⟨fun c1 => ?_, fun c1 => ?_⟩)
      · skip
        have c1 : c ≤ j := (nI_leI (a := c) (b := j) (by omega) (by omega)).mp c1
        have hjc : j = c := by omega
        have hT0 : ∀ n, n < tot g → tkT (lT l) nb j n = lT l0 n := fun n hn => tk_all hjc (fun k hk => (b1 k hk).2.2.2) b3 n hn
        refine exf_go 3 (show Go (d + 2) true 36 61 [.ref 39, .ref 31, .ref 68, .int (nI j), z4] [.int (rI h1 68 3), .ref 39] h1 Q from ?_)
        rw [show (rI h1 68 3 : Int32) = nI (lA l0) from by rw [em]; exact a2.2.1]
        refine exf_go 4 (show Go (d + 2) true 36 69 [.ref 39, .ref 31, .ref 68, .int (nI j), z4] [.int (rI h1 68 4), .ref 39] (uI h1 39 3 (nI (lA l0))) Q from ?_)
        rw [show (rI h1 68 4 : Int32) = lX l0 from by rw [em]; exact a2.2.2.1]
        refine exf_go 4 (show Go (d + 2) true 36 77 [.ref 39, .ref 31, .ref 68, .int (nI j), z4] [.int (rI h1 68 5), .ref 39] (uI (uI h1 39 3 (nI (lA l0))) 39 4 (lX l0)) Q from ?_)
        rw [show (rI h1 68 5 : Int32) = lG l0 from by rw [em]; exact a2.2.2.2.1]
        refine exf_go 4 (show Go (d + 2) true 36 85 [.ref 39, .ref 31, .ref 68, .int (nI j), z4] [.int (rI h1 68 6), .ref 39] (uI (uI (uI h1 39 3 (nI (lA l0))) 39 4 (lX l0)) 39 5 (lG l0)) Q from ?_)
        rw [show (rI h1 68 6 : Int32) = nI (lO l0) from by rw [em]; exact a2.2.2.2.2]
        refine exf_go 12 (show ((nI (lO l0)) = 0 ∨ (nI (lO l0)) = 1) ∧ ¬ (0 : Int32) < 0 ∧ ¬ (0 : Int32) < 0 ∧ ¬ (4 : Int32) < 0 ∧ 0 + 4 ≤ 4 ∧ 0 + 4 ≤ 4 ∧ (wpC (d + 2) true 37 [.ref 39, .ref 31] (uA (uI (uI (uI (uI h1 39 3 (nI (lA l0))) 39 4 (lX l0)) 39 5 (lG l0)) 39 7 (nI (lO l0))) 41 (va_cpy (rI h1 70) (rI h1 41) 0 0 4)) (fun _ h' => Go (d + 2) true 36 107 [.ref 39, .ref 31, .ref 68, .int (nI j), z4] [] h' Q)) from ⟨(by first | exact Or.inl rfl | exact Or.inr rfl | exact lO_b a4), (by decide), (by decide), (by decide), (by first | decide | omega), (by first | decide | omega), ?_⟩)
        have csu := cs_same (h1 := uA (uI (uI (uI (uI h1 39 3 (nI (lA l0))) 39 4 (lX l0)) 39 5 (lG l0)) 39 7 (nI (lO l0))) 41 (va_cpy (rI h1 70) (rI h1 41) 0 0 4)) cs1 (fun a u v => by show rI (uA (uI (uI (uI (uI h1 39 3 _) 39 4 _) 39 5 _) 39 7 _) 41 _) a = _; rw [rI_uA_ne (by omega), rI_uI_ne (by omega), rI_uI_ne (by omega), rI_uI_ne (by omega), rI_uI_ne (by omega)])
        refine c_unfelt csu (l := l0) ⟨a4, hfN, rfl, rfl, rfl, rfl, ?_, hal1.1, hal1.2, fun n hn => ⟨1 - agA g (lkT l (tkT (lT l) nb j)) n, by omega, ?_⟩, fun v hv => ?_⟩ (fun h2 q2 cl2 => ?_)
        · exact hfT.trans (congrArg nI (cnt_cg _ (fun m hm => by show (tkT (lT l) nb j m == 1) = (lT l0 m == 1); rw [hT0 m hm])))
        · refine (hfC n hn).trans (congrArg nI ?_); rw [cel, show lT (lkT l (tkT (lT l) nb j)) n = lT l0 n from hT0 n hn]
        · show va_cpy (rI h1 70) (rI h1 41) 0 0 4 v = _; rw [q1.I (a := 70) (fun _ => rfl), cpy4 _ _ (by omega)]; exact a3 v hv
        show Go (d + 2) true 36 107 [.ref 39, .ref 31, .ref 68, .int (nI j), z4] [] h2 Q
        refine exf_go 1 (show Q (mk_) h2 from ?_)
        exact k h2 ((((((q1.uI' _ _ _ rfl).uI' _ _ _ rfl).uI' _ _ _ rfl).uI' _ _ _ rfl).uA' _ _ (fun _ => rfl)).tr (q2.mono (sAt_s (fun _ => rfl)))) cl2
      · skip
        have c1 : ¬ c ≤ j := fun q => c1 ((nI_leI (a := c) (b := j) (by omega) (by omega)).mpr q)
        refine exf_go 4 (show vp_in (nI j) 40 ∧ (Go (d + 2) true 36 16 [.ref 39, .ref 31, .ref 68, .int (nI j), z4] [.int (rI h1 69 ((nI j).toNatClampNeg))] h1 Q) from ⟨(vp_in_nI (by omega) (by omega)), ?_⟩)
        rw [show (rI h1 69 ((nI j).toNatClampNeg) : Int32) = nI (nb j) from by rw [em1, nI_clamp (by omega)]; exact (b1 j (by omega)).1]
        have hbj := b1 j (by omega)
        have hTj : tkT (lT l) nb j (nb j) = 1 := by rw [tk_out j (fun k hk q => by have := b2 k j (by omega) (by omega) q; omega)]; exact hbj.2.2.1
        have hcnt := cnt_lt hbj.2.1 (p := fun m => tkT (lT l) nb j m == 1) (by show (tkT (lT l) nb j (nb j) == 1) = true; rw [hTj]; rfl); have hcle := cntN_le (fun m => tkT (lT l) nb j m == 1) (tot g)
        refine exf_go 4 (show wpC (d + 2) true 32 [.ref 39, .int (nI (nb j))] h1 (fun r h' => Go (d + 2) true 36 24 [.ref 39, .ref 31, .ref 68, .int (nI j), .int (nI (nb j))] [r] h' Q) from ?_)
        refine c_isCell cs1 cl1 (by omega) ?_
        show Go (d + 2) true 36 24 [.ref 39, .ref 31, .ref 68, .int (nI j), .int (nI (nb j))] [.int 1] h1 Q
        refine exf_go 1 (show ((1 : Int32) = 0 → Go (d + 2) true 36 50 [.ref 39, .ref 31, .ref 68, .int (nI j), .int (nI (nb j))] [] h1 Q) ∧ (¬ ((1 : Int32) = 0) → Go (d + 2) true 36 27 [.ref 39, .ref 31, .ref 68, .int (nI j), .int (nI (nb j))] [] h1 Q) from ⟨fun c2 => ?_, fun c2 => ?_⟩)
        · skip
          exact absurd c2 (by decide)
        · skip
          refine exf_go 5 (show vp_in (nI (nb j)) (al h1 40) ∧ (Go (d + 2) true 36 35 [.ref 39, .ref 31, .ref 68, .int (nI j), .int (nI (nb j))] [.int (rI h1 40 ((nI (nb j)).toNatClampNeg)), .int (nI (nb j)), .ref 40] h1 Q) from ⟨(vp_in_nI (by omega) (by omega)), ?_⟩)
          rw [show (rI h1 40 ((nI (nb j)).toNatClampNeg) : Int32) = nI (cel g (lkT l (tkT (lT l) nb j)) (nb j)) from by rw [nI_clamp (by omega)]; exact cl_Cl cl1 (nb j) (by omega)]
          refine exf_go 2 (show Go (d + 2) true 36 39 [.ref 39, .ref 31, .ref 68, .int (nI j), .int (nI (nb j))] [.int ((nI (cel g (lkT l (tkT (lT l) nb j)) (nb j))) &&& (-257)), .int (nI (nb j)), .ref 40] h1 Q from ?_)
          rw [show ((nI (cel g (lkT l (tkT (lT l) nb j)) (nb j))) &&& (-257) : Int32) = nI (cel g (lkT l (va_up (tkT (lT l) nb j) (nb j) 0)) (nb j)) from cel_unt cs.1 cl1.1 hTj (by show va_up _ _ _ _ = _; rw [up_eq]) rfl]
          refine exf_go 4 (show vp_in (nI (nb j)) (al h1 40) ∧ (Go (d + 2) true 36 45 [.ref 39, .ref 31, .ref 68, .int (nI j), .int (nI (nb j))] [.int (rI h1 39 6), .ref 39] (uI h1 40 ((nI (nb j)).toNatClampNeg) (nI (cel g (lkT l (va_up (tkT (lT l) nb j) (nb j) 0)) (nb j)))) Q) from ⟨(vp_in_nI (by omega) (by omega)), ?_⟩)
          rw [show (rI h1 39 6 : Int32) = nI (cntN (fun m => tkT (lT l) nb j m == 1) (tot g)) from cl_T cl1]
          refine exf_go 2 (show Go (d + 2) true 36 47 [.ref 39, .ref 31, .ref 68, .int (nI j), .int (nI (nb j))] [.int ((nI (cntN (fun m => tkT (lT l) nb j m == 1) (tot g))) - 1), .ref 39] (uI h1 40 ((nI (nb j)).toNatClampNeg) (nI (cel g (lkT l (va_up (tkT (lT l) nb j) (nb j) 0)) (nb j)))) Q from ?_)
          rw [show ((nI (cntN (fun m => tkT (lT l) nb j m == 1) (tot g))) - 1 : Int32) = nI (cntN (fun m => tkT (lT l) nb j m == 1) (tot g) - 1) from pk_sub (b := 1) (by omega)]
          refine exf_go 2 (show Go (d + 2) true 36 53 [.ref 39, .ref 31, .ref 68, .int ((nI j) + 1), .int (nI (nb j))] [] (uI (uI h1 40 ((nI (nb j)).toNatClampNeg) (nI (cel g (lkT l (va_up (tkT (lT l) nb j) (nb j) 0)) (nb j)))) 39 6 (nI (cntN (fun m => tkT (lT l) nb j m == 1) (tot g) - 1))) Q from ?_)
          rw [show ((nI j) + 1 : Int32) = nI (j + 1) from nI_add j 1]
          refine exf_go 1 (show Go (d + 2) true 36 2 [.ref 39, .ref 31, .ref 68, .int (nI (j + 1)), .int (nI (nb j))] [] (uI (uI h1 40 ((nI (nb j)).toNatClampNeg) (nI (cel g (lkT l (va_up (tkT (lT l) nb j) (nb j) 0)) (nb j)))) 39 6 (nI (cntN (fun m => tkT (lT l) nb j m == 1) (tot g) - 1))) Q from ?_)
          exact ih2 (.int (nI (nb j))) (j + 1) _ (by omega) (by omega) ((q1.uI' _ _ _ rfl).uI' _ _ _ rfl) (by rw [nI_clamp (by omega)]; exact cl_unt cs.1 cl1 (b1 j (by omega)).2.1 hTj)
  exact L2 (c + 1) mk_ 0 h (by omega) (by omega) Fq.rfl' cl
