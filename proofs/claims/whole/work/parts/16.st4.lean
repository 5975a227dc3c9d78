/-! Arrays, new cells, a row that takes another's place, String constants, statics. -/
theorem K0_30 : ∀ a, a < 152 → K0 a = 30 → a = 0 := by decide +kernel
theorem K0_32 : ∀ a, a < 152 → K0 a = 32 → 5 ≤ a ∧ a < 9 := by decide +kernel
theorem K0_31 : ∀ a, a < 152 → K0 a = 31 → 1 ≤ a ∧ a < 5 := by decide +kernel
theorem K0_30z {a : Nat} (h : K0 a = 30) : a = 0 := by
  rcases Nat.lt_or_ge a 152 with q | q
  · exact K0_30 a q h
  · rw [K0_big q] at h; omega
theorem K0_32j {a : Nat} (h : K0 a = 32) : ∃ j : Nat, j < 4 ∧ a = 5 + j := by
  rcases Nat.lt_or_ge a 152 with q | q
  · have := K0_32 a q h
    exact ⟨a - 5, by omega, by omega⟩
  · rw [K0_big q] at h; omega
theorem K0_31j {a : Nat} (h : K0 a = 31) : ∃ j : Nat, j < 4 ∧ a = 1 + j := by
  rcases Nat.lt_or_ge a 152 with q | q
  · have := K0_31 a q h
    exact ⟨a - 1, by omega, by omega⟩
  · rw [K0_big q] at h; omega
theorem al_0 {h : Hp} : al h 0 = rL h 0 := rfl
theorem aty_20 : aty 20 = .int := rfl
theorem aty_21 : aty 21 = .long := rfl
theorem ws_at {ρ : Nat → Nat} {γ : Nat → ClassId} {h : Hp} {L : List Nat} {a q : Nat} (hq : L[q]? = some a) : (wsO ρ γ h L)[q]? = some (ρ a, ens ρ γ h a) := by
  rw [wsO, List.getElem?_map, hq]
  rfl
section AR
variable {d y : Nat} {b : Bool} {pc n : Nat} {ls st : List Value} {h : Hp} {Q : Po}
theorem sx_iaload (hd : dcd y pc .iaload 1) (hn : n = 1) (H : pir st fun a i r => okb (ikd (K0 a)) (vp_in i (al h a) ∧ PsO d y Q b (pc + n) ls (.int (rI h a i.toNatClampNeg) :: r) h)) : PsO d y Q b pc ls st h := by
  obtain ⟨a, i, r, rfl, H⟩ := pir_e H
  obtain ⟨ek, hin, q, h', hq, hX⟩ := okb_e H
  subst hn
  refine ⟨q, h', hq, hX.1, hX.2.1, fun {G b0 ρ0 h0 R p l e s m args below meth c ρ γ H arr locs} iv g1 g2 => ?_⟩
  obtain ⟨L, w⟩ := iv.2.2.2.2.1
  have kk := iv.st (cons_ok (v := .int (rI h a i.toNatClampNeg)) trivial (tail_ok (tail_ok iv.2.2.2.2.2.2.2.1)))
  by_cases h30 : K0 a = 30
  · have ha0 : a = 0 := K0_30z h30
    subst ha0
    have ro := iv.2.2.2.1
    refine va_sld (A := Ab _) iv.1.1 iv.1.2.1 ro.1 (Nat.lt_of_lt_of_le ro.2.1 ro.2.2.1) (Nat.not_le.mpr ro.2.1) iv.2.2.2.2.2.2.2.2.1 (i := i) (by rw [← w.2.1]; exact hin) hd ?_
    rw [← w.1]
    exact hX.2.2 kk g1 g2
  · have h20 : K0 a = 20 := by
      simp only [ikd, Bool.or_eq_true] at ek
      rcases ek with q | q
      · exact Nat.eq_of_beq_eq_true q
      · exact absurd (Nat.eq_of_beq_eq_true q) h30
    have ha : a ∈ L := (w.2.2.2.2.1 a).mpr (live_of (head_ok (tail_ok iv.2.2.2.2.2.2.2.1)) (by omega))
    obtain ⟨q0, hq0⟩ := List.getElem?_of_mem ha
    have he := ws_at (ρ := ρ) (γ := γ) (h := h) hq0
    rcases w.2.2.2.2.2.2.2.1 a ha with q | ⟨-, -, t1, t2⟩
    · omega
    rw [h20] at t1 t2
    have he2 := he
    rw [ens_arr (by omega), cnt_i (Or.inl h20)] at he2
    exact va_iald iv.1.1 iv.1.2.1 (K1 w.2.2.1 t1 t2) w.2.2.2.2.2.1 q0 0 he2 rfl hin hd (hX.2.2 kk g1 g2)
theorem sx_laload (hd : dcd y pc .laload 1) (hn : n = 1) (H : pir st fun a i r => okb (Nat.beq (K0 a) 21) (vp_in i (al h a) ∧ PsO d y Q b (pc + n) ls (.long (rJ h a i.toNatClampNeg) :: r) h)) : PsO d y Q b pc ls st h := by
  obtain ⟨a, i, r, rfl, H⟩ := pir_e H
  obtain ⟨ek, hin, q, h', hq, hX⟩ := okb_e H
  have h21 := Nat.eq_of_beq_eq_true ek
  subst hn
  refine ⟨q, h', hq, hX.1, hX.2.1, fun {G b0 ρ0 h0 R p l e s m args below meth c ρ γ H arr locs} iv g1 g2 => ?_⟩
  obtain ⟨L, w⟩ := iv.2.2.2.2.1
  have ha : a ∈ L := (w.2.2.2.2.1 a).mpr (live_of (head_ok (tail_ok iv.2.2.2.2.2.2.2.1)) (by omega))
  obtain ⟨q0, hq0⟩ := List.getElem?_of_mem ha
  have he2 := ws_at (ρ := ρ) (γ := γ) (h := h) hq0
  rcases w.2.2.2.2.2.2.2.1 a ha with q | ⟨-, -, t1, t2⟩
  · omega
  rw [h21] at t1 t2
  rw [ens_arr (by omega), cnt_l h21] at he2
  exact va_lald iv.1.1 iv.1.2.1 (K1 w.2.2.1 t1 t2) w.2.2.2.2.2.1 q0 0 he2 rfl hin hd (hX.2.2 (iv.st (cons_ok trivial (tail_ok (tail_ok iv.2.2.2.2.2.2.2.1)))) g1 g2)
theorem sx_baload (hd : dcd y pc .baload 1) (hn : n = 1) (H : pir st fun a i r => bif Nat.beq (K0 a) 32 then (vp_in i (L0 a) ∧ PsO d y Q b (pc + n) ls (.int (B0 a i.toNatClampNeg) :: r) h) else okb (zkd (K0 a)) (vp_in i (al h a) ∧ PsO d y Q b (pc + n) ls (.int (rI h a i.toNatClampNeg) :: r) h)) : PsO d y Q b pc ls st h := by
  obtain ⟨a, i, r, rfl, H2⟩ := pir_e H
  clear H
  subst hn
  cases e32 : Nat.beq (K0 a) 32
  · rw [e32] at H2
    obtain ⟨ek, hin, q, h', hq, hX⟩ := okb_e H2
    refine ⟨q, h', hq, hX.1, hX.2.1, fun {G b0 ρ0 h0 R p l e s m args below meth c ρ γ H arr locs} iv g1 g2 => ?_⟩
    have hz : K0 a = 22 ∨ K0 a = 23 := by
      simp only [zkd, Bool.or_eq_true] at ek
      exact ek.imp Nat.eq_of_beq_eq_true Nat.eq_of_beq_eq_true
    obtain ⟨L, w⟩ := iv.2.2.2.2.1
    have ha : a ∈ L := (w.2.2.2.2.1 a).mpr (live_of (head_ok (tail_ok iv.2.2.2.2.2.2.2.1)) (by omega))
    obtain ⟨q0, hq0⟩ := List.getElem?_of_mem ha
    have he2 := ws_at (ρ := ρ) (γ := γ) (h := h) hq0
    rw [ens_arr (by omega), cnt_i (Or.inr hz)] at he2
    rcases w.2.2.2.2.2.2.2.1 a ha with q | ⟨-, -, t1, t2⟩
    · omega
    have k2 := iv.st (cons_ok (v := .int (rI h a i.toNatClampNeg)) trivial (tail_ok (tail_ok iv.2.2.2.2.2.2.2.1)))
    rcases hz with hz | hz
    · rw [hz] at t1 t2
      exact va_bald iv.1.1 iv.1.2.1 (K1 w.2.2.1 t1 t2) w.2.2.2.2.2.1 q0 0 he2 rfl hin hd (hX.2.2 k2 g1 g2)
    · rw [hz] at t1 t2
      exact va_zald iv.1.1 iv.1.2.1 (K1 w.2.2.1 t1 t2) w.2.2.2.2.2.1 q0 0 he2 rfl hin hd (hX.2.2 k2 g1 g2)
  · rw [e32] at H2
    obtain ⟨hin, q, h', hq, hX⟩ := H2
    have h32 := Nat.eq_of_beq_eq_true e32
    refine ⟨q, h', hq, hX.1, hX.2.1, fun {G b0 ρ0 h0 R p l e s m args below meth c ρ γ H arr locs} iv g1 g2 => ?_⟩
    obtain ⟨j, hj, rfl⟩ := K0_32j h32
    exact va_tb (v := .int (B0 (5 + j) i.toNatClampNeg)) iv.1.1 iv.1.2.1 (iv.2.2.2.1.2.2.2.1 j hj).2.2.2.2 iv.2.2.2.2.2.2.2.2.1 hin rfl hd (hX.2.2 (iv.st (cons_ok trivial (tail_ok (tail_ok iv.2.2.2.2.2.2.2.1)))) g1 g2)
theorem akd_i {k : Nat} (h : akd k = true) : 24 ≤ k ∧ k ≤ 27 := by
  simp only [akd, Bool.and_eq_true] at h
  exact ⟨Nat.le_of_ble_eq_true h.1, Nat.le_of_ble_eq_true h.2⟩
theorem aty_q {k : Nat} (h : 24 ≤ k) : aty k = .object (cN (acl k)) := by
  have e : ∀ j, j < 24 → Nat.beq k j = false := fun j hj => by
    cases q : Nat.beq k j
    · rfl
    · have := Nat.eq_of_beq_eq_true q
      omega
  simp only [aty, e 20 (by omega), e 21 (by omega), e 22 (by omega), e 23 (by omega), cond_false]
theorem L0_ref : ∀ a, a < 152 → 24 ≤ K0 a → K0 a ≤ 27 → 0 < L0 a ∧ L0 a < 40 := by decide +kernel
theorem al_ref {a : Nat} (h1 : 24 ≤ K0 a) (h2 : K0 a ≤ 27) : al h a < 40 := by
  rcases Nat.lt_or_ge a 152 with q | q
  · have := L0_ref a q h1 h2
    have e : Nat.beq (L0 a) 0 = false := by
      cases z : Nat.beq (L0 a) 0
      · rfl
      · have := Nat.eq_of_beq_eq_true z
        omega
    rw [al, e]
    exact this.2
  · rw [K0_big q] at h2; omega
theorem sx_aaload (hd : dcd y pc .aaload 1) (hn : n = 1) (H : pir st fun a i r => okb (akd (K0 a)) (vp_in i (al h a) ∧ (rN h a i.toNatClampNeg = true → PsO d y Q b (pc + n) ls (.ref (R0 a i.toNatClampNeg) :: r) h) ∧ (rN h a i.toNatClampNeg = false → PsO d y Q b (pc + n) ls (.null :: r) h))) : PsO d y Q b pc ls st h := by
  obtain ⟨a, i, r, rfl, H⟩ := pir_e H
  obtain ⟨ek, hin, ht, hf⟩ := okb_e H
  subst hn
  have hkk := akd_i ek
  cases eN : rN h a i.toNatClampNeg
  · obtain ⟨q, h', hq, hX⟩ := hf eN
    refine ⟨q, h', hq, hX.1, hX.2.1, fun {G b0 ρ0 h0 R p l e s m args below meth c ρ γ H arr locs} iv g1 g2 => ?_⟩
    obtain ⟨L, w⟩ := iv.2.2.2.2.1
    have ha : a ∈ L := (w.2.2.2.2.1 a).mpr (live_of (head_ok (tail_ok iv.2.2.2.2.2.2.2.1)) (by omega))
    obtain ⟨q0, hq0⟩ := List.getElem?_of_mem ha
    have he2 := ws_at (ρ := ρ) (γ := γ) (h := h) hq0
    rw [ens_arr (by omega), cnt_q ek] at he2
    rcases w.2.2.2.2.2.2.2.1 a ha with q | ⟨-, -, t1, t2⟩
    · omega
    rw [aty_q hkk.1] at t1 t2
    refine va_aldq iv.1.1 iv.1.2.1 (K1 w.2.2.1 t1 t2) w.2.2.2.2.2.1 q0 0 he2 rfl hin hd ?_
    simp only [eN, cond_false]
    exact hX.2.2 (iv.st (cons_ok trivial (tail_ok (tail_ok iv.2.2.2.2.2.2.2.1)))) g1 g2
  · obtain ⟨q, h', hq, hX⟩ := ht eN
    refine ⟨q, h', hq, hX.1, hX.2.1, fun {G b0 ρ0 h0 R p l e s m args below meth c ρ γ H arr locs} iv g1 g2 => ?_⟩
    obtain ⟨L, w⟩ := iv.2.2.2.2.1
    have ha : a ∈ L := (w.2.2.2.2.1 a).mpr (live_of (head_ok (tail_ok iv.2.2.2.2.2.2.2.1)) (by omega))
    obtain ⟨q0, hq0⟩ := List.getElem?_of_mem ha
    have he2 := ws_at (ρ := ρ) (γ := γ) (h := h) hq0
    rw [ens_arr (by omega), cnt_q ek] at he2
    rcases w.2.2.2.2.2.2.2.1 a ha with q | ⟨-, -, t1, t2⟩
    · omega
    rw [aty_q hkk.1] at t1 t2
    refine va_aldq iv.1.1 iv.1.2.1 (K1 w.2.2.1 t1 t2) w.2.2.2.2.2.1 q0 0 he2 rfl hin hd ?_
    simp only [eN, cond_true]
    have hl : lok h (.ref (R0 a i.toNatClampNeg)) := Or.inr ((w.2.2.2.2.1 _).mp (w.2.2.2.2.2.2.2.2.1 a ha _ eN).2)
    exact hX.2.2 (iv.st (cons_ok hl (tail_ok (tail_ok iv.2.2.2.2.2.2.2.1)))) g1 g2
theorem ens_uIa {ρ : Nat → Nat} {γ : Nat → ClassId} {a i : Nat} {v : Int32} (hk : K0 a = 20 ∨ K0 a = 22 ∨ K0 a = 23) : ens ρ γ (uI h a i v) a = .inl (γ a, (al h a, .inl (upd (rI h a) i v))) := by
  rw [ens_arr (by omega), cnt_i hk]
  simp only [rI, uI, uA, va_up_s]
  rfl
theorem sx_iastore (hd : dcd y pc .iastore 1) (hn : n = 1) (H : piir st fun a i v r => okb (Nat.beq (K0 a) 20) (vp_in i (al h a) ∧ PsO d y Q b (pc + n) ls r (uI h a i.toNatClampNeg v))) : PsO d y Q b pc ls st h := by
  obtain ⟨a, i, v, r, rfl, H⟩ := piir_e H
  obtain ⟨ek, hin, q, h', hq, hX⟩ := okb_e H
  have h20 := Nat.eq_of_beq_eq_true ek
  subst hn
  refine ⟨q, h', hq, hX.1, hX.2.1, fun {G b0 ρ0 h0 R p l e s m args below meth c ρ γ H arr locs} iv g1 g2 => ?_⟩
  obtain ⟨L, w⟩ := iv.2.2.2.2.1
  have hst := iv.2.2.2.2.2.2.2.1
  have ha : a ∈ L := (w.2.2.2.2.1 a).mpr (live_of (head_ok (tail_ok (tail_ok hst))) (by omega))
  obtain ⟨q0, hq0⟩ := List.getElem?_of_mem ha
  have he2 := ws_at (ρ := ρ) (γ := γ) (h := h) hq0
  rcases w.2.2.2.2.2.2.2.1 a ha with q | ⟨-, -, t1, t2⟩
  · omega
  rw [h20] at t1 t2
  rw [ens_arr (by omega), cnt_i (Or.inl h20)] at he2
  exact va_iast iv.1.1 iv.1.2.1 (K1 w.2.2.1 t1 t2) w.2.2.2.2.2.1 w.2.2.2.2.2.2.1 iv.2.2.2.2.2.2.2.2.1 q0 0 he2 rfl hin hd (fun H1 locs1 hP hD hS => hX.2.2 (iv.hp ⟨L, w.set hq0 (ens_uIa (Or.inl h20)) (fun c _ hc => ens_uA hc) hP hD (uA_0 (by omega)) rfl rfl (fun c _ k hk => Or.inl hk) (fun c k hk => hk)⟩ hS rfl rfl rfl (tail_ok (tail_ok (tail_ok hst)))) g1 g2)
theorem sx_lastore (hd : dcd y pc .lastore 1) (hn : n = 1) (H : plir st fun a i v r => okb (Nat.beq (K0 a) 21) (vp_in i (al h a) ∧ PsO d y Q b (pc + n) ls r (uJ h a i.toNatClampNeg v))) : PsO d y Q b pc ls st h := by
  obtain ⟨a, i, v, r, rfl, H⟩ := plir_e H
  obtain ⟨ek, hin, q, h', hq, hX⟩ := okb_e H
  have h21 := Nat.eq_of_beq_eq_true ek
  subst hn
  refine ⟨q, h', hq, hX.1, hX.2.1, fun {G b0 ρ0 h0 R p l e s m args below meth c ρ γ H arr locs} iv g1 g2 => ?_⟩
  obtain ⟨L, w⟩ := iv.2.2.2.2.1
  have hst := iv.2.2.2.2.2.2.2.1
  have ha : a ∈ L := (w.2.2.2.2.1 a).mpr (live_of (head_ok (tail_ok (tail_ok hst))) (by omega))
  obtain ⟨q0, hq0⟩ := List.getElem?_of_mem ha
  have he2 := ws_at (ρ := ρ) (γ := γ) (h := h) hq0
  rcases w.2.2.2.2.2.2.2.1 a ha with q | ⟨-, -, t1, t2⟩
  · omega
  rw [h21] at t1 t2
  rw [ens_arr (by omega), cnt_l h21] at he2
  refine va_last iv.1.1 iv.1.2.1 (K1 w.2.2.1 t1 t2) w.2.2.2.2.2.1 w.2.2.2.2.2.2.1 iv.2.2.2.2.2.2.2.2.1 q0 0 he2 rfl hin hd (fun H1 locs1 hP hD hS => hX.2.2 (iv.hp ⟨L, w.set hq0 ?_ (fun c _ hc => ens_uB hc) hP hD rfl rfl rfl (fun c _ k hk => Or.inl hk) (fun c k hk => hk)⟩ hS rfl rfl rfl (tail_ok (tail_ok (tail_ok hst)))) g1 g2)
  rw [ens_arr (by omega), cnt_l h21]
  simp only [rJ, uJ, uB, va_up_s]
  rfl
theorem sx_bastore (hd : dcd y pc .bastore 1) (hn : n = 1) (H : piir st fun a i v r => okb (zkd (K0 a)) (vp_in i (al h a) ∧ PsO d y Q b (pc + n) ls r (uI h a i.toNatClampNeg (vp_nar (bty (K0 a)) v)))) : PsO d y Q b pc ls st h := by
  obtain ⟨a, i, v, r, rfl, H⟩ := piir_e H
  obtain ⟨ek, hin, q, h', hq, hX⟩ := okb_e H
  subst hn
  have hz : K0 a = 22 ∨ K0 a = 23 := by
    simp only [zkd, Bool.or_eq_true] at ek
    exact ek.imp Nat.eq_of_beq_eq_true Nat.eq_of_beq_eq_true
  refine ⟨q, h', hq, hX.1, hX.2.1, fun {G b0 ρ0 h0 R p l e s m args below meth c ρ γ H arr locs} iv g1 g2 => ?_⟩
  obtain ⟨L, w⟩ := iv.2.2.2.2.1
  have hst := iv.2.2.2.2.2.2.2.1
  have ha : a ∈ L := (w.2.2.2.2.1 a).mpr (live_of (head_ok (tail_ok (tail_ok hst))) (by omega))
  obtain ⟨q0, hq0⟩ := List.getElem?_of_mem ha
  have he2 := ws_at (ρ := ρ) (γ := γ) (h := h) hq0
  rcases w.2.2.2.2.2.2.2.1 a ha with q | ⟨-, -, t1, t2⟩
  · omega
  rw [ens_arr (by omega), cnt_i (Or.inr hz)] at he2
  have e22 : ∀ (H1 : Heap) (locs1 : List Loc), va_P G.1 vwCl ((wsO ρ γ h L).set q0 (ρ a, .inl (γ a, (al h a, .inl (upd (rI h a) i.toNatClampNeg (vp_nar (bty (K0 a)) v)))))) H1 → va_D (Ab G.2.1) ((wsO ρ γ h L).set q0 (ρ a, .inl (γ a, (al h a, .inl (upd (rI h a) i.toNatClampNeg (vp_nar (bty (K0 a)) v)))))) → va_S (Ab G.2.1) s.heap H1 locs1 → IvO G d y b0 b ρ0 h0 R p s m args meth c ρ γ (uI h a i.toNatClampNeg (vp_nar (bty (K0 a)) v)) H1 arr ls r locs1 := fun H1 locs1 hP hD hS => iv.hp ⟨L, w.set hq0 (ens_uIa (Or.inr hz)) (fun c _ hc => ens_uA hc) hP hD (uA_0 (by omega)) rfl rfl (fun c _ k hk => Or.inl hk) (fun c k hk => hk)⟩ hS rfl rfl rfl (tail_ok (tail_ok (tail_ok hst)))
  rcases hz with hz | hz
  · have hb : bty (K0 a) = .byte := by rw [hz]; rfl
    rw [hz] at t1 t2
    refine va_bast iv.1.1 iv.1.2.1 (K1 w.2.2.1 t1 t2) w.2.2.2.2.2.1 w.2.2.2.2.2.2.1 iv.2.2.2.2.2.2.2.2.1 q0 0 he2 rfl hin hd (fun H1 locs1 hP hD hS => hX.2.2 (e22 H1 locs1 ?_ ?_ hS) g1 g2)
    · rw [hb]; exact hP
    · rw [hb]; exact hD
  · have hb : bty (K0 a) = .boolean := by rw [hz]; rfl
    rw [hz] at t1 t2
    refine va_zast iv.1.1 iv.1.2.1 (K1 w.2.2.1 t1 t2) w.2.2.2.2.2.1 w.2.2.2.2.2.2.1 iv.2.2.2.2.2.2.2.2.1 q0 0 he2 rfl hin hd (fun H1 locs1 hP hD hS => hX.2.2 (e22 H1 locs1 ?_ ?_ hS) g1 g2)
    · rw [hb]; exact hP
    · rw [hb]; exact hD
theorem sx_aastore (hd : dcd y pc .aastore 1) (hn : n = 1) (H : prir st fun a i v r => okb (akd (K0 a) && Nat.beq (K0 v) (acl (K0 a))) (vp_in i (al h a) ∧ v = R0 a i.toNatClampNeg ∧ PsO d y Q b (pc + n) ls r (uN h a i.toNatClampNeg true))) : PsO d y Q b pc ls st h := by
  obtain ⟨a, i, v, r, rfl, H⟩ := prir_e H
  obtain ⟨ek, hin, hv, q, h', hq, hX⟩ := okb_e H
  subst hn
  rw [Bool.and_eq_true] at ek
  obtain ⟨ek, ekv⟩ := ek
  have ekv := Nat.eq_of_beq_eq_true ekv
  have hkk := akd_i ek
  have hac : acl (K0 a) < 13 := by
    have : ∀ k, 24 ≤ k → k ≤ 27 → acl k < 13 := fun k h1 h2 => by
      rcases (show k = 24 ∨ k = 25 ∨ k = 26 ∨ k = 27 by omega) with rfl | rfl | rfl | rfl <;> decide
    exact this _ hkk.1 hkk.2
  refine ⟨q, h', hq, hX.1, hX.2.1, fun {G b0 ρ0 h0 R p l e s m args below meth c ρ γ H arr locs} iv g1 g2 => ?_⟩
  obtain ⟨L, w⟩ := iv.2.2.2.2.1
  have hst := iv.2.2.2.2.2.2.2.1
  have ha : a ∈ L := (w.2.2.2.2.1 a).mpr (live_of (head_ok (tail_ok (tail_ok hst))) (by omega))
  have hi40 : i.toNatClampNeg < 40 := by
    have h1 := al_ref (h := h) hkk.1 hkk.2
    have h2 : i.toNatClampNeg < al h a := Nat.not_le.mp fun q => hin (Or.inr q)
    omega
  have hvL : v ∈ L := (w.2.2.2.2.1 v).mpr (live_of (head_ok hst) (by omega))
  obtain ⟨q0, hq0⟩ := List.getElem?_of_mem ha
  obtain ⟨qk, hqk⟩ := List.getElem?_of_mem hvL
  have he2 := ws_at (ρ := ρ) (γ := γ) (h := h) hq0
  have hev := ws_at (ρ := ρ) (γ := γ) (h := h) hqk
  rcases w.2.2.2.2.2.2.2.1 a ha with q | ⟨-, -, t1, t2⟩
  · omega
  rw [aty_q hkk.1] at t1 t2
  rw [ens_arr (by omega), cnt_q ek] at he2
  rw [ens_obj (by omega)] at hev
  refine va_astq (r := (cN (acl (K0 a)), cT (acl (K0 a)), nfl (acl (K0 a)))) iv.1.1 iv.1.2.1 (K1 w.2.2.1 t1 t2) w.2.2.2.2.2.1 w.2.2.2.2.2.2.1 iv.2.2.2.2.2.2.2.2.1 q0 0 qk (K0 v) he2 rfl hev (by rw [ekv]; exact vw_c _ hac) hin hd (fun H1 locs1 hP hD hS => hX.2.2 (iv.hp ⟨L, w.set hq0 ?_ (fun c _ hc => ens_uN hc) hP hD rfl rfl rfl (fun c _ k hk => (uN_t hk).imp id (fun q => by rw [q.1, q.2, ← hv]; exact ⟨hi40, hvL⟩)) (fun c k hk => uN_k hk)⟩ hS rfl rfl rfl (tail_ok (tail_ok (tail_ok hst)))) g1 g2)
  rw [ens_arr (by omega), cnt_q ek]
  have e2 : (fun j => bif rN (uN h a i.toNatClampNeg true) a j then some (ρ (R0 a j)) else none) = va_up (fun j => bif rN h a j then some (ρ (R0 a j)) else none) i.toNatClampNeg (some (ρ v)) := by
    funext j
    simp only [rN, uN, va_up_s]
    by_cases hj : j = i.toNatClampNeg
    · rw [hj, va_up_s, va_up_s, cond_true, ← hv]
    · rw [va_up_n hj, va_up_n hj]
  rw [e2]
  rfl
theorem sx_alen (hd : dcd y pc .arraylength 1) (hn : n = 1) (H : pr st fun a r => okb (ark (K0 a)) (PsO d y Q b (pc + n) ls (.int (nI (al h a)) :: r) h)) : PsO d y Q b pc ls st h := by
  obtain ⟨a, r, rfl, H⟩ := pr_e H
  obtain ⟨ek, q, h', hq, hX⟩ := okb_e H
  subst hn
  refine ⟨q, h', hq, hX.1, hX.2.1, fun {G b0 ρ0 h0 R p l e s m args below meth c ρ γ H arr locs} iv g1 g2 => ?_⟩
  obtain ⟨L, w⟩ := iv.2.2.2.2.1
  have k2 := iv.st (cons_ok (v := .int (nI (al h a))) trivial (tail_ok iv.2.2.2.2.2.2.2.1))
  have hk3 : (20 ≤ K0 a ∧ K0 a ≤ 27) ∨ K0 a = 30 ∨ K0 a = 32 := by
    simp only [ark, Bool.or_eq_true, Bool.and_eq_true] at ek
    rcases ek with (⟨e1, e2⟩ | e3) | e3
    · exact Or.inl ⟨Nat.le_of_ble_eq_true e1, Nat.le_of_ble_eq_true e2⟩
    · exact Or.inr (Or.inl (Nat.eq_of_beq_eq_true e3))
    · exact Or.inr (Or.inr (Nat.eq_of_beq_eq_true e3))
  rcases hk3 with hk3 | h30 | h32
  · have ha : a ∈ L := (w.2.2.2.2.1 a).mpr (live_of (head_ok iv.2.2.2.2.2.2.2.1) (by omega))
    obtain ⟨q0, hq0⟩ := List.getElem?_of_mem ha
    have he2 := ws_at (ρ := ρ) (γ := γ) (h := h) hq0
    rw [ens_arr (by omega)] at he2
    rcases w.2.2.2.2.2.2.2.1 a ha with q | ⟨-, -, t1, t2⟩
    · omega
    exact va_alen iv.1.1 iv.1.2.1 (K1 w.2.2.1 t1 t2) w.2.2.2.2.2.1 q0 0 he2 rfl rfl hd (hX.2.2 k2 g1 g2)
  · have ha0 : a = 0 := K0_30z h30
    subst ha0
    have ro := iv.2.2.2.1
    refine va_slen (A := Ab _) iv.1.1 iv.1.2.1 ro.1 (Nat.lt_of_lt_of_le ro.2.1 ro.2.2.1) (Nat.not_le.mpr ro.2.1) iv.2.2.2.2.2.2.2.2.1 hd ?_
    rw [← w.2.1]
    exact hX.2.2 k2 g1 g2
  · obtain ⟨j, hj, rfl⟩ := K0_32j h32
    have hal : al h (5 + j) = L0 (5 + j) := by
      rcases (show j = 0 ∨ j = 1 ∨ j = 2 ∨ j = 3 by omega) with rfl | rfl | rfl | rfl <;> rfl
    exact va_tlen (v := nI (al h (5 + j))) iv.1.1 iv.1.2.1 (iv.2.2.2.1.2.2.2.1 j hj).2.2.2.2 iv.2.2.2.2.2.2.2.2.1 (by rw [hal]; rfl) hd (hX.2.2 k2 g1 g2)
end AR
