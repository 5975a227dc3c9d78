/-! A row that takes another's place; copies of rows; Object's constructor; String constants and statics; lookup switches. -/
def zpa (c : Nat) : Nat := bif Nat.beq c 40 then 39 else bif Nat.beq c 72 then 71 else bif Nat.beq c 86 then 85 else bif Nat.beq c 98 then 10 else bif Nat.beq c 117 then 116 else 119
def zpk (c : Nat) : Nat := bif Nat.beq c 98 then 16 else 0
theorem R0_uq : ∀ a, a < 152 → ∀ k, k < 40 → zon (R0 a k) = true → a = zpa (R0 a k) ∧ k = zpk (R0 a k) := by decide +kernel
theorem R0_99 : ∀ a, a < 152 → ∀ k, k < 40 → R0 a k ≠ 99 := by decide +kernel
theorem zon_k : ∀ c, c < 152 → zon c = true → K0 c = 20 ∧ L0 c = 0 := by decide +kernel
theorem va_P_of {D : va_G} {cl : List vw_C} {ws ws' : va_W} {H : Heap} (h : va_P D cl ws H) (hm : ∀ q ∈ ws', q ∈ ws) : va_P D cl ws' H := fun k q hk => by
  obtain ⟨i, hi⟩ := List.getElem?_of_mem (hm q (List.mem_of_getElem? hk))
  exact h i q hi
theorem rho_inj {A : Nat → Prop} {ρ : Nat → Nat} {γ : Nat → ClassId} {h : Hp} {L : List Nat} (hD : va_D A (wsO ρ γ h L)) {a c : Nat} (ha : a ∈ L) (hc : c ∈ L) (e : ρ a = ρ c) : a = c := by
  obtain ⟨i, hi⟩ := List.getElem?_of_mem ha
  obtain ⟨j, hj⟩ := List.getElem?_of_mem hc
  have := hD.1 i j _ _ (ws_at hi) (ws_at hj) e
  subst this
  rw [hi] at hj
  exact Option.some.inj hj
theorem va_D_of {A : Nat → Prop} {ρ : Nat → Nat} {γ : Nat → ClassId} {h : Hp} {L : List Nat} (hn : L.Nodup) (hi : ∀ a ∈ L, ∀ c ∈ L, ρ a = ρ c → a = c) (hA : ∀ a ∈ L, A (ρ a)) : va_D A (wsO ρ γ h L) := by
  have key : ∀ (i : Nat) (q : Nat × va_E), (wsO ρ γ h L)[i]? = some q → ∃ a, L[i]? = some a ∧ q.1 = ρ a := fun i q hq => by
    rw [wsO, List.getElem?_map] at hq
    cases ha : L[i]? with
    | none => rw [ha] at hq; cases hq
    | some a =>
      rw [ha] at hq
      cases hq
      exact ⟨a, rfl, rfl⟩
  refine ⟨fun i j p q hp hq e => ?_, fun k q hk => ?_⟩
  · obtain ⟨a, h1, e1⟩ := key i p hp
    obtain ⟨c, h2, e2⟩ := key j q hq
    have := hi a (List.mem_of_getElem? h1) c (List.mem_of_getElem? h2) (by rw [← e1, ← e2]; exact e)
    subst this
    exact (List.getElem?_inj (List.getElem?_eq_some_iff.mp h1).1 hn).mp (h1.trans h2.symm)
  · obtain ⟨a, h1, e1⟩ := key k q hk
    rw [e1]
    exact hA a (List.mem_of_getElem? h1)
section AD
variable {d y : Nat} {b : Bool} {pc n : Nat} {ls st : List Value} {h : Hp} {Q : Po}
set_option maxHeartbeats 4000000 in
theorem WdL.adopt {G : Gx} {ρ : Nat → Nat} {γ : Nat → ClassId} {s : State} {H H1 : Heap} {L : List Nat} (w : WdL G b ρ γ h s H L) {a x z q0 : Nat} (hq0 : L[q0]? = some a) (ek : K0 a = x) (hx13 : x < 13) (h2 : Nat.beq (fty x z) 2 = true) (h99 : 99 ∈ L) (hz : zon (R0 a z) = true) (hN : rN h a z = true) (hP : va_P G.1 vwCl ((wsO ρ γ h L).set q0 (ρ a, .inr (x, (fls ρ h a x).set z (.ref (ρ 99))))) H1) : WdL G b (va_up ρ (R0 a z) (ρ 99)) (va_up γ (R0 a z) (γ 99)) (adp h (R0 a z)) s H1 (L.filter (fun q => !(Nat.beq q 99))) := by
  obtain ⟨w1, w2, w3, w4, w5, w6, w7, w8, w9, w10⟩ := w
  have haL : a ∈ L := List.mem_of_getElem? hq0
  have ha152 : a < 152 := K0_lt (by omega)
  obtain ⟨hz40, hcL⟩ := w9 a haL z hN
  generalize hc : R0 a z = c at hz hcL ⊢
  have hc152 : c < 152 := by
    rcases w8 c hcL with q | q
    · exact K0_lt (by omega)
    · exact K0_lt (by omega)
  obtain ⟨kc, lc⟩ := zon_k c hc152 hz
  have hc99 : c ≠ 99 := by rw [← hc]; exact R0_99 a ha152 z hz40
  have hca : c ≠ a := fun e => by rw [e] at kc; omega
  have ha99 : a ≠ 99 := fun e => by rw [e] at ek; revert hx13; rw [← ek]; decide
  have hmem : ∀ q, q ∈ L.filter (fun q => !(Nat.beq q 99)) ↔ q ∈ L ∧ q ≠ 99 := fun q => by
    rw [List.mem_filter]
    refine and_congr_right (fun _ => ?_)
    cases e : Nat.beq q 99
    · refine ⟨fun _ h => ?_, fun _ => rfl⟩
      rw [h] at e
      cases e
    · exact ⟨fun h => (by cases h), fun h => absurd (Nat.eq_of_beq_eq_true e) h⟩
  have huq : ∀ a' k, a' ∈ L → rN h a' k = true → R0 a' k = c → a' = a ∧ k = z := fun a' k ha' hk e => by
    have h152 : a' < 152 := by
      rcases w8 a' ha' with q | q
      · exact K0_lt (by omega)
      · exact K0_lt (by omega)
    have hz' : zon (R0 a' k) = true := by rw [e]; exact hz
    have u1 := R0_uq a' h152 k (w9 a' ha' k hk).1 hz'
    have u2 := R0_uq a ha152 z hz40 (by rw [hc]; exact hz)
    rw [e] at u1
    rw [hc] at u2
    exact ⟨u1.1.trans u2.1.symm, u1.2.trans u2.2.symm⟩
  have eo : ∀ q ∈ L, q ≠ c → q ≠ a → ens (va_up ρ c (ρ 99)) (va_up γ c (γ 99)) (adp h c) q = ens ρ γ h q := fun q hq h1 h3 => by
    refine ens_cg ?_ rfl ?_ rfl (va_up_n h1) (fun k hk => va_up_n (fun e => h3 (huq q k hq hk e).1))
    · simp only [rI, adp]; rw [va_up_n h1]
    · simp only [rL, adp]; rw [va_up_n h1]
  have ec : ens (va_up ρ c (ρ 99)) (va_up γ c (γ 99)) (adp h c) c = ens ρ γ h 99 := by
    rw [ens_arr (by omega), ens_arr (by decide), cnt_i (Or.inl kc), cnt_i (Or.inl (by decide)), va_up_s]
    have e1 : al (adp h c) c = al h 99 := by
      simp only [al, lc, rL, adp, va_up_s]
      rfl
    rw [e1]
    simp only [rI, adp, va_up_s]
  have ea : ens (va_up ρ c (ρ 99)) (va_up γ c (γ 99)) (adp h c) a = .inr (x, (fls ρ h a x).set z (.ref (ρ 99))) := by
    rw [ens_obj (by omega), ek]
    have e0 : fvl (va_up ρ c (ρ 99)) (adp h c) a x z = .ref (ρ 99) := by
      have hN' : rN (adp h c) a z = true := hN
      simp only [fvl, h2, hN', cond_true, hc, va_up_s]
    rw [fls, fls, mrs (f := fvl ρ h a x) (g := fvl (va_up ρ c (ρ 99)) (adp h c) a x) (k := z), e0]
    intro j hj
    have eI : rI (adp h c) a = rI h a := by simp only [rI, adp]; rw [va_up_n (fun e => hca e.symm)]
    have eN : rN (adp h c) a j = rN h a j := rfl
    have eJ : rJ (adp h c) a j = rJ h a j := rfl
    simp only [fvl, eI, eN, eJ]
    cases q : rN h a j
    · rfl
    · rw [va_up_n (fun e => hj (huq a j haL q e).2)]
  have hlen : q0 < L.length := (List.getElem?_eq_some_iff.mp hq0).1
  have hsub : ∀ q ∈ wsO (va_up ρ c (ρ 99)) (va_up γ c (γ 99)) (adp h c) (L.filter (fun q => !(Nat.beq q 99))), q ∈ (wsO ρ γ h L).set q0 (ρ a, .inr (x, (fls ρ h a x).set z (.ref (ρ 99)))) := fun q hq => by
    obtain ⟨a', ha', rfl⟩ := List.mem_map.mp hq
    obtain ⟨ha'L, h99'⟩ := (hmem a').mp ha'
    by_cases e1 : a' = a
    · subst e1
      rw [ea, va_up_n (fun e => hca e.symm)]
      exact List.mem_of_getElem? (i := q0) (by rw [List.getElem?_set, if_pos rfl, if_pos (by rw [wsO, List.length_map]; exact hlen)])
    · have other : ∀ a1, a1 ∈ L → a1 ≠ a → (ρ a1, ens ρ γ h a1) ∈ (wsO ρ γ h L).set q0 (ρ a, .inr (x, (fls ρ h a x).set z (.ref (ρ 99)))) := fun a1 h1 hne => by
        obtain ⟨i, hi⟩ := List.getElem?_of_mem h1
        have hiq : q0 ≠ i := fun e => by subst e; rw [hq0] at hi; exact hne (Option.some.inj hi).symm
        exact List.mem_of_getElem? (i := i) (by rw [List.getElem?_set, if_neg hiq]; exact ws_at hi)
      by_cases e2 : a' = c
      · subst e2
        rw [ec, va_up_s]
        exact other 99 h99 (fun e => ha99 e.symm)
      · rw [eo a' ha'L e2 e1, va_up_n e2]
        exact other a' ha'L e1
  refine ⟨?_, ?_, w3, w4.sublist List.filter_sublist, fun q => ?_, va_P_of hP hsub, va_D_of (w4.sublist List.filter_sublist) ?_ ?_, fun q hq => ?_, fun q hq k hk => ?_, fun hb q k hk => ?_⟩
  · rw [← w1]; simp only [rI, adp]; rw [va_up_n (fun e => by rw [← e] at kc; revert kc; decide)]
  · rw [← w2]; simp only [rL, adp]; rw [va_up_n (fun e => by rw [← e] at kc; revert kc; decide)]
  · rw [hmem]
    simp only [rD, adp]
    by_cases e : q = 99
    · subst e; rw [va_up_s]; exact ⟨fun h => absurd rfl h.2, fun h => by cases h⟩
    · rw [va_up_n e]; exact ⟨fun h => (w5 q).mp h.1, fun h => ⟨(w5 q).mpr h, e⟩⟩
  · intro a1 h1 a2 h2 e
    obtain ⟨m1, n1⟩ := (hmem a1).mp h1
    obtain ⟨m2, n2⟩ := (hmem a2).mp h2
    by_cases e1 : a1 = c
    · by_cases e2 : a2 = c
      · rw [e1, e2]
      · rw [e1, va_up_s, va_up_n e2] at e
        exact absurd (rho_inj w7 h99 m2 e) (fun q => n2 q.symm)
    · by_cases e2 : a2 = c
      · rw [e2, va_up_s, va_up_n e1] at e
        exact absurd (rho_inj w7 m1 h99 e) n1
      · rw [va_up_n e1, va_up_n e2] at e
        exact rho_inj w7 m1 m2 e
  · intro a1 h1
    obtain ⟨m1, n1⟩ := (hmem a1).mp h1
    have hA : ∀ a2 ∈ L, Ab G.2.1 (ρ a2) := fun a2 h2 => by
      obtain ⟨i, hi⟩ := List.getElem?_of_mem h2
      exact w7.2 i _ (ws_at hi)
    by_cases e1 : a1 = c
    · rw [e1, va_up_s]; exact hA 99 h99
    · rw [va_up_n e1]; exact hA a1 m1
  · obtain ⟨m1, n1⟩ := (hmem q).mp hq
    by_cases e1 : q = c
    · rw [e1, va_up_s, kc]
      rcases w8 99 h99 with q9 | q9
      · exact absurd q9 (by decide)
      · exact Or.inr ⟨by omega, by omega, q9.2.2.1, q9.2.2.2⟩
    · rw [va_up_n e1]; exact w8 q m1
  · obtain ⟨m1, n1⟩ := (hmem q).mp hq
    obtain ⟨k1, k2⟩ := w9 q m1 k hk
    have h152 : q < 152 := by
      rcases w8 q m1 with u | u
      · exact K0_lt (by omega)
      · exact K0_lt (by omega)
    exact ⟨k1, (hmem _).mpr ⟨k2, R0_99 q h152 k k1⟩⟩
  · obtain ⟨k1, k2⟩ := w10 hb q k hk
    exact ⟨(hmem q).mpr ⟨k1, fun e => by rw [e] at hk; cases hk⟩, k2⟩
theorem sx_adopt {x z a : Nat} {r : List Value} (hk : ∃ k, dcd y pc (.putfield k) 3 ∧ n = 3 ∧ fpn y k x z) (h2 : Nat.beq (fty x z) 2 = true) (ek : K0 a = x) (hz : zon (R0 a z) = true) (hr : ren y = true) (hls : ls.all (nzz (R0 a z)) = true) (hrs : r.all (nzz (R0 a z)) = true) (hN : rN h a z = true) (H : PsO d y Q b (pc + n) ls r (adp h (R0 a z))) : PsO d y Q b pc ls (.ref 99 :: .ref a :: r) h := by
  obtain ⟨q, h', hq, hX⟩ := H
  obtain ⟨k, hd, rfl, hf⟩ := hk
  have hx13 : x < 13 := hf.1
  have hty : ∀ q : Nat, narrow (cY x z) (.ref q) = .ref q ∧ fits (cY x z) (.ref q) = true := by
    have e1 := Nat.eq_of_beq_eq_true h2
    rcases cY_fty x hf.1 z hf.2.1 with ⟨e, -⟩ | ⟨e, -⟩ | ⟨e, -⟩ | ⟨-, ⟨t, hy⟩ | ⟨t, hy⟩⟩
    · omega
    · omega
    · omega
    · intro q; rw [hy]; exact ⟨rfl, rfl⟩
    · intro q; rw [hy]; exact ⟨rfl, rfl⟩
  refine ⟨q, h', hq, hX.1, hX.2.1, fun {G b0 ρ0 h0 R p l e s m args below meth c ρ γ H arr locs} iv g1 g2 => ?_⟩
  obtain ⟨L, w⟩ := iv.2.2.2.2.1
  have hst := iv.2.2.2.2.2.2.2.1
  have ha : a ∈ L := (w.2.2.2.2.1 a).mpr (live_of (head_ok (tail_ok hst)) (by omega))
  have h99 : 99 ∈ L := (w.2.2.2.2.1 99).mpr (live_of (head_ok hst) (by decide))
  obtain ⟨q0, hq0⟩ := List.getElem?_of_mem ha
  have hc10 : 10 ≤ R0 a z := by
    have hcL := (w.2.2.2.2.2.2.2.2.1 a ha z hN).2
    rcases w.2.2.2.2.2.2.2.1 _ hcL with q | q
    · exact ten_le (by omega)
    · exact ten_le (by omega)
  have nz : ∀ (l : List Value), l.all (nzz (R0 a z)) = true → ∀ v ∈ l, ∀ c, v = .ref c → c ≠ R0 a z ∧ c ≠ 99 := fun l hl v hv c e => by
    have := List.all_eq_true.mp hl v hv
    subst e
    simp only [nzz, Bool.and_eq_true, Bool.not_eq_true'] at this
    exact ⟨fun e => by rw [e] at this; have := this.1; simp at this, fun e => by rw [e] at this; have := this.2; simp at this⟩
  have rvn : ∀ (l : List Value), l.all (nzz (R0 a z)) = true → ∀ v ∈ l, rv (va_up ρ (R0 a z) (ρ 99)) v = rv ρ v := fun l hl v hv => by
    cases v <;> first | rfl | (simp only [rv]; rw [va_up_n (nz l hl _ hv _ rfl).1]) | (simp only [rv]; rw [va_up_n (by omega)])
  have lkn : ∀ (l : List Value), l.all (nzz (R0 a z)) = true → (∀ v ∈ l, lok h v) → ∀ v ∈ l, lok (adp h (R0 a z)) v := fun l hl ho v hv => by
    have h1 := ho v hv
    have h2 := nz l hl v hv
    cases v with
    | ref c =>
      refine h1.imp id (fun q => ?_)
      simp only [rD, adp]
      rw [va_up_n (h2 c rfl).2]
      exact q
    | _ => exact h1
  refine X_put (v := .ref (ρ 99)) iv.1 iv.2.2.1 w iv.2.2.2.2.2.2.2.2.1 hq0 ek hd hf (hty _).1 (hty _).2 (fun H1 locs1 hP hD hS => ?_)
  obtain ⟨i1, i2, i3, i4, i5, i6, i7, i8, i9, i10, i11, i12, i13⟩ := iv
  have iv2 : IvO G d y b0 b ρ0 h0 R p s m args meth c (va_up ρ (R0 a z) (ρ 99)) (va_up γ (R0 a z) (γ 99)) (adp h (R0 a z)) H1 arr ls r locs1 := by
    refine ⟨i1, i2, i3, i4.rho (fun c hc => va_up_n (by omega)), ⟨_, w.adopt hq0 ek hx13 h2 h99 hz hN hP⟩, i6.rho (h := h) (rvn ls hls), lkn ls hls i7, lkn r hrs (tail_ok (tail_ok i8)), hS, i10.tr ⟨fun c hc => va_up_n (by omega), fun c hc => ?_⟩, i11, i12, i13⟩
    by_cases e1 : c = R0 a z
    · rw [e1, hr, hz]; exact Or.inl rfl
    · by_cases e2 : c = 99
      · rw [e2, hr]; exact Or.inl rfl
      · refine Or.inr ⟨va_up_n e1, ?_⟩
        simp only [rD, adp]
        rw [va_up_n e2]
        exact hc
  have em : r.map (rv (va_up ρ (R0 a z) (ρ 99))) = r.map (rv ρ) := List.map_congr_left (rvn r hrs)
  rw [← em]
  exact hX.2.2 iv2 g1 g2
theorem sx_copy (hk : ∃ k, dcd y pc (.invokestatic k) 3 ∧ n = 3 ∧ Cond.methodLink (nm y).cls k arraycopyName ∈ gtb) (hw1 : Cond.native arraycopyName ∈ gtb) (hw2 : Cond.static arraycopyName ∈ gtb) (hw3 : Cond.initialized "java/lang/System" ∈ gtb) (H : pcp st fun a0 sp a dp c r => okb (Nat.beq (K0 a0) 20 && Nat.beq (K0 a) 20 && Nat.ble (csm r) 8) (¬ sp < 0 ∧ ¬ dp < 0 ∧ ¬ c < 0 ∧ sp.toNatClampNeg + c.toNatClampNeg ≤ al h a0 ∧ dp.toNatClampNeg + c.toNatClampNeg ≤ al h a ∧ PsO d y Q b (pc + n) ls r (uA h a (va_cpy (rI h a0) (rI h a) sp.toNatClampNeg dp.toNatClampNeg c.toNatClampNeg)))) : PsO d y Q b pc ls st h := by
  obtain ⟨a0, sp, a, dp, cc, r, rfl, H⟩ := pcp_e H
  obtain ⟨ek, g1, g2, g3, g4, g5, q, h', hq, hX⟩ := okb_e H
  obtain ⟨k, hd, rfl, hlk⟩ := hk
  rw [Bool.and_eq_true, Bool.and_eq_true] at ek
  obtain ⟨⟨k0, k1⟩, hcs⟩ := ek
  have k0 := Nat.eq_of_beq_eq_true k0
  have k1 := Nat.eq_of_beq_eq_true k1
  have hcs : csm r ≤ 8 := Nat.le_of_ble_eq_true hcs
  refine ⟨q, h', hq, hX.1, hX.2.1, fun {G b0 ρ0 h0 R p l e s m args below meth c ρ γ H arr locs} iv z1 z2 => ?_⟩
  obtain ⟨L, w⟩ := iv.2.2.2.2.1
  have hts := iv.1.2.2.2.2.2.1
  have hst := iv.2.2.2.2.2.2.2.1
  have ha0 : a0 ∈ L := (w.2.2.2.2.1 a0).mpr (live_of (head_ok (tail_ok (tail_ok (tail_ok (tail_ok hst))))) (by omega))
  have ha : a ∈ L := (w.2.2.2.2.1 a).mpr (live_of (head_ok (tail_ok (tail_ok hst))) (by omega))
  obtain ⟨p0, hp0⟩ := List.getElem?_of_mem ha0
  obtain ⟨p1, hp1⟩ := List.getElem?_of_mem ha
  have he0 := ws_at (ρ := ρ) (γ := γ) (h := h) hp0
  have he1 := ws_at (ρ := ρ) (γ := γ) (h := h) hp1
  rw [ens_arr (by omega), cnt_i (Or.inl k0)] at he0
  rw [ens_arr (by omega), cnt_i (Or.inl k1)] at he1
  rcases w.2.2.2.2.2.2.2.1 a0 ha0 with u | ⟨-, -, t1, t2⟩
  · omega
  rcases w.2.2.2.2.2.2.2.1 a ha with u | ⟨-, -, t3, t4⟩
  · omega
  rw [k0] at t1 t2
  rw [k1] at t3 t4
  have hsum : ((r.map (rv ρ)).map fun v => v.category).sum = csm r := by
    rw [csm, List.map_map]
    congr 1
    exact List.map_congr_left (fun v _ => rv_cat ρ v)
  refine va_copyi (ty := .int) iv.1.1 iv.1.2.1 (iv.1.2.2.2.1.trans iv.2.2.2.2.2.1.1.symm) iv.1.2.2.2.2.1 (hts _ hlk) (hts _ hw1) (hts _ hw2) (hts _ hw3) (K2 w.2.2.1 t1 t2 t3 t4) w.2.2.2.2.2.1 w.2.2.2.2.2.2.1 iv.2.2.2.2.2.2.2.2.1 p0 p1 0 1 he0 he1 rfl rfl rfl g1 g2 g3 g4 g5 (fun _ _ => rfl) (by have := iv.2.1.1; omega) ?_ hd (fun H1 locs1 hP hD hS => hX.2.2 (iv.hp ⟨L, w.set hp1 ?_ (fun c _ hc => ens_uA hc) hP hD (uA_0 (by omega)) rfl rfl (fun c _ k hk => Or.inl hk) (fun c k hk => hk)⟩ hS rfl rfl rfl (tail_ok (tail_ok (tail_ok (tail_ok (tail_ok hst)))))) z1 z2)
  · show ((r.map (rv ρ)).map fun v => v.category).sum + (nativeFrameWords "java/lang/System" "arraycopy" 5 + 11) ≤ R.locals
    rw [hsum]
    have h1 := iv.2.1.2
    have h2 : nativeFrameWords "java/lang/System" "arraycopy" 5 + 11 ≤ 18 := by decide
    omega
  · rw [ens_arr (by omega), cnt_i (Or.inl k1)]
    simp only [rI, uA, va_up_s]
    rfl
theorem sx_oinit (hk : ∃ k, dcd y pc (.invokespecial k) 3 ∧ n = 3 ∧ Cond.methodLink (nm y).cls k objectInit ∈ gtb) (hw1 : Cond.instanceMethod objectInit ∈ gtb) (hw2 : Cond.code objectInit ⟨#[0xb1]⟩ 1 none ∈ gtb) (H : pr st fun _ r => okb (Nat.ble (csm r) 8) (PsO d y Q b (pc + n) ls r h)) : PsO d y Q b pc ls st h := by
  obtain ⟨a, r, rfl, H⟩ := pr_e H
  obtain ⟨ek, q, h', hq, hX⟩ := okb_e H
  have hcs : csm r ≤ 8 := Nat.le_of_ble_eq_true ek
  obtain ⟨k, hd, rfl, hlk⟩ := hk
  refine ⟨q, h', hq, hX.1, hX.2.1, fun {G b0 ρ0 h0 R p l e s m args below meth c ρ γ H arr locs} iv z1 z2 => ?_⟩
  have hts := iv.1.2.2.2.2.2.1
  have hsum : ((r.map (rv ρ)).map fun v => v.category).sum = csm r := by
    rw [csm, List.map_map]
    congr 1
    exact List.map_congr_left (fun v _ => rv_cat ρ v)
  refine W.objInit (g := F0 m pc arr (.ref (ρ a) :: r.map (rv ρ))) (rest := r.map (rv ρ)) iv.1.1 iv.1.2.1 iv.1.2.2.2.2.1 (hts _ hlk) (hts _ hw1) (hts _ hw2) rfl (iv.2.2.2.2.2.1.1.trans iv.1.2.2.2.1.symm) rfl hd (by have := iv.2.1.1; omega) ?_ (hX.2.2 (iv.st (tail_ok iv.2.2.2.2.2.2.2.1)) z1 z2)
  show 2 * 0 + ((r.map (rv ρ)).map fun v => v.category).sum + 12 ≤ R.locals
  rw [hsum]
  have h1 := iv.2.1.2
  omega
theorem sx_strget {x : Nat} (hk : ∃ k, dcd y pc (.getfield k) 3 ∧ n = 3 ∧ ((x = 0 ∧ Cond.fieldLink (nm y).cls k "java/lang/String" "value" "[B" ∈ gtb) ∨ (x = 1 ∧ Cond.fieldLink (nm y).cls k "java/lang/String" "coder" "B" ∈ gtb))) (H : pr st fun a r => okb (Nat.beq (K0 a) 31) (bif Nat.beq x 0 then PsO d y Q b (pc + n) ls (.ref (R0 a 0) :: r) h else PsO d y Q b (pc + n) ls (.int 0 :: r) h)) : PsO d y Q b pc ls st h := by
  obtain ⟨a, r, rfl, H⟩ := pr_e H
  obtain ⟨ek, H⟩ := okb_e H
  obtain ⟨j, hj, rfl⟩ := K0_31j (Nat.eq_of_beq_eq_true ek)
  obtain ⟨k, hd, rfl, hf⟩ := hk
  have eR : R0 (1 + j) 0 = 5 + j := by
    rcases (show j = 0 ∨ j = 1 ∨ j = 2 ∨ j = 3 by omega) with rfl | rfl | rfl | rfl <;> rfl
  have hR10 : R0 (1 + j) 0 < 10 := by rw [eR]; omega
  rcases hf with ⟨rfl, hl⟩ | ⟨rfl, hl⟩
  · obtain ⟨q, h', hq, hX⟩ := H
    refine ⟨q, h', hq, X_st hX (fun hs => cons_ok (Or.inl hR10 : lok h (.ref (R0 (1 + j) 0))) (tail_ok hs)) (fun {G b0 ρ0 h0 R p l e s m args below meth c ρ γ H arr locs cells slots Qf} iv kk => ?_)⟩
    have hts := iv.2.2.2.1.2.2.2.1 j hj
    refine vk_getf (v := .ref (ρ (5 + j))) iv.1.1 iv.1.2.1 hts.2.2.2.1 iv.2.2.2.2.2.2.2.2.1 iv.1.2.2.2.2.1 (iv.1.2.2.2.2.2.1 _ hl) (fun _ h => h) hd ?_
    simp only [List.map_cons, rv, eR] at kk
    exact kk
  · obtain ⟨q, h', hq, hX⟩ := H
    refine ⟨q, h', hq, X_st hX (fun hs => cons_ok trivial (tail_ok hs)) (fun {G b0 ρ0 h0 R p l e s m args below meth c ρ γ H arr locs cells slots Qf} iv kk => ?_)⟩
    have hts := iv.2.2.2.1.2.2.2.1 j hj
    exact vk_getf (v := .int 0) iv.1.1 iv.1.2.1 hts.2.2.1 iv.2.2.2.2.2.2.2.2.1 iv.1.2.2.2.2.1 (iv.1.2.2.2.2.2.1 _ hl) (fun _ h => h) hd kk
theorem sx_getstatic {x : Nat} (hk : ∃ k, dcd y pc (.getstatic k) 3 ∧ n = 3 ∧ ((x = 0 ∧ Cond.fieldLink (nm y).cls k "java/lang/String" "COMPACT_STRINGS" "Z" ∈ gtb) ∨ (x = 1 ∧ Cond.fieldLink (nm y).cls k "jdk/internal/util/Preconditions" "SIOOBE_FORMATTER" "Ljava/util/function/BiFunction;" ∈ gtb))) (H : bif Nat.beq x 0 then PsO d y Q b (pc + n) ls (.int 1 :: st) h else PsO d y Q b (pc + n) ls (.retAddr 1 :: st) h) : PsO d y Q b pc ls st h := by
  obtain ⟨k, hd, rfl, hf⟩ := hk
  rcases hf with ⟨rfl, hl⟩ | ⟨rfl, hl⟩
  · obtain ⟨q, h', hq, hX⟩ := H
    exact ⟨q, h', hq, X_st hX (fun hs => cons_ok trivial hs) (fun iv kk => va_gets (v := .int 1) iv.1.1 iv.1.2.1 iv.2.2.2.1.2.2.2.2.1 iv.2.2.2.2.2.2.2.2.1 iv.1.2.2.2.2.1 (iv.1.2.2.2.2.2.1 _ hl) (fun _ h => h) hd kk)⟩
  · obtain ⟨q, h', hq, hX⟩ := H
    exact ⟨q, h', hq, X_st hX (fun hs => cons_ok trivial hs) (fun iv kk => va_gets (v := fm_v _) iv.1.1 iv.1.2.1 iv.2.2.2.1.2.2.2.2.2 iv.2.2.2.2.2.2.2.2.1 iv.1.2.2.2.2.1 (iv.1.2.2.2.2.2.1 _ hl) (fun _ h => h) hd kk)⟩
theorem lks_e {v : Int} {K : Nat → Prop} {dd : Nat} {pc : Int} {d' : Int} (e1 : pc + d' = (dd : Int)) : ∀ (os : List (Int × Int)) (os' : List (Int × Int)), os = os'.map (fun o => (o.1, pc + o.2)) → os.all (fun o => decide (0 ≤ o.2)) = true → lks v K dd os → ∃ t : Nat, K t ∧ pc + Op.lookupswitch.offset os' d' v = (t : Int) := by
  intro os os'
  induction os' generalizing os with
  | nil =>
    intro e _ h
    subst e
    exact ⟨dd, h, e1⟩
  | cons o os' ih =>
    intro e hp h
    subst e
    obtain ⟨a, f⟩ := o
    simp only [List.map_cons, List.all_cons, Bool.and_eq_true, decide_eq_true_eq] at hp
    rw [Op.lookupswitch.offset_cons]
    by_cases hv : a = v
    · rw [if_pos hv]
      exact ⟨(pc + f).toNat, h.1 hv.symm, by have := hp.1; omega⟩
    · rw [if_neg hv]
      exact ih _ rfl hp.2 (h.2 (fun e => hv e.symm))
theorem sx_lookup {dd : Int} {os : Array (Int × Int)} (hk : ∃ (d' : Int) (os' : Array (Int × Int)) (len : Nat), dcd y pc (.lookupswitch d' os') len ∧ (pc : Int) + d' = dd ∧ 0 ≤ dd ∧ os.toList = os'.toList.map (fun o => (o.1, (pc : Int) + o.2)) ∧ os.toList.all (fun o => decide (0 ≤ o.2)) = true ∧ (os'.toList.zip (os'.toList.drop 1)).all (fun (a, next) => a.1 < next.1) = true) (H : p1i st fun v r => lks v.toInt (fun t => PsO d y Q b t ls r h) dd.toNat os.toList) : PsO d y Q b pc ls st h := by
  obtain ⟨v, r, rfl, H⟩ := p1i_e H
  obtain ⟨d', os', len, hd, e1, e2, e3, e4, e5⟩ := hk
  obtain ⟨t, ⟨q, h', hq, hX⟩, ht⟩ := lks_e (pc := (pc : Int)) (d' := d') (by rw [e1]; omega) os.toList os'.toList e3 e4 H
  exact ⟨q, h', hq, X_st hX (fun hs => tail_ok hs) (fun iv k => lv_lookup iv.1.1 iv.1.2.1 hd e5 rfl ht k)⟩
end AD
