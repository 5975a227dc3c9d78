/-! New cells. -/
theorem rv_ag {h : Hp} {ρ ρ' : Nat → Nat} (hr : ∀ c, (c < 10 ∨ rD h c = true) → ρ' c = ρ c) {v : Value} (hv : lok h v) : rv ρ' v = rv ρ v := by
  cases v <;> first | rfl | (simp only [rv]; rw [hr _ hv]) | (simp only [rv]; rw [hr 9 (Or.inl (by omega))])
theorem map_ag {h : Hp} {ρ ρ' : Nat → Nat} (hr : ∀ c, (c < 10 ∨ rD h c = true) → ρ' c = ρ c) {st : List Value} (hs : ∀ v ∈ st, lok h v) : st.map (rv ρ') = st.map (rv ρ) := List.map_congr_left (fun v hv => rv_ag hr (hs v hv))
theorem LRo.rho {h : Hp} {ρ ρ' : Nat → Nat} {arr : Array Slot} {n : Nat} {ls : List Value} (hr : ∀ v ∈ ls, rv ρ' v = rv ρ v) (hL : LRo ρ arr n ls) : LRo ρ' arr n ls :=
  ⟨hL.1, hL.2.1, hL.2.2.1, fun i v hv hm => by rw [hr v (List.mem_of_getElem? hv)]; exact hL.2.2.2 i v hv hm⟩
theorem K0_lt {a : Nat} (h : K0 a < 30) : a < 152 := by
  rcases Nat.lt_or_ge a 152 with q | q
  · exact q
  · rw [K0_big q] at h; omega
theorem ten_le {a : Nat} (h : K0 a < 30) : 10 ≤ a := by
  rcases Nat.lt_or_ge a 10 with q | q
  · have := k_ro a q; omega
  · exact q
theorem nwH_ens {ρ : Nat → Nat} {γ : Nat → ClassId} {h : Hp} {a c n q : Nat} {cA : ClassId} (hc : c ≠ a) (hr : ∀ k, rN h c k = true → R0 c k ≠ a) : ens (va_up ρ a q) (va_up γ a cA) (nwH h a n) c = ens ρ γ h c := by
  refine ens_cg ?_ ?_ ?_ ?_ ?_ (fun k hk => va_up_n (hr k hk))
  · simp only [rI, nwH]; rw [va_up_n hc]
  · simp only [rJ, nwH]; rw [va_up_n hc]
  · simp only [rL, nwH]; rw [va_up_n hc]
  · simp only [rN, nwH]; rw [va_up_n hc]
  · exact va_up_n hc
theorem WdL.add {G : Gx} {b : Bool} {ρ : Nat → Nat} {γ : Nat → ClassId} {h : Hp} {s : State} {H H1 : Heap} {L : List Nat} (w : WdL G b ρ γ h s H L) {a n q : Nat} {cA : ClassId} (hdead : rD h a = false) (hk : K0 a ≤ 12 ∨ (20 ≤ K0 a ∧ K0 a ≤ 27 ∧ ArrOfT s cA (aty (K0 a)) ∧ va_RA s cA (aty (K0 a)))) (hP : va_P G.1 vwCl (wsO ρ γ h L ++ [(q, ens (va_up ρ a q) (va_up γ a cA) (nwH h a n) a)]) H1) (hD : va_D (Ab G.2.1) (wsO ρ γ h L ++ [(q, ens (va_up ρ a q) (va_up γ a cA) (nwH h a n) a)])) : WdL G b (va_up ρ a q) (va_up γ a cA) (nwH h a n) s H1 (L ++ [a]) := by
  obtain ⟨w1, w2, w3, w4, w5, w6, w7, w8, w9, w10⟩ := w
  have hk30 : K0 a < 30 := by rcases hk with q | q <;> omega
  have h10 := ten_le hk30
  have haL : a ∉ L := fun q => by rw [(w5 a).mp q] at hdead; cases hdead
  have hne : ∀ c ∈ L, c ≠ a := fun c hc e => haL (e ▸ hc)
  have e : wsO (va_up ρ a q) (va_up γ a cA) (nwH h a n) (L ++ [a]) = wsO ρ γ h L ++ [(q, ens (va_up ρ a q) (va_up γ a cA) (nwH h a n) a)] := by
    rw [wsO, List.map_append, wsO]
    congr 1
    · refine List.map_congr_left (fun c hc => ?_)
      rw [va_up_n (hne c hc), nwH_ens (hne c hc) (fun k hk e => haL (e ▸ (w9 c hc k hk).2))]
    · simp only [List.map_cons, List.map_nil, va_up_s]
  rw [← e] at hP hD
  refine ⟨?_, ?_, w3, ?_, fun c => ?_, hP, hD, fun c hc => ?_, fun c hc k hk => ?_, fun hb c k hk => ?_⟩
  · rw [← w1]; simp only [rI, nwH]; rw [va_up_n (by omega)]
  · rw [← w2]; simp only [rL, nwH]; rw [va_up_n (by omega)]
  · exact List.nodup_append.mpr ⟨w4, by simp, fun x hx z hz => by rw [List.mem_singleton.mp hz]; exact hne x hx⟩
  · rw [List.mem_append, List.mem_singleton]
    simp only [rD, nwH]
    by_cases hc : c = a
    · rw [hc, va_up_s]; exact ⟨fun _ => rfl, fun _ => Or.inr rfl⟩
    · rw [va_up_n hc]
      exact ⟨fun q => (w5 c).mp (q.resolve_right hc), fun q => Or.inl ((w5 c).mpr q)⟩
  · rcases List.mem_append.mp hc with hc | hc
    · rw [va_up_n (hne c hc)]
      exact w8 c hc
    · rw [List.mem_singleton.mp hc, va_up_s]
      exact hk
  · rcases List.mem_append.mp hc with hc | hc
    · simp only [rN, nwH] at hk
      rw [va_up_n (hne c hc)] at hk
      exact ⟨(w9 c hc k hk).1, List.mem_append_left _ (w9 c hc k hk).2⟩
    · rw [List.mem_singleton.mp hc] at hk
      simp only [rN, nwH] at hk
      rw [va_up_s] at hk
      cases hk
  · obtain ⟨q1, q2⟩ := w10 hb c k hk
    refine ⟨List.mem_append_left _ q1, ?_⟩
    simp only [rN, nwH]
    rw [va_up_n (hne c q1)]
    exact q2
theorem IvO.al {G : Gx} {d y : Nat} {b0 b : Bool} {ρ0 : Nat → Nat} {h0 : Hp} {R : Room} {p : Program} {s : State} {m : MethodId} {args : Array Value} {meth : Method} {c : Code} {ρ : Nat → Nat} {γ γ' : Nat → ClassId} {h : Hp} {H H1 : Heap} {arr : Array Slot} {ls st st' : List Value} {locs : List Loc} {a n q : Nat} (iv : IvO G d y b0 b ρ0 h0 R p s m args meth c ρ γ h H arr ls st locs) (hdead : rD h a = false) (hk30 : K0 a < 30) (hw : WdO G b (va_up ρ a q) γ' (nwH h a n) s H1) (hS : va_S (Ab G.2.1) s.heap H1 locs) (hs : ∀ v ∈ st', lok h v) : IvO G d y b0 b ρ0 h0 R p s m args meth c (va_up ρ a q) γ' (nwH h a n) H1 arr ls (.ref a :: st') locs ∧ ((.ref a :: st').map (rv (va_up ρ a q)) = .ref q :: st'.map (rv ρ)) := by
  have h10 := ten_le hk30
  have hag : ∀ c, (c < 10 ∨ rD h c = true) → va_up ρ a q c = ρ c := fun c hc => va_up_n (fun e => by
    subst e
    rcases hc with hc | hc
    · omega
    · rw [hc] at hdead; cases hdead)
  have hup : ∀ c, rD h c = true → rD (nwH h a n) c = true := fun c hc => by
    simp only [rD, nwH]
    by_cases e : c = a
    · rw [e, va_up_s]
    · rw [va_up_n e]; exact hc
  have hlok : ∀ v, lok h v → lok (nwH h a n) v := fun v hv => by
    cases v <;> first | exact hv | exact hv.imp id (hup _)
  obtain ⟨i1, i2, i3, i4, i5, i6, i7, i8, i9, i10, i11, i12, i13⟩ := iv
  refine ⟨⟨i1, i2, i3, i4.rho (fun c hc => hag c (Or.inl hc)), hw, i6.rho (h := h) (fun v hv => rv_ag hag (i7 v hv)), fun v hv => hlok v (i7 v hv), cons_ok (Or.inr ?_) (fun v hv => hlok v (hs v hv)), hS, i10.tr ⟨fun c hc => hag c (Or.inl hc), fun c hc => Or.inr ⟨hag c (Or.inr hc), hup c hc⟩⟩, ?_, ?_, i13⟩, ?_⟩
  · simp only [rD, nwH, va_up_s]
  · show rC h0 ≤ rC h + 1
    omega
  · show rS h0 ≤ rS h + n
    omega
  · rw [List.map_cons, map_ag hag hs]
    simp only [rv, va_up_s]
section AL
variable {d y : Nat} {b : Bool} {pc n : Nat} {ls st : List Value} {h : Hp} {Q : Po}
theorem sx_new {x : Nat} (hk : ∃ k, dcd y pc (.new k) 3 ∧ n = 3 ∧ x < 13 ∧ Cond.classLink (nm y).cls k (cN x) ∈ gtb) (H : ∃ a, K0 a = x ∧ rD h a = false ∧ PsO d y Q b (pc + n) ls (.ref a :: st) (nwH h a (nfl x))) : PsO d y Q b pc ls st h := by
  obtain ⟨a, ek, hdead, q, h', hq, hX⟩ := H
  obtain ⟨k, hd, rfl, hx13, hcl⟩ := hk
  have hC : rC h + 1 ≤ rC h' := hX.1
  have hSl : rS h + nfl x ≤ rS h' := hX.2.1
  refine ⟨q, h', hq, by omega, by omega, fun {G b0 ρ0 h0 R p l e s m args below meth c ρ γ H arr locs} iv g1 g2 => ?_⟩
  obtain ⟨L, w⟩ := iv.2.2.2.2.1
  have hts := iv.1.2.2.2.2.2.1
  have i11 := iv.2.2.2.2.2.2.2.2.2.2.1
  have i12 := iv.2.2.2.2.2.2.2.2.2.2.2.1
  have hA : ∀ q, s.heap.size ≤ q → Ab G.2.1 q := fun q hq => Nat.le_trans iv.2.2.2.1.2.2.1 hq
  refine va_new (c0 := c) (Ts := gtb) (fs := fls ρ (nwH h a (nfl x)) a x) iv.1.1 iv.1.2.1 hts (ly x hx13) (cY x) (cY_ok x hx13) iv.1.2.2.2.2.1 (hts _ hcl) (hts _ (ins_c x hx13)) (hts _ (ini_c x hx13)) w.2.2.1 w.2.2.2.2.2.1 w.2.2.2.2.2.2.1 iv.2.2.2.2.2.2.2.2.1 hA (vw_c x hx13) (fun j hj => ?_) (by omega) (by omega) hd (fun qa H1 hP hD hS => ?_)
  · have e1 : vp_V (fls ρ (nwH h a (nfl x)) a x) j = fvl ρ (nwH h a (nfl x)) a x j := by
      rw [vp_V, List.getD_eq_getElem?_getD, fls_get hj]; rfl
    rw [e1]
    simp only [fvl, rI, rJ, rN, nwH, va_up_s]
    rcases cY_fty x hx13 j hj with ⟨e, hy⟩ | ⟨e, hy⟩ | ⟨e, hy⟩ | ⟨e, ⟨t, hy⟩ | ⟨t, hy⟩⟩ <;> (rw [e, hy]; rfl)
  · have e2 : ens (va_up ρ a qa) (va_up γ a 0) (nwH h a (nfl x)) a = .inr (x, fls ρ (nwH h a (nfl x)) a x) := by
      rw [ens_obj (by omega), ek]
      congr 2
      refine List.map_congr_left (fun j _ => ?_)
      simp only [fvl, rN, nwH, va_up_s, cond_false]
    rw [← e2] at hP hD
    obtain ⟨iv2, em⟩ := iv.al (q := qa) (n := nfl x) (γ' := va_up γ a 0) hdead (by omega) ⟨_, w.add (n := nfl x) (cA := 0) hdead (Or.inl (by omega)) hP hD⟩ hS iv.2.2.2.2.2.2.2.1
    refine W.cs (cells' := rC (nwH h a (nfl x)) - rC h0) (slots' := rS (nwH h a (nfl x)) - rS h0) (by show rC h - rC h0 + 1 = rC h + 1 - rC h0; omega) (by show rS h - rS h0 + nfl x = rS h + nfl x - rS h0; omega) ?_
    rw [← em]
    exact hX.2.2 iv2 g1 g2
theorem nwA_ens {ρ : Nat → Nat} {γ : Nat → ClassId} {a N : Nat} (hk : 20 ≤ K0 a) (hl : L0 a = 0 ∨ L0 a = N) : ens ρ γ (nwH h a N) a = .inl (γ a, (N, bif Nat.beq (K0 a) 21 then .inr (.inl (fun _ => 0)) else bif akd (K0 a) then .inr (.inr (.inr (.inr (fun _ => none)))) else .inl (fun _ => 0))) := by
  rw [ens_arr hk]
  have e1 : al (nwH h a N) a = N := by
    simp only [al, rL, nwH, va_up_s]
    rcases hl with e | e
    · rw [e]; rfl
    · rw [e]
      cases Nat.beq N 0 <;> rfl
  rw [e1]
  simp only [cnt, rI, rJ, rN, nwH, va_up_s, cond_false]
theorem sx_newarray {x : Nat} {t : ArrayType} (hk : dcd y pc (.newarray t) 2 ∧ n = 2 ∧ 20 ≤ x ∧ x ≤ 23 ∧ newarray.typeOf t = aty x ∧ Cond.arrayClass (newarray.typeOf t) ∈ gtb) (H : p1i st fun v r => ∃ a, K0 a = x ∧ rD h a = false ∧ ¬ v < 0 ∧ (L0 a = 0 ∨ L0 a = v.toNatClampNeg) ∧ v.toNatClampNeg ≤ 1000000 ∧ PsO d y Q b (pc + n) ls (.ref a :: r) (nwH h a v.toNatClampNeg)) : PsO d y Q b pc ls st h := by
  obtain ⟨v, r, rfl, a, ek, hdead, hv0, hl, hbig, q, h', hq, hX⟩ := p1i_e H
  obtain ⟨hd, rfl, hx1, hx2, hty, hac⟩ := hk
  have hC : rC h + 1 ≤ rC h' := hX.1
  have hSl : rS h + v.toNatClampNeg ≤ rS h' := hX.2.1
  refine ⟨q, h', hq, by omega, by omega, fun {G b0 ρ0 h0 R p l e s m args below meth c ρ γ H arr locs} iv g1 g2 => ?_⟩
  obtain ⟨L, w⟩ := iv.2.2.2.2.1
  have hts := iv.1.2.2.2.2.2.1
  have i11 := iv.2.2.2.2.2.2.2.2.2.2.1
  have i12 := iv.2.2.2.2.2.2.2.2.2.2.2.1
  have hA : ∀ q, s.heap.size ≤ q → Ab G.2.1 q := fun q hq => Nat.le_trans iv.2.2.2.1.2.2.1 hq
  have hak : akd x = false := by
    cases z : akd x
    · rfl
    · have := akd_i z; omega
  have ha0 : ∀ cA : ClassId, vp_cell cA (v.toNatClampNeg, bif Nat.beq x 21 then .inr (.inl (fun _ => 0)) else bif akd x then .inr (.inr (.inr (.inr (fun _ => none)))) else .inl (fun _ => 0)) = arrV cA v.toNatClampNeg (fun _ => defaultValue (aty x)) := fun cA => by
    rcases (show x = 20 ∨ x = 21 ∨ x = 22 ∨ x = 23 by omega) with e | e | e | e <;> (rw [e]; rfl)
  have hby : v.toNatClampNeg * componentBytes (aty x) ≤ 536870912 := by
    have : componentBytes (aty x) ≤ 8 := by
      rcases (show x = 20 ∨ x = 21 ∨ x = 22 ∨ x = 23 by omega) with e | e | e | e <;> (rw [e]; decide)
    calc v.toNatClampNeg * componentBytes (aty x) ≤ 1000000 * 8 := Nat.mul_le_mul hbig this
      _ ≤ 536870912 := by decide
  refine va_newa (atype := t) iv.1.1 iv.1.2.1 (hts _ hac) hty w.2.2.1 w.2.2.2.2.2.1 w.2.2.2.2.2.2.1 iv.2.2.2.2.2.2.2.2.1 hA ha0 hv0 rfl hby (by omega) (by omega) hd (fun qa cA H1 hK hP hD hS => ?_)
  have hKa : ArrOfT s cA (aty x) ∧ va_RA s cA (aty x) := hK.2 0 _ rfl
  have e2 : ens (va_up ρ a qa) (va_up γ a cA) (nwH h a v.toNatClampNeg) a = .inl (cA, (v.toNatClampNeg, bif Nat.beq x 21 then .inr (.inl (fun _ => 0)) else bif akd x then .inr (.inr (.inr (.inr (fun _ => none)))) else .inl (fun _ => 0))) := by
    rw [nwA_ens (by omega) hl, ek, va_up_s]
  rw [← e2] at hP hD
  obtain ⟨iv2, em⟩ := iv.al (q := qa) (n := v.toNatClampNeg) (γ' := va_up γ a cA) hdead (by omega) ⟨_, w.add (n := v.toNatClampNeg) (cA := cA) hdead (Or.inr ⟨by omega, by omega, by rw [ek]; exact hKa.1, by rw [ek]; exact hKa.2⟩) hP hD⟩ hS (tail_ok iv.2.2.2.2.2.2.2.1)
  refine W.cs (cells' := rC (nwH h a v.toNatClampNeg) - rC h0) (slots' := rS (nwH h a v.toNatClampNeg) - rS h0) (by show rC h - rC h0 + 1 = rC h + 1 - rC h0; omega) (by show rS h - rS h0 + v.toNatClampNeg = rS h + v.toNatClampNeg - rS h0; omega) ?_
  rw [← em]
  exact hX.2.2 iv2 g1 g2
theorem sx_anewarray {x : Nat} (hk : ∃ k, dcd y pc (.anewarray k) 3 ∧ n = 3 ∧ 24 ≤ x ∧ x ≤ 27 ∧ Cond.classLink (nm y).cls k (cN (acl x)) ∈ gtb) (H : p1i st fun v r => ∃ a, K0 a = x ∧ rD h a = false ∧ ¬ v < 0 ∧ (L0 a = 0 ∨ L0 a = v.toNatClampNeg) ∧ v.toNatClampNeg ≤ 1000000 ∧ PsO d y Q b (pc + n) ls (.ref a :: r) (nwH h a v.toNatClampNeg)) : PsO d y Q b pc ls st h := by
  obtain ⟨v, r, rfl, a, ek, hdead, hv0, hl, hbig, q, h', hq, hX⟩ := p1i_e H
  obtain ⟨k, hd, rfl, hx1, hx2, hcl⟩ := hk
  have hC : rC h + 1 ≤ rC h' := hX.1
  have hSl : rS h + v.toNatClampNeg ≤ rS h' := hX.2.1
  refine ⟨q, h', hq, by omega, by omega, fun {G b0 ρ0 h0 R p l e s m args below meth c ρ γ H arr locs} iv g1 g2 => ?_⟩
  obtain ⟨L, w⟩ := iv.2.2.2.2.1
  have hts := iv.1.2.2.2.2.2.1
  have i11 := iv.2.2.2.2.2.2.2.2.2.2.1
  have i12 := iv.2.2.2.2.2.2.2.2.2.2.2.1
  have hA : ∀ q, s.heap.size ≤ q → Ab G.2.1 q := fun q hq => Nat.le_trans iv.2.2.2.1.2.2.1 hq
  have hak : akd x = true := by
    rcases (show x = 24 ∨ x = 25 ∨ x = 26 ∨ x = 27 by omega) with e | e | e | e <;> (rw [e]; rfl)
  have h21 : Nat.beq x 21 = false := by
    rcases (show x = 24 ∨ x = 25 ∨ x = 26 ∨ x = 27 by omega) with e | e | e | e <;> (rw [e]; rfl)
  refine va_newq iv.1.1 iv.1.2.1 iv.1.2.2.2.2.1 (hts _ hcl) (iv.2.2.1.2 x hx1 hx2) w.2.2.1 w.2.2.2.2.2.1 w.2.2.2.2.2.2.1 iv.2.2.2.2.2.2.2.2.1 hA hv0 rfl (by omega) (by omega) (by omega) hd (fun qa cA H1 hK hP hD hS => ?_)
  have hKa : ArrOfT s cA (.object (cN (acl x))) ∧ va_RA s cA (.object (cN (acl x))) := hK.2 0 _ rfl
  have e2 : ens (va_up ρ a qa) (va_up γ a cA) (nwH h a v.toNatClampNeg) a = .inl (cA, (v.toNatClampNeg, .inr (.inr (.inr (.inr (fun _ => none)))))) := by
    rw [nwA_ens (by omega) hl, ek, va_up_s, h21, hak]
    rfl
  rw [← e2] at hP hD
  obtain ⟨iv2, em⟩ := iv.al (q := qa) (n := v.toNatClampNeg) (γ' := va_up γ a cA) hdead (by omega) ⟨_, w.add (n := v.toNatClampNeg) (cA := cA) hdead (Or.inr ⟨by omega, by omega, by rw [ek, aty_q hx1]; exact hKa.1, by rw [ek, aty_q hx1]; exact hKa.2⟩) hP hD⟩ hS (tail_ok iv.2.2.2.2.2.2.2.1)
  refine W.cs (cells' := rC (nwH h a v.toNatClampNeg) - rC h0) (slots' := rS (nwH h a v.toNatClampNeg) - rS h0) (by show rC h - rC h0 + 1 = rC h + 1 - rC h0; omega) (by show rS h - rS h0 + v.toNatClampNeg = rS h + v.toNatClampNeg - rS h0; omega) ?_
  rw [← em]
  exact hX.2.2 iv2 g1 g2
end AL
