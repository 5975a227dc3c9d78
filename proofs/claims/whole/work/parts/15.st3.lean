/-! Steps that read and write cells. -/
theorem k_ro : ∀ a, a < 10 → 30 ≤ K0 a := by decide +kernel
theorem nfl_le : ∀ c, c < 13 → nfl c ≤ 38 := by decide +kernel
theorem K0_big {a : Nat} (h : 152 ≤ a) : K0 a = 40 := by
  have e : ∀ k, k < 152 → Nat.ble a k = false := fun k hk => by
    cases q : Nat.ble a k
    · rfl
    · have := Nat.le_of_ble_eq_true q
      omega
  simp only [K0, e 71 (by omega), e 99 (by omega), e 129 (by omega), e 137 (by omega), e 148 (by omega), e 150 (by omega), e 151 (by omega), cond_false]
theorem R0_ro_d : ∀ a, a < 152 → ∀ z, z < 38 → (Nat.ble (K0 a) 12 && Nat.beq (fty (K0 a) z) 2 && Nat.ble (z + 1) (nfl (K0 a)) && Nat.ble (R0 a z) 9) = false := by decide +kernel
theorem R0_ro (a z : Nat) (hk : K0 a ≤ 12) (hf : fty (K0 a) z = 2) (hz : z < nfl (K0 a)) : ¬ R0 a z < 10 := by
  intro hr
  by_cases ha : a < 152
  · have hn : nfl (K0 a) ≤ 38 := nfl_le _ (by omega)
    have := R0_ro_d a ha z (by omega)
    rw [Nat.ble_eq_true_of_le hk, hf, Nat.ble_eq_true_of_le (show z + 1 ≤ nfl (K0 a) by omega), Nat.ble_eq_true_of_le (show R0 a z ≤ 9 by omega)] at this
    cases this
  · rw [K0_big (by omega)] at hk
    omega
theorem lok_D {h h' : Hp} (e : rD h' = rD h) {v : Value} (hv : lok h v) : lok h' v := by
  cases v <;> first | exact hv | (simp only [lok, e] at hv ⊢; exact hv)
theorem live_of {h : Hp} {a : Nat} (hv : lok h (.ref a)) (hk : K0 a < 30) : rD h a = true := by
  rcases hv with h1 | h1
  · have := k_ro a h1
    omega
  · exact h1
theorem K1 {D : va_G} {s : State} {cA : ClassId} {ty : FieldType} (h : va_K D vwCl [] s) (h1 : ArrOfT s cA ty) (h2 : va_RA s cA ty) : va_K D vwCl [(cA, ty)] s := by
  refine ⟨h.1, fun k q hk => ?_⟩
  have hz : k < 1 := (List.getElem?_eq_some_iff.mp hk).1
  rw [show k = 0 by omega] at hk
  cases hk
  exact ⟨h1, h2⟩
theorem K2 {D : va_G} {s : State} {cA cB : ClassId} {ty tz : FieldType} (h : va_K D vwCl [] s) (h1 : ArrOfT s cA ty) (h2 : va_RA s cA ty) (h3 : ArrOfT s cB tz) (h4 : va_RA s cB tz) : va_K D vwCl [(cA, ty), (cB, tz)] s := by
  refine ⟨h.1, fun k q hk => ?_⟩
  have hz : k < 2 := (List.getElem?_eq_some_iff.mp hk).1
  match k, hz, hk with
  | 0, _, hk => cases hk; exact ⟨h1, h2⟩
  | 1, _, hk => cases hk; exact ⟨h3, h4⟩
theorem WdL.set {G : Gx} {b : Bool} {ρ : Nat → Nat} {γ : Nat → ClassId} {h h' : Hp} {s : State} {H H1 : Heap} {L : List Nat} (w : WdL G b ρ γ h s H L) {a q0 : Nat} {e : va_E} (ha : L[q0]? = some a) (he : ens ρ γ h' a = e) (ho : ∀ c ∈ L, c ≠ a → ens ρ γ h' c = ens ρ γ h c) (hP : va_P G.1 vwCl ((wsO ρ γ h L).set q0 (ρ a, e)) H1) (hD : va_D (Ab G.2.1) ((wsO ρ γ h L).set q0 (ρ a, e))) (h0I : rI h' 0 = rI h 0) (h0L : rL h' 0 = rL h 0) (hdom : rD h' = rD h) (hN : ∀ c ∈ L, ∀ k, rN h' c k = true → rN h c k = true ∨ (k < 40 ∧ R0 c k ∈ L)) (hN2 : ∀ c k, rN h c k = true → rN h' c k = true) : WdL G b ρ γ h' s H1 L := by
  obtain ⟨w1, w2, w3, w4, w5, w6, w7, w8, w9, w10⟩ := w
  subst he
  rw [ws_set w4 ha ho] at hP hD
  exact ⟨h0I.trans w1, h0L.trans w2, w3, w4, fun a => by rw [hdom]; exact w5 a, hP, hD, w8, fun c hc k hk => (hN c hc k hk).elim (w9 c hc k) id, fun hb c k hk => ⟨(w10 hb c k hk).1, hN2 c k (w10 hb c k hk).2⟩⟩
theorem IvO.hp {G : Gx} {d y : Nat} {b0 b : Bool} {ρ0 : Nat → Nat} {h0 : Hp} {R : Room} {p : Program} {s : State} {m : MethodId} {args : Array Value} {meth : Method} {c : Code} {ρ : Nat → Nat} {γ : Nat → ClassId} {h h' : Hp} {H H1 : Heap} {arr : Array Slot} {ls st st' : List Value} {locs locs1 : List Loc} (iv : IvO G d y b0 b ρ0 h0 R p s m args meth c ρ γ h H arr ls st locs) (hw : WdO G b ρ γ h' s H1) (hS : va_S (Ab G.2.1) s.heap H1 locs1) (hdom : rD h' = rD h) (hC : rC h' = rC h) (hSl : rS h' = rS h) (hs : ∀ v ∈ st', lok h v) : IvO G d y b0 b ρ0 h0 R p s m args meth c ρ γ h' H1 arr ls st' locs1 := by
  obtain ⟨i1, i2, i3, i4, i5, i6, i7, i8, i9, i10, i11, i12, i13⟩ := iv
  exact ⟨i1, i2, i3, i4, hw, i6, fun v hv => lok_D hdom (i7 v hv), fun v hv => lok_D hdom (hs v hv), hS, ⟨i10.1, fun a ha => by rw [hdom]; exact i10.2 a ha⟩, by rw [hC]; exact i11, by rw [hSl]; exact i12, i13⟩
theorem va_up_n {α : Type} {f : Nat → α} {k j : Nat} {v : α} (h : j ≠ k) : va_up f k v j = f j := by simp [va_up, h]
theorem va_up_s {α : Type} {f : Nat → α} {k : Nat} {v : α} : va_up f k v k = v := by simp [va_up]
section HS
variable {d y : Nat} {b : Bool} {pc n : Nat} {ls st : List Value} {h : Hp} {Q : Po}
variable {G : Gx} {b0 : Bool} {ρ0 : Nat → Nat} {h0 : Hp} {R : Room} {p : Program} {l : Launch} {e : Env} {s : State} {m : MethodId} {args : Array Value} {below : List Frame} {meth : Method} {c : Code} {ρ : Nat → Nat} {γ : Nat → ClassId} {H : Heap} {arr : Array Slot} {locs : List Loc} {cells slots : Nat} {Qf : State → Prop}
theorem X_get {x z k a : Nat} {v : Value} {rest : List Value} {L : List Nat} (cx : CxO y p s m args meth c) (tb : TbO s) (w : WdL G b ρ γ h s H L) (ha : a ∈ L) (hk : K0 a = x) (hd : dcd y pc (.getfield k) 3) (hf : fln y k x z) (hv : fvl ρ h a x z = v) (kk : W p l e R s m args below meth c H locs cells slots Qf (F0 m (pc + 3) arr (v :: rest))) : W p l e R s m args below meth c H locs cells slots Qf (F0 m pc arr (.ref (ρ a) :: rest)) := by
  obtain ⟨hx, hb, hr, hml, hown, hts, hlo, hnm⟩ := cx
  obtain ⟨w1, w2, w3, w4, w5, w6, w7, w8, w9, w10⟩ := w
  obtain ⟨hc, hz, hl⟩ := hf
  obtain ⟨q0, hq0, he⟩ := ws_get (ρ := ρ) (γ := γ) (h := h) ha
  rw [ens_obj (by omega), hk] at he
  have hsame : ∀ q, s.fieldFound? (cT x z).1 (cT x z).2.1 (cT x z).2.2.1 = some q → s.fieldFound? (cN x) (cT x z).2.1 (cT x z).2.2.1 = some q := by rw [cT_own x hc z hz]; exact fun _ h => h
  have hv' : (fls ρ h a x)[z]? = some v := by rw [fls_get hz, hv]
  rcases hl with hl | ⟨host, hl⟩
  · exact va_get (Ts := gtb) hx hb hts (ly x hc) hown w3 w6 q0 he (vw_c x hc) z hz (hts _ hl) hsame hv' hd kk
  · exact va_getN (Ts := gtb) (host := host) hx hb hts (ly x hc) hown w3 w6 q0 he (vw_c x hc) z hz (va_Nw.use rfl (tb.1 _ hl)) hsame hv' hd kk
theorem X_put {x z k a q0 : Nat} {v : Value} {rest : List Value} {L : List Nat} (cx : CxO y p s m args meth c) (tb : TbO s) (w : WdL G b ρ γ h s H L) (hS : va_S (Ab G.2.1) s.heap H locs) (hq0 : L[q0]? = some a) (hk : K0 a = x) (hd : dcd y pc (.putfield k) 3) (hf : fpn y k x z) (hn : narrow (cY x z) v = v) (hfit : fits (cY x z) v = true) (kk : ∀ (H1 : Heap) (locs1 : List Loc), va_P G.1 vwCl ((wsO ρ γ h L).set q0 (ρ a, .inr (x, (fls ρ h a x).set z v))) H1 → va_D (Ab G.2.1) ((wsO ρ γ h L).set q0 (ρ a, .inr (x, (fls ρ h a x).set z v))) → va_S (Ab G.2.1) s.heap H1 locs1 → W p l e R s m args below meth c H1 locs1 cells slots Qf (F0 m (pc + 3) arr rest)) : W p l e R s m args below meth c H locs cells slots Qf (F0 m pc arr (v :: .ref (ρ a) :: rest)) := by
  obtain ⟨hx, hb, hr, hml, hown, hts, hlo, hnm⟩ := cx
  obtain ⟨w1, w2, w3, w4, w5, w6, w7, w8, w9, w10⟩ := w
  obtain ⟨hc, hz, hl⟩ := hf
  have he : (wsO ρ γ h L)[q0]? = some (ρ a, .inr (x, fls ρ h a x)) := by
    rw [wsO, List.getElem?_map, hq0]
    show some (ρ a, ens ρ γ h a) = _
    rw [ens_obj (by omega), hk]
  have hsame : ∀ q, s.fieldFound? (cT x z).1 (cT x z).2.1 (cT x z).2.2.1 = some q → s.fieldFound? (cN x) (cT x z).2.1 (cT x z).2.2.1 = some q := by rw [cT_own x hc z hz]; exact fun _ h => h
  have hlen : z < (fls ρ h a x).length := by rw [fls_len]; exact hz
  rcases hl with ⟨hfin, hl | ⟨host, hl⟩⟩ | ⟨hfin, hni, hco, hl⟩
  · exact va_put (Ts := gtb) hx hb hts (ly x hc) (cY x) (cY_ok x hc) (cT_nm x hc) hown w3 w6 w7 hS q0 he (vw_c x hc) z hz (hts _ hl) hsame hfin (cY_ok x hc z hz) hn hfit hlen hd kk
  · exact va_putN (Ts := gtb) (host := host) hx hb hts (ly x hc) (cY x) (cY_ok x hc) (cT_nm x hc) hown w3 w6 w7 hS q0 he (vw_c x hc) z hz (va_Nw.use rfl (tb.1 _ hl)) hsame hfin (cY_ok x hc z hz) hn hfit hlen hd kk
  · exact va_putF (Ts := gtb) hx hb hts (ly x hc) (cY x) (cY_ok x hc) (cT_nm x hc) hown w3 w6 w7 hS q0 he (vw_c x hc) z hz (hts _ hl) hsame hfin (hnm hni) ((cT_own x hc z hz).trans hco) (cY_ok x hc z hz) hn hfit hlen hd kk
end HS
section HS2
variable {d y : Nat} {b : Bool} {pc n : Nat} {ls st : List Value} {h : Hp} {Q : Po}
theorem sx_getfield {x z : Nat} (hk : ∃ k, dcd y pc (.getfield k) 3 ∧ n = 3 ∧ fln y k x z) (H : pr st fun a r => okb (Nat.beq (K0 a) x) (bif Nat.beq (fty x z) 2 then (bif b && N0 a z then PsO d y Q b (pc + n) ls (.ref (R0 a z) :: r) h else (rN h a z = true ∧ PsO d y Q b (pc + n) ls (.ref (R0 a z) :: r) h)) else bif Nat.beq (fty x z) 1 then PsO d y Q b (pc + n) ls (.long (rJ h a z) :: r) h else PsO d y Q b (pc + n) ls (.int (rI h a z) :: r) h)) : PsO d y Q b pc ls st h := by
  obtain ⟨a, r, rfl, H⟩ := pr_e H
  obtain ⟨ek, H⟩ := okb_e H
  have ek := Nat.eq_of_beq_eq_true ek
  obtain ⟨k, hd, rfl, hf⟩ := hk
  have hx13 : x < 13 := hf.1
  cases e2 : Nat.beq (fty x z) 2
  · rw [e2] at H
    cases e1 : Nat.beq (fty x z) 1
    · rw [e1] at H
      obtain ⟨q, h', hq, hX⟩ := H
      refine ⟨q, h', hq, hX.1, hX.2.1, fun iv h1 h2 => ?_⟩
      obtain ⟨L, w⟩ := iv.2.2.2.2.1
      have ha : a ∈ L := (w.2.2.2.2.1 a).mpr (live_of (head_ok iv.2.2.2.2.2.2.2.1) (by omega))
      refine X_get iv.1 iv.2.2.1 w ha ek hd hf (v := .int (rI h a z)) ?_ (hX.2.2 (iv.st (cons_ok trivial (tail_ok iv.2.2.2.2.2.2.2.1))) h1 h2)
      simp only [fvl, e2, e1, cond_false]
    · rw [e1] at H
      obtain ⟨q, h', hq, hX⟩ := H
      refine ⟨q, h', hq, hX.1, hX.2.1, fun iv h1 h2 => ?_⟩
      obtain ⟨L, w⟩ := iv.2.2.2.2.1
      have ha : a ∈ L := (w.2.2.2.2.1 a).mpr (live_of (head_ok iv.2.2.2.2.2.2.2.1) (by omega))
      refine X_get iv.1 iv.2.2.1 w ha ek hd hf (v := .long (rJ h a z)) ?_ (hX.2.2 (iv.st (cons_ok trivial (tail_ok iv.2.2.2.2.2.2.2.1))) h1 h2)
      simp only [fvl, e2, e1, cond_false, cond_true]
  · rw [e2] at H
    have key : PsO d y Q b (pc + 3) ls (.ref (R0 a z) :: r) h ∧ ((b = true ∧ N0 a z = true) ∨ rN h a z = true) := by
      cases eb : (b && N0 a z)
      · rw [eb] at H
        exact ⟨H.2, Or.inr H.1⟩
      · rw [eb] at H
        rw [Bool.and_eq_true] at eb
        exact ⟨H, Or.inl eb⟩
    obtain ⟨⟨q, h', hq, hX⟩, hN⟩ := key
    refine ⟨q, h', hq, hX.1, hX.2.1, fun iv h1 h2 => ?_⟩
    obtain ⟨L, w⟩ := iv.2.2.2.2.1
    have ha : a ∈ L := (w.2.2.2.2.1 a).mpr (live_of (head_ok iv.2.2.2.2.2.2.2.1) (by omega))
    have hN : rN h a z = true := hN.elim (fun q => (w.2.2.2.2.2.2.2.2.2 q.1 a z q.2).2) id
    have hl : lok h (.ref (R0 a z)) := Or.inr ((w.2.2.2.2.1 _).mp (w.2.2.2.2.2.2.2.2.1 a ha z hN).2)
    refine X_get iv.1 iv.2.2.1 w ha ek hd hf (v := .ref (_)) ?_ (hX.2.2 (iv.st (cons_ok hl (tail_ok iv.2.2.2.2.2.2.2.1))) h1 h2)
    simp only [fvl, e2, hN, cond_true]
/-- an int field written -/
theorem fls_uI {ρ : Nat → Nat} {a x z : Nat} {v : Int32} (h2 : Nat.beq (fty x z) 2 = false) (h1 : Nat.beq (fty x z) 1 = false) : fls ρ (uI h a z v) a x = (fls ρ h a x).set z (.int v) := by
  have e : fvl ρ (uI h a z v) a x z = .int v := by
    simp only [fvl, h2, h1, cond_false, rI, uI, uA, va_up_s]
    simp [upd]
  rw [fls, fls, mrs (f := fvl ρ h a x) (g := fvl ρ (uI h a z v) a x) (k := z), e]
  intro j hj
  simp only [fvl, rI, rJ, rN, uI, uA, va_up_s]
  simp [upd, hj]
theorem fls_uJ {ρ : Nat → Nat} {a x z : Nat} {v : Int64} (h2 : Nat.beq (fty x z) 2 = false) (h1 : Nat.beq (fty x z) 1 = true) : fls ρ (uJ h a z v) a x = (fls ρ h a x).set z (.long v) := by
  have e : fvl ρ (uJ h a z v) a x z = .long v := by
    simp only [fvl, h2, h1, cond_false, cond_true, rJ, uJ, uB, va_up_s]
    simp [vp_updL]
  rw [fls, fls, mrs (f := fvl ρ h a x) (g := fvl ρ (uJ h a z v) a x) (k := z), e]
  intro j hj
  simp only [fvl, rI, rJ, rN, uJ, uB, va_up_s]
  simp [vp_updL, hj]
theorem fls_uN {ρ : Nat → Nat} {a x z : Nat} (h2 : Nat.beq (fty x z) 2 = true) : fls ρ (uN h a z true) a x = (fls ρ h a x).set z (.ref (ρ (R0 a z))) := by
  have e : fvl ρ (uN h a z true) a x z = .ref (ρ (R0 a z)) := by
    simp only [fvl, h2, cond_true, rN, uN, va_up_s]
  rw [fls, fls, mrs (f := fvl ρ h a x) (g := fvl ρ (uN h a z true) a x) (k := z), e]
  intro j hj
  simp only [fvl, rI, rJ, rN, uN, va_up_s]
  rw [va_up_n hj]
theorem ens_uA {ρ : Nat → Nat} {γ : Nat → ClassId} {a c : Nat} {f : Nat → Int32} (hc : c ≠ a) : ens ρ γ (uA h a f) c = ens ρ γ h c := ens_cg (by simp only [rI, uA]; rw [va_up_n hc]) rfl rfl rfl rfl (fun _ _ => rfl)
theorem ens_uB {ρ : Nat → Nat} {γ : Nat → ClassId} {a c : Nat} {f : Nat → Int64} (hc : c ≠ a) : ens ρ γ (uB h a f) c = ens ρ γ h c := ens_cg rfl (by simp only [rJ, uB]; rw [va_up_n hc]) rfl rfl rfl (fun _ _ => rfl)
theorem ens_uN {ρ : Nat → Nat} {γ : Nat → ClassId} {a c i : Nat} {v : Bool} (hc : c ≠ a) : ens ρ γ (uN h a i v) c = ens ρ γ h c := ens_cg rfl rfl rfl (by simp only [rN, uN]; rw [va_up_n hc]) rfl (fun _ _ => rfl)
theorem uA_0 {a : Nat} {f : Nat → Int32} (ha : K0 a < 30) : rI (uA h a f) 0 = rI h 0 := by
  simp only [rI, uA]
  rw [va_up_n (fun e => by subst e; revert ha; decide)]
theorem uN_t {a i c k : Nat} (hk : rN (uN h a i true) c k = true) : rN h c k = true ∨ (c = a ∧ k = i) := by
  simp only [rN, uN] at hk ⊢
  by_cases hc : c = a
  · subst hc
    rw [va_up_s] at hk
    by_cases hi : k = i
    · exact Or.inr ⟨rfl, hi⟩
    · rw [va_up_n hi] at hk
      exact Or.inl hk
  · rw [va_up_n hc] at hk
    exact Or.inl hk
theorem uN_k {a i c k : Nat} (hk : rN h c k = true) : rN (uN h a i true) c k = true := by
  simp only [rN, uN] at hk ⊢
  by_cases hc : c = a
  · subst hc
    rw [va_up_s]
    by_cases hi : k = i
    · rw [hi, va_up_s]
    · rw [va_up_n hi]
      exact hk
  · rw [va_up_n hc]
    exact hk
theorem sx_putI {x z : Nat} (hk : ∃ k, dcd y pc (.putfield k) 3 ∧ n = 3 ∧ fpn y k x z) (h2 : Nat.beq (fty x z) 2 = false) (h1 : Nat.beq (fty x z) 1 = false) (h3 : ∀ v : Int32, fty x z = 3 → st.head? = some (.int v) → v = 0 ∨ v = 1) (H : pir st fun a v r => okb (Nat.beq (K0 a) x) (PsO d y Q b (pc + n) ls r (uI h a z v))) : PsO d y Q b pc ls st h := by
  obtain ⟨a, v, r, rfl, H⟩ := pir_e H
  obtain ⟨ek, q, h', hq, hX⟩ := okb_e H
  have ek := Nat.eq_of_beq_eq_true ek
  obtain ⟨k, hd, rfl, hf⟩ := hk
  have hx13 : x < 13 := hf.1
  have hty : narrow (cY x z) (.int v) = .int v ∧ fits (cY x z) (.int v) = true := by
    rcases cY_fty x hf.1 z hf.2.1 with ⟨-, hy⟩ | ⟨e, -⟩ | ⟨e3, hy⟩ | ⟨e, -⟩
    · rw [hy]; exact ⟨rfl, rfl⟩
    · rw [e] at h1; cases h1
    · rw [hy]
      rcases h3 v e3 rfl with rfl | rfl <;> exact ⟨rfl, rfl⟩
    · rw [e] at h2; cases h2
  refine ⟨q, h', hq, hX.1, hX.2.1, fun iv g1 g2 => ?_⟩
  obtain ⟨L, w⟩ := iv.2.2.2.2.1
  have ha : a ∈ L := (w.2.2.2.2.1 a).mpr (live_of (head_ok (tail_ok iv.2.2.2.2.2.2.2.1)) (by omega))
  obtain ⟨q0, hq0⟩ := List.getElem?_of_mem ha
  refine X_put iv.1 iv.2.2.1 w iv.2.2.2.2.2.2.2.2.1 hq0 ek hd hf hty.1 hty.2 (fun H1 locs1 hP hD hS => hX.2.2 (iv.hp ⟨L, w.set hq0 ?_ (fun c _ hc => ens_uA hc) hP hD (uA_0 (by omega)) rfl rfl (fun c _ k hk => Or.inl hk) (fun c k hk => hk)⟩ hS rfl rfl rfl (tail_ok (tail_ok iv.2.2.2.2.2.2.2.1))) g1 g2)
  rw [ens_obj (by omega), ek, fls_uI h2 h1]
  rfl
theorem sx_putJ {x z : Nat} (hk : ∃ k, dcd y pc (.putfield k) 3 ∧ n = 3 ∧ fpn y k x z) (h2 : Nat.beq (fty x z) 2 = false) (h1 : Nat.beq (fty x z) 1 = true) (H : plr st fun a v r => okb (Nat.beq (K0 a) x) (PsO d y Q b (pc + n) ls r (uJ h a z v))) : PsO d y Q b pc ls st h := by
  obtain ⟨a, v, r, rfl, H⟩ := plr_e H
  obtain ⟨ek, q, h', hq, hX⟩ := okb_e H
  have ek := Nat.eq_of_beq_eq_true ek
  obtain ⟨k, hd, rfl, hf⟩ := hk
  have hx13 : x < 13 := hf.1
  have hty : narrow (cY x z) (.long v) = .long v ∧ fits (cY x z) (.long v) = true := by
    have e1 := Nat.eq_of_beq_eq_true h1
    rcases cY_fty x hf.1 z hf.2.1 with ⟨e, -⟩ | ⟨-, hy⟩ | ⟨e, -⟩ | ⟨e, -⟩
    · omega
    · rw [hy]; exact ⟨rfl, rfl⟩
    · omega
    · omega
  refine ⟨q, h', hq, hX.1, hX.2.1, fun iv g1 g2 => ?_⟩
  obtain ⟨L, w⟩ := iv.2.2.2.2.1
  have ha : a ∈ L := (w.2.2.2.2.1 a).mpr (live_of (head_ok (tail_ok iv.2.2.2.2.2.2.2.1)) (by omega))
  obtain ⟨q0, hq0⟩ := List.getElem?_of_mem ha
  refine X_put iv.1 iv.2.2.1 w iv.2.2.2.2.2.2.2.2.1 hq0 ek hd hf hty.1 hty.2 (fun H1 locs1 hP hD hS => hX.2.2 (iv.hp ⟨L, w.set hq0 ?_ (fun c _ hc => ens_uB hc) hP hD rfl rfl rfl (fun c _ k hk => Or.inl hk) (fun c k hk => hk)⟩ hS rfl rfl rfl (tail_ok (tail_ok iv.2.2.2.2.2.2.2.1))) g1 g2)
  rw [ens_obj (by omega), ek, fls_uJ h2 h1]
  rfl
theorem sx_putR {x z a v : Nat} {r : List Value} (hk : ∃ k, dcd y pc (.putfield k) 3 ∧ n = 3 ∧ fpn y k x z) (h2 : Nat.beq (fty x z) 2 = true) (ek : K0 a = x) (ev : v = R0 a z) (H : PsO d y Q b (pc + n) ls r (uN h a z true)) : PsO d y Q b pc ls (.ref v :: .ref a :: r) h := by
  obtain ⟨q, h', hq, hX⟩ := H
  obtain ⟨k, hd, rfl, hf⟩ := hk
  have hx13 : x < 13 := hf.1
  subst ev
  have hty : ∀ q : Nat, narrow (cY x z) (.ref q) = .ref q ∧ fits (cY x z) (.ref q) = true := by
    have e1 := Nat.eq_of_beq_eq_true h2
    rcases cY_fty x hf.1 z hf.2.1 with ⟨e, -⟩ | ⟨e, -⟩ | ⟨e, -⟩ | ⟨-, ⟨t, hy⟩ | ⟨t, hy⟩⟩
    · omega
    · omega
    · omega
    · intro q; rw [hy]; exact ⟨rfl, rfl⟩
    · intro q; rw [hy]; exact ⟨rfl, rfl⟩
  refine ⟨q, h', hq, hX.1, hX.2.1, fun {G b0 ρ0 h0 R p l e s m args below meth c ρ γ H arr locs} iv g1 g2 => ?_⟩
  obtain ⟨L, w⟩ := iv.2.2.2.2.1
  have ha : a ∈ L := (w.2.2.2.2.1 a).mpr (live_of (head_ok (tail_ok iv.2.2.2.2.2.2.2.1)) (by omega))
  have hz40 : z < 40 := by
    have h1 := hf.2.1
    have h2 := nfl_le x hx13
    omega
  have hv : R0 a z ∈ L := by
    refine (w.2.2.2.2.1 _).mpr ((head_ok iv.2.2.2.2.2.2.2.1).elim (fun q => ?_) id)
    exact absurd q (R0_ro a z (by omega) (by rw [ek]; exact Nat.eq_of_beq_eq_true h2) (by rw [ek]; exact hf.2.1))
  obtain ⟨q0, hq0⟩ := List.getElem?_of_mem ha
  refine X_put iv.1 iv.2.2.1 w iv.2.2.2.2.2.2.2.2.1 hq0 ek hd hf (hty _).1 (hty _).2 (fun H1 locs1 hP hD hS => hX.2.2 (iv.hp ⟨L, w.set hq0 ?_ (fun c _ hc => ens_uN hc) hP hD rfl rfl rfl (fun c _ k hk => (uN_t hk).imp id (fun q => by rw [q.1, q.2]; exact ⟨hz40, hv⟩)) (fun c k hk => uN_k hk)⟩ hS rfl rfl rfl (tail_ok (tail_ok iv.2.2.2.2.2.2.2.1))) g1 g2)
  rw [ens_obj (by omega), ek, fls_uN h2]
  rfl
end HS2
