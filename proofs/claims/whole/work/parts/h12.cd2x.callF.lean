/-! Callees by name: java/lang/Math is no plain class, but its methods here have no row among the natives. -/
def cdxF (x : Nat) : Prop := Cond.code (nm x) (bt x) (mxl x) (rtt x) ∈ gtb ∧ Cond.initialized (nm x).cls ∈ gtb ∧ ((nm x).cls ≠ "java/lang/invoke/MethodHandle" ∧ (nm x).cls ≠ "java/lang/invoke/VarHandle" ∧ (parseMethodDescriptor (nm x).desc).map (fun d => d.parameters.length) = some (npr x)) ∧ plainFor (nm x) = true ∧ mxl x ≤ 21
theorem cdxF_of {x : Nat} (h : cdx x) : cdxF x := ⟨h.1, h.2.1, h.2.2.1, plainFor_of_name h.2.2.2.1, h.2.2.2.2⟩
theorem Met_ofWF {l : Launch} {y : MethodName} {ws ws' : List Cond} {rm : Room} {Pc : Array Value → State → Prop} {Qc : Array Value → State → Outcome → State → Prop} {mc ms : Nat} {free : Addr → Prop} {cc : ByteArray} {maxL : Nat} {ret : Option FieldType}
    (hy : plainFor y = true) (hw : ws = Cond.code y cc maxL ret :: ws')
    (body : ∀ p e s m args below meth c s₁, BodyLoose p l y (headSpec ws rm) cc maxL ret e s m args below meth c s₁ → c.maxLocals = maxL → Pc args s →
      W p l e (headSpec ws rm).room s m args below meth c s.heap [] 0 0 (MQ below Qc args s mc ms free) (entryFrame m args maxL)) : Met l y ws rm Pc Qc mc ms free := by
  refine MetFree.of_bodySF (code := cc) (maxLocals := maxL) (ret := ret) hy ?_ ?_
  · intro args s m h hn
    obtain ⟨meth, c, h1, h2, h3, h4, h5, h6, -, -⟩ := Cond.code_spec hn (atoms_spec (ws := ws) h _ (by rw [hw]; exact List.mem_cons_self))
    exact ⟨meth, c, h1, h2, h3, h4, h5, h6⟩
  · intro p e s m args below meth c s₁ B hml hP _
    have hh0 : s₁.heap = s.heap := by rw [B.state]; rfl
    obtain ⟨t, a1, o, b1, b2, b3⟩ := body p e s m args below meth c s₁ B hml hP s₁ hh0 (Stand.of_body B)
    exact ⟨t, o, a1, b1, b2, ⟨b3.1, b3.2⟩⟩
def cdyF (x : Nat) : Prop := cdxF x
theorem good_TBF {x : Nat} (h : cdxF x) : GoodIn gtb (TBx x) := fun w hw => by
  rcases List.mem_cons.mp hw with rfl | hw
  · exact ⟨h.1, good_of_word (g_good h.1)⟩
  · exact ⟨hw, good_of_word (g_good hw)⟩
section CAF
variable {d y : Nat} {b : Bool} {pc n : Nat} {ls st : List Value} {h : Hp} {Q : Po}
theorem sx_staticF {x z : Nat} (hcal : ∀ (b : Bool) (x : Nat) (as : List Value) (h : Hp) (Q' : Po), 0 < x → x < 320 → wpC d b x as h Q' → ∃ r h', Q' r h' ∧ MtO d b x as h r h') (hcd : ∀ x, 0 < x → x < 320 → cdxF x) (hk : ∃ k, dcd y pc (.invokestatic k) 3 ∧ n = 3 ∧ 0 < x ∧ x < 320 ∧ z = npr x ∧ mln y k x ∧ Cond.static (nm x) ∈ gtb) (H : okb (okf y x z ls st) (wpC d b x (st.take z).reverse h (fun r h' => PsO d y Q b (pc + n) ls (prt x r (st.drop z)) h'))) : PsO d y Q b pc ls st h := by
  obtain ⟨hok, H⟩ := okb_e H
  obtain ⟨k, hd, rfl, hx0, hx320, hz, hml, hst⟩ := hk
  obtain ⟨r1, h1, ⟨r, h', hq, hX⟩, hM⟩ := hcal b x _ h _ hx0 hx320 H
  obtain ⟨hC, hSl, hM⟩ := hM
  have cd := hcd x hx0 hx320
  refine ⟨r, h', hq, Nat.le_trans hC hX.1, Nat.le_trans hSl hX.2.1, fun {G b0 ρ0 h0 R p l e s m args below meth c ρ γ H arr locs} iv g1 g2 => ?_⟩
  have hts := iv.1.2.2.2.2.2.1
  have hl2 : (∀ v ∈ (st.take z).reverse, lok h v) := fun v hv => iv.2.2.2.2.2.2.2.1 v (List.mem_of_mem_take (List.mem_reverse.mp hv))
  have hok2 := hok
  simp only [okf, Bool.and_eq_true] at hok2
  obtain ⟨⟨ho1, ho2⟩, -⟩ := hok2
  have ho1 := Nat.eq_of_beq_eq_true ho1
  have ho2 := Nat.le_of_ble_eq_true ho2
  have hX1 := hX.1
  have hX2 := hX.2.1
  have i11 := iv.2.2.2.2.2.2.2.2.2.2.1
  have i12 := iv.2.2.2.2.2.2.2.2.2.2.2.1
  have hstk : (F0 m pc arr (st.map (rv ρ))).stack = ((st.take z).reverse.map (rv ρ)).reverse ++ (st.drop z).map (rv ρ) := by
    show st.map (rv ρ) = _
    rw [List.map_reverse, List.reverse_reverse, ← List.map_append, List.take_append_drop]
  have hWs : 2 * (F0 m pc arr (st.map (rv ρ))).monitorRoom + (((st.drop z).map (rv ρ)).map fun v => v.category).sum ≤ 8 := by
    rw [csm_rv]
    show 2 * 0 + csm (st.drop z) ≤ 8
    omega
  have hlen : ((st.take z).reverse.map (rv ρ)).length = npr x := by
    rw [List.length_map, List.length_reverse, ho1, hz]
  have hfix : CallFix p m c (bt y) (mxl y) s args gtb (nm y).cls := ⟨iv.1.1, iv.1.2.1, iv.1.2.2.2.1, iv.1.2.2.2.2.1, hts⟩
  refine X_back (a := ((st.take z).reverse.map (rv ρ)).toArray) iv hok hC hSl hX g1 g2 ?_
  rcases hml with hml | ⟨host, hml⟩
  · exact va_runS (n := npr x) (index := k) (bytes := bt x) (maxL := mxl x) (ret := rtt x) hfix (hM l G ρ γ hl2) ⟨callB_of (npr x) hts (good_TBF cd) rfl rfl rfl (hts _ cd.2.1) (hts _ hml) cd.2.2.1 (room_ok iv.2.1 cd.2.2.2.2), hts _ hst⟩ ⟨Pc_blind, X_pre iv _⟩ rfl hlen iv.2.2.2.2.2.1.1 hstk hWs hd ⟨by omega, by omega⟩
  · exact va_runSN (n := npr x) (index := k) (bytes := bt x) (maxL := mxl x) (ret := rtt x) (host := host) hfix (hM l G ρ γ hl2) ⟨va_cnB (npr x) hts (good_TBF cd) rfl rfl rfl (iv.2.2.1.1 _ hml) (hts _ cd.2.1) cd.2.2.1 (room_ok iv.2.1 cd.2.2.2.2), hts _ hst, trivial⟩ ⟨Pc_blind, X_pre iv _⟩ rfl hlen iv.2.2.2.2.2.1.1 hstk hWs hd ⟨by omega, by omega⟩
theorem sx_virtualF {x z : Nat} (hcal : ∀ (b : Bool) (x : Nat) (as : List Value) (h : Hp) (Q' : Po), 0 < x → x < 320 → wpC d b x as h Q' → ∃ r h', Q' r h' ∧ MtO d b x as h r h') (hcd : ∀ x, 0 < x → x < 320 → cdxF x) (hk : ∃ k, dcd y pc (.invokevirtual k) 3 ∧ n = 3 ∧ 0 < x ∧ x < 320 ∧ z = npr x + 1 ∧ mln y k x ∧ Cond.instanceMethod (nm x) ∈ gtb ∧ Cond.selects (nm x).cls (nm x) (nm x) ∈ gtb) (H : pr (st.drop (z - 1)) fun a _ => okb (Nat.beq (K0 a) (kcl x) && okf y x z ls st) (wpC d b x (st.take z).reverse h (fun r h' => PsO d y Q b (pc + n) ls (prt x r (st.drop z)) h'))) : PsO d y Q b pc ls st h := by
  obtain ⟨a, tl, hdr, H⟩ := pr_e H
  obtain ⟨hok, H⟩ := okb_e H
  rw [Bool.and_eq_true] at hok
  obtain ⟨hka, hok⟩ := hok
  have hka := Nat.eq_of_beq_eq_true hka
  obtain ⟨k, hd, rfl, hx0, hx320, hz, hml, hin, hse⟩ := hk
  obtain ⟨r1, h1, ⟨r, h', hq, hX⟩, hM⟩ := hcal b x _ h _ hx0 hx320 H
  obtain ⟨hC, hSl, hM⟩ := hM
  have cd := hcd x hx0 hx320
  have htk := take_last (by omega) hdr
  refine ⟨r, h', hq, Nat.le_trans hC hX.1, Nat.le_trans hSl hX.2.1, fun {G b0 ρ0 h0 R p l e s m args below meth c ρ γ H arr locs} iv g1 g2 => ?_⟩
  have hts := iv.1.2.2.2.2.2.1
  have hl2 : (∀ v ∈ (st.take z).reverse, lok h v) := fun v hv => iv.2.2.2.2.2.2.2.1 v (List.mem_of_mem_take (List.mem_reverse.mp hv))
  have hla : lok h (.ref a) := iv.2.2.2.2.2.2.2.1 _ (List.mem_of_mem_drop (i := z - 1) (by rw [hdr]; exact List.mem_cons_self))
  have hok2 := hok
  simp only [okf, Bool.and_eq_true] at hok2
  obtain ⟨⟨ho1, ho2⟩, -⟩ := hok2
  have ho1 := Nat.eq_of_beq_eq_true ho1
  have ho2 := Nat.le_of_ble_eq_true ho2
  have hX1 := hX.1
  have hX2 := hX.2.1
  have i11 := iv.2.2.2.2.2.2.2.2.2.2.1
  have i12 := iv.2.2.2.2.2.2.2.2.2.2.2.1
  have eas : (st.take z).reverse = .ref a :: (st.take (z - 1)).reverse := by
    rw [htk, List.reverse_append]
    rfl
  have eas2 : (st.take z).reverse.map (rv ρ) = .ref (ρ a) :: (st.take (z - 1)).reverse.map (rv ρ) := by
    rw [eas]
    rfl
  have hstk : (F0 m pc arr (st.map (rv ρ))).stack = ((st.take (z - 1)).reverse.map (rv ρ)).reverse ++ .ref (ρ a) :: (st.drop z).map (rv ρ) := by
    show st.map (rv ρ) = _
    rw [List.map_reverse, List.reverse_reverse]
    have : st.map (rv ρ) = (st.take z ++ st.drop z).map (rv ρ) := by rw [List.take_append_drop]
    rw [this, htk, List.map_append, List.map_append]
    simp only [List.map_cons, List.map_nil, List.append_assoc, List.cons_append, List.nil_append, rv]
  have hWs : 2 * (F0 m pc arr (st.map (rv ρ))).monitorRoom + (((st.drop z).map (rv ρ)).map fun v => v.category).sum ≤ 8 := by
    rw [csm_rv]
    show 2 * 0 + csm (st.drop z) ≤ 8
    omega
  have hlen : ((st.take (z - 1)).reverse.map (rv ρ)).length = npr x := by
    have : (st.take z).length = (st.take (z - 1)).length + 1 := by rw [htk, List.length_append]; rfl
    rw [List.length_map, List.length_reverse]
    omega
  have hfix : CallFix p m c (bt y) (mxl y) s args gtb (nm y).cls := ⟨iv.1.1, iv.1.2.1, iv.1.2.2.2.1, iv.1.2.2.2.2.1, hts⟩
  have hcell : ∃ cellB : Cell, H[ρ a]? = some cellB ∧ cellB.vm.isStatics = false ∧ s.vm.findClass (nm x).cls = some cellB.cls := by
    obtain ⟨L, w⟩ := iv.2.2.2.2.1
    rcases kcl_ok x hx320 with ⟨q1, q2⟩ | ⟨q1, q2⟩ | q1
    · have ha : a ∈ L := (w.2.2.2.2.1 a).mpr (live_of hla (by omega))
      obtain ⟨q0, hq0⟩ := List.getElem?_of_mem ha
      have he := ws_at (ρ := ρ) (γ := γ) (h := h) hq0
      rw [ens_obj (by omega), hka] at he
      rw [← q2]
      exact va_recv w.2.2.1 w.2.2.2.2.2.1 (vw_c _ q1) he
    · obtain ⟨j, hj, rfl⟩ := K0_31j (hka.trans q1)
      obtain ⟨cell, u1, u2, u3, u4⟩ := ((iv.2.2.2.1.2.2.2.1 j hj).2.1).kept iv.2.2.2.2.2.2.2.2.1.2.1
      exact ⟨cell, u1, u2, by rw [q2]; exact u3⟩
    · rw [q1] at hka
      rcases hla with u | u
      · have := K0_40 a u; omega
      · rcases w.2.2.2.2.2.2.2.1 a ((w.2.2.2.2.1 a).mpr u) with v | v <;> omega
  have hM2 := hM l G ρ γ hl2
  rw [eas2] at hM2
  refine X_back (a := (Value.ref (ρ a) :: (st.take (z - 1)).reverse.map (rv ρ)).toArray) iv hok hC hSl hX g1 g2 ?_
  rcases hml with hml | ⟨host, hml⟩
  · exact va_runV (n := npr x) (index := k) (bytes := bt x) (maxL := mxl x) (ret := rtt x) hfix hM2 ⟨callB_of (npr x) hts (good_TBF cd) rfl rfl rfl (hts _ cd.2.1) (hts _ hml) cd.2.2.1 (room_ok iv.2.1 cd.2.2.2.2), hts _ hin, hts _ hse⟩ ⟨Pc_blind, hcell, X_pre iv _⟩ rfl hlen iv.2.2.2.2.2.1.1 hstk hWs hd ⟨by omega, by omega⟩
  · exact va_runVN (n := npr x) (index := k) (bytes := bt x) (maxL := mxl x) (ret := rtt x) (host := host) hfix hM2 ⟨va_cnB (npr x) hts (good_TBF cd) rfl rfl rfl (iv.2.2.1.1 _ hml) (hts _ cd.2.1) cd.2.2.1 (room_ok iv.2.1 cd.2.2.2.2), hts _ hin, hts _ hse⟩ ⟨Pc_blind, hcell, X_pre iv _⟩ rfl hlen iv.2.2.2.2.2.1.1 hstk hWs hd ⟨by omega, by omega⟩
theorem sx_specialF {x z : Nat} (hcal : ∀ (b : Bool) (x : Nat) (as : List Value) (h : Hp) (Q' : Po), 0 < x → x < 320 → wpC d b x as h Q' → ∃ r h', Q' r h' ∧ MtO d b x as h r h') (hcd : ∀ x, 0 < x → x < 320 → cdxF x) (hk : ∃ k, dcd y pc (.invokespecial k) 3 ∧ n = 3 ∧ 0 < x ∧ x < 320 ∧ z = npr x + 1 ∧ mln y k x ∧ Cond.instanceMethod (nm x) ∈ gtb ∧ (nm x).name = "<init>" ∧ rtt x = none) (H : pr (st.drop (z - 1)) fun a _ => okb (Nat.beq (K0 a) (kcl x) && okf y x z ls st) (wpC d b x (st.take z).reverse h (fun r h' => PsO d y Q b (pc + n) ls (prt x r (st.drop z)) h'))) : PsO d y Q b pc ls st h := by
  obtain ⟨a, tl, hdr, H⟩ := pr_e H
  obtain ⟨hok, H⟩ := okb_e H
  rw [Bool.and_eq_true] at hok
  obtain ⟨hka, hok⟩ := hok
  obtain ⟨k, hd, rfl, hx0, hx320, hz, hml, hin, hni, hrt⟩ := hk
  obtain ⟨r1, h1, ⟨r, h', hq, hX⟩, hM⟩ := hcal b x _ h _ hx0 hx320 H
  obtain ⟨hC, hSl, hM⟩ := hM
  have cd := hcd x hx0 hx320
  have htk := take_last (by omega) hdr
  refine ⟨r, h', hq, Nat.le_trans hC hX.1, Nat.le_trans hSl hX.2.1, fun {G b0 ρ0 h0 R p l e s m args below meth c ρ γ H arr locs} iv g1 g2 => ?_⟩
  have hts := iv.1.2.2.2.2.2.1
  have hl2 : (∀ v ∈ (st.take z).reverse, lok h v) := fun v hv => iv.2.2.2.2.2.2.2.1 v (List.mem_of_mem_take (List.mem_reverse.mp hv))
  have hok2 := hok
  simp only [okf, Bool.and_eq_true] at hok2
  obtain ⟨⟨ho1, ho2⟩, -⟩ := hok2
  have ho1 := Nat.eq_of_beq_eq_true ho1
  have ho2 := Nat.le_of_ble_eq_true ho2
  have hX1 := hX.1
  have hX2 := hX.2.1
  have i11 := iv.2.2.2.2.2.2.2.2.2.2.1
  have i12 := iv.2.2.2.2.2.2.2.2.2.2.2.1
  have eas : (st.take z).reverse = .ref a :: (st.take (z - 1)).reverse := by
    rw [htk, List.reverse_append]
    rfl
  have eas2 : (st.take z).reverse.map (rv ρ) = .ref (ρ a) :: (st.take (z - 1)).reverse.map (rv ρ) := by
    rw [eas]
    rfl
  have hstk : (F0 m pc arr (st.map (rv ρ))).stack = ((st.take (z - 1)).reverse.map (rv ρ)).reverse ++ .ref (ρ a) :: (st.drop z).map (rv ρ) := by
    show st.map (rv ρ) = _
    rw [List.map_reverse, List.reverse_reverse]
    have : st.map (rv ρ) = (st.take z ++ st.drop z).map (rv ρ) := by rw [List.take_append_drop]
    rw [this, htk, List.map_append, List.map_append]
    simp only [List.map_cons, List.map_nil, List.append_assoc, List.cons_append, List.nil_append, rv]
  have hWs : 2 * (F0 m pc arr (st.map (rv ρ))).monitorRoom + (((st.drop z).map (rv ρ)).map fun v => v.category).sum ≤ 8 := by
    rw [csm_rv]
    show 2 * 0 + csm (st.drop z) ≤ 8
    omega
  have hlen : ((st.take (z - 1)).reverse.map (rv ρ)).length = npr x := by
    have : (st.take z).length = (st.take (z - 1)).length + 1 := by rw [htk, List.length_append]; rfl
    rw [List.length_map, List.length_reverse]
    omega
  have hfix : CallFix p m c (bt y) (mxl y) s args gtb (nm y).cls := ⟨iv.1.1, iv.1.2.1, iv.1.2.2.2.1, iv.1.2.2.2.2.1, hts⟩
  have hM2 := hM l G ρ γ hl2
  rw [eas2] at hM2
  have cd1 := cd.1
  rw [hrt] at cd1
  have hgd : GoodIn gtb (Cond.code (nm x) (bt x) (mxl x) none :: gtb) := by
    have := good_TBF cd
    unfold TBx at this
    rw [hrt] at this
    exact this
  unfold TBx at hM2
  rw [hrt] at hM2
  refine X_back (a := (Value.ref (ρ a) :: (st.take (z - 1)).reverse.map (rv ρ)).toArray) iv hok hC hSl hX g1 g2 ?_
  rcases hml with hml | ⟨host, hml⟩
  · exact va_runI (n := npr x) (index := k) (bytes := bt x) (maxL := mxl x) hfix hM2 ⟨callB_of (npr x) hts hgd rfl rfl rfl (hts _ cd.2.1) (hts _ hml) cd.2.2.1 (room_ok iv.2.1 cd.2.2.2.2), hni, hts _ hin⟩ ⟨Pc_blind, X_pre iv _⟩ rfl hlen iv.2.2.2.2.2.1.1 hstk hWs hd ⟨by omega, by omega⟩
  · exact va_runIN (n := npr x) (index := k) (bytes := bt x) (maxL := mxl x) (host := host) hfix hM2 ⟨va_cnB (npr x) hts hgd rfl rfl rfl (iv.2.2.1.1 _ hml) (hts _ cd.2.1) cd.2.2.1 (room_ok iv.2.1 cd.2.2.2.2), hni, hts _ hin⟩ ⟨Pc_blind, X_pre iv _⟩ rfl hlen iv.2.2.2.2.2.1.1 hstk hWs hd ⟨by omega, by omega⟩
end CAF
set_option maxHeartbeats 4000000 in
theorem snd_stepF {d y : Nat} {Q : Po} (hy : y < 320) (hok : ∀ p, okA y p (AMT y p)) (hcal : CalO d) (hcd : ∀ x, 0 < x → x < 320 → cdxF x) (b : Bool) (pc : Nat) (ls st : List Value) (h : Hp) (H : stp (wpC d) y (AMT y pc) b pc ls st h (PsO d y Q) Q) : PsO d y Q b pc ls st h := by
  have ho := hok pc
  generalize AMT y pc = i at H ho
  obtain ⟨op, n, x, z, ci, cj⟩ := i
  cases op
  case iadd => exact sx_iadd ho.1 ho.2 H
  case isub => exact sx_isub ho.1 ho.2 H
  case imul => exact sx_imul ho.1 ho.2 H
  case iand => exact sx_iand ho.1 ho.2 H
  case ior => exact sx_ior ho.1 ho.2 H
  case ixor => exact sx_ixor ho.1 ho.2 H
  case ishl => exact sx_ishl ho.1 ho.2 H
  case ishr => exact sx_ishr ho.1 ho.2 H
  case iushr => exact sx_iushr ho.1 ho.2 H
  case idiv => exact sx_idiv ho.1 ho.2 H
  case irem => exact sx_irem ho.1 ho.2 H
  case ineg => exact sx_ineg ho.1 ho.2 H
  case ladd => exact sx_ladd ho.1 ho.2 H
  case lsub => exact sx_lsub ho.1 ho.2 H
  case lmul => exact sx_lmul ho.1 ho.2 H
  case land => exact sx_land ho.1 ho.2 H
  case lor => exact sx_lor ho.1 ho.2 H
  case ldiv => exact sx_ldiv ho.1 ho.2 H
  case lrem => exact sx_lrem ho.1 ho.2 H
  case lshl => exact sx_lshl ho.1 ho.2 H
  case lshr => exact sx_lshr ho.1 ho.2 H
  case lcmp => exact sx_lcmp ho.1 ho.2 H
  case i2l => exact sx_i2l ho.1 ho.2 H
  case l2i => exact sx_l2i ho.1 ho.2 H
  case i2b => exact sx_i2b ho.1 ho.2 H
  case i2s => exact sx_i2s ho.1 ho.2 H
  case i2c => exact sx_i2c ho.1 ho.2 H
  case dup => exact sx_dup ho.1 ho.2 H
  case dup2 => exact sx_dup2 ho.1 ho.2 H
  case pop => exact sx_pop ho.1 ho.2 H
  case iaload => exact sx_iaload ho.1 ho.2 H
  case laload => exact sx_laload ho.1 ho.2 H
  case baload => exact sx_baload ho.1 ho.2 H
  case aaload => exact sx_aaload ho.1 ho.2 H
  case iastore => exact sx_iastore ho.1 ho.2 H
  case lastore => exact sx_lastore ho.1 ho.2 H
  case bastore => exact sx_bastore ho.1 ho.2 H
  case aastore => exact sx_aastore ho.1 ho.2 H
  case arraylength => exact sx_alen ho.1 ho.2 H
  case iconst => exact sx_iconst ho H
  case nop => exact sx_nop ho H
  case lconst => exact sx_lconst ho H
  case ldc => exact sx_ldcS ho H
  case iload => exact sx_iload ho H
  case lload => exact sx_lload ho H
  case aload => exact sx_aload ho H
  case istore => exact sx_istore ho H
  case lstore => exact sx_lstore ho H
  case astore => exact sx_astore ho H
  case iinc => exact sx_iinc ho H
  case ifCond => exact sx_ifCond ho H
  case if_icmp => exact sx_icmp ho H
  case goto => exact sx_goto ho H
  case ifnull => exact sx_ifnull ho H
  case ifnonnull => exact sx_ifnonnull ho H
  case tableswitch => exact sx_table ho H
  case lookupswitch => exact sx_lookup ho H
  case getfield => exact sx_getfield ho H
  case checkcast => exact sx_strget ho H
  case getstatic => exact sx_getstatic ho H
  case new => exact sx_new ho H
  case newarray => exact sx_newarray ho H
  case anewarray => exact sx_anewarray ho H
  case putfield =>
    simp only [stp] at H
    cases e2 : Nat.beq (fty x z) 2
    · rw [e2] at H
      cases e1 : Nat.beq (fty x z) 1
      · rw [e1] at H
        cases e3 : Nat.beq (fty x z) 3
        · rw [e3] at H
          exact sx_putI ho e2 e1 (fun v q => by rw [q] at e3; cases e3) H
        · rw [e3] at H
          refine sx_putI ho e2 e1 (fun v _ hv => ?_) (pir_m (fun _ _ _ q => okb_m (fun q => q.2) q) H)
          obtain ⟨a, u, r, rfl, H2⟩ := pir_e H
          cases hv
          exact (okb_e H2).2.1
      · rw [e1] at H
        exact sx_putJ ho e2 e1 H
    · rw [e2] at H
      obtain ⟨a, v, r, rfl, H2⟩ := prr_e H
      obtain ⟨ek, H3⟩ := okb_e H2
      have ek := Nat.eq_of_beq_eq_true ek
      cases ev : Nat.beq v (R0 a z)
      · rw [ev] at H3
        obtain ⟨hc, hN, H4⟩ := okb_e (c := Nat.beq v 99 && zon (R0 a z) && ren y && ls.all (nzz (R0 a z)) && r.all (nzz (R0 a z))) H3
        simp only [Bool.and_eq_true] at hc
        obtain ⟨⟨⟨⟨c1, c2⟩, c3⟩, c4⟩, c5⟩ := hc
        have c1 := Nat.eq_of_beq_eq_true c1
        subst c1
        exact sx_adopt ho e2 ek c2 c3 c4 c5 hN H4
      · rw [ev] at H3
        exact sx_putR ho e2 ek (Nat.eq_of_beq_eq_true ev) H3
  case monitorenter => exact sx_copy ho wg_nat wg_sta wg_sys H
  case monitorexit => exact sx_oinit ho wg_oin wg_oco H
  case invokestatic => exact sx_staticF hcal hcd ho H
  case invokevirtual => exact sx_virtualF hcal hcd ho H
  case invokespecial => exact sx_specialF hcal hcd ho H
  case ireturn => exact sx_ireturn hy ho.1 H
  case lreturn => exact sx_lreturn hy ho.1 H
  case areturn => exact sx_areturn hy ho.1 H
  case return_ => exact sx_return hy ho.1 H
  all_goals exact H.elim
theorem Mt_ofF {d x : Nat} {b : Bool} {as : List Value} {h h' : Hp} {r : Value} (cd : cdxF x) (hlen : (lay as).length ≤ mxl x) (hX : XeO d x b 0 (ent x as) [] h r h') : MtO (d + 1) b x as h r h' := by
  refine ⟨hX.1, hX.2.1, fun l G ρ γ hl => ?_⟩
  refine Met_ofWF (cc := bt x) (maxL := mxl x) (ret := rtt x) cd.2.2.2.1 rfl ?_
  intro p e s m args below meth c s₁ B hml hv
  obtain ⟨rfl, htb, hro, hwd⟩ := hv
  have hts := atoms_spec (ws := TBx x) B.pre
  have hown : s.vm.findClass (nm x).cls = some m.cls := findClass_of_methodNamed B.named
  have hnm : meth.name = (nm x).name := (name_of_methodNamed B.named B.method).1
  rw [lg_entry_eq]
  have hL := LRo.entry (ρ := ρ) (n := mxl x) hl hlen
  refine W.cs (cells' := rC h - rC h) (slots' := rS h - rS h) (by omega) (by omega) ?_
  refine hX.2.2 (ρ := ρ) (γ := γ) ⟨⟨B.exec, B.bytes, B.returns, hml, hown, fun w hw => hts w (List.mem_cons_of_mem _ hw), B.notSynchronized, fun q => hnm.trans q⟩, ⟨Nat.le_refl _, Nat.le_refl _⟩, htb, hro, hwd, hL, ent_ok hl, nil_ok, va_S.rf, AgO.rf, Nat.le_refl _, Nat.le_refl _, id⟩ (Nat.le_refl _) (Nat.le_refl _)
theorem snd_allF (hok : ∀ y, y < 320 → ∀ p, okA y p (AMT y p)) (hcd : ∀ x, 0 < x → x < 320 → cdxF x) : ∀ d, CalO d
  | 0 => fun _ _ _ _ _ _ _ H => H.elim
  | d + 1 => fun b x as h Q hx0 hx H => by
    obtain ⟨hc, H⟩ := okb_e H
    obtain ⟨r, h', hq, hX⟩ := GoC.ind (PsO d x Q) H (fun b pc ls st h H => snd_stepF hx (hok x hx) (snd_allF hok hcd d) hcd b pc ls st h H)
    exact ⟨r, h', hq, Mt_ofF (hcd x hx0 hx) (Nat.le_of_ble_eq_true hc) hX⟩

set_option maxHeartbeats 4000000 in
set_option maxRecDepth 100000 in
theorem whole_ofF (d : Nat) (hd : d ≤ 1900) (hlaw : LawAM d) (hok : ∀ y, y < 320 → ∀ p, okA y p (AMT y p)) (hcd : ∀ x, 0 < x → x < 320 → cdxF x) {p : Program} {e : Env} {s : State} {m : MethodId} {below : List Frame} {meth : Method} {c : Code} (l : Launch) {b L : Nat} {xs : Nat → Int32} (hL : L ≤ 3072) (C0 : lw_At p s m meth c b L xs) : W p l e room_1 s m #[Value.ref b] below meth c s.heap [] 0 0 (lw_Z below #[Value.ref b] s) (entryFrame m ([Value.ref b] : List Value).toArray 4) := by
  obtain ⟨hx, hb, hr, hml, hown, hts, hX, hbl, hlocks, hgv⟩ := id C0
  have hs := flat_of_before _ hgv
  obtain ⟨k0, v0, r0⟩ := str_at (tx := snT 0) (n := 12) (B := B0_0) (by decide) (hs _ st0_1) (hs _ st0_2) (hs _ st0_3) (hs _ st0_4) (fun j hj => hs _ (st0_5 j hj)) (hts _ st0_6)
  obtain ⟨k1, v1, r1⟩ := str_at (tx := snT 1) (n := 108) (B := B0_1) (by decide) (hs _ st1_1) (hs _ st1_2) (hs _ st1_3) (hs _ st1_4) (fun j hj => hs _ (st1_5 j hj)) (hts _ st1_6)
  obtain ⟨k2, v2, r2⟩ := str_at (tx := snT 2) (n := 83) (B := B0_2) (by decide) (hs _ st2_1) (hs _ st2_2) (hs _ st2_3) (hs _ st2_4) (fun j hj => hs _ (st2_5 j hj)) (hts _ st2_6)
  obtain ⟨k3, v3, r3⟩ := str_at (tx := snT 3) (n := 12) (B := B0_3) (by decide) (hs _ st3_1) (hs _ st3_2) (hs _ st3_3) (hs _ st3_4) (fun j hj => hs _ (st3_5 j hj)) (hts _ st3_6)
  have hA : ∀ a : Nat, a < s.heap.size → ¬ Ab s.heap.size a := fun a ha => Nat.not_le.mpr ha
  have hc1 : va_Z "java/lang/String" "COMPACT_STRINGS" "Z" (.int 1) (Ab s.heap.size) s s.heap := va_Zof (hts _ ls_1) (hts _ ls_3) (va_eqi (hs _ (by decide +kernel))) hA
  have hc2 : va_Zq "jdk/internal/util/Preconditions" "SIOOBE_FORMATTER" "Ljava/util/function/BiFunction;" (Ab s.heap.size) s s.heap := va_Zqof (hts _ ls_2) (hts _ ls_4) (hs _ (by decide +kernel)) hA
  obtain ⟨fm, hfm⟩ : ∃ fm : Nat, va_Z "jdk/internal/util/Preconditions" "SIOOBE_FORMATTER" "Ljava/util/function/BiFunction;" (fm_v fm) (Ab s.heap.size) s s.heap := by
    rcases hc2 with h | ⟨t, h⟩
    · exact ⟨0, h⟩
    · exact ⟨t + 1, h⟩
  obtain ⟨c0, iS0, hKn0⟩ := u_known (C := RX0) (T := TX0) (N := 12) (n := 12) hts (fun w hw => gtb_sub (ly0 w hw)) (hts _ (gtb_sub (ins_c 0 (by decide))))
  obtain ⟨c1, iS1, hKn1⟩ := u_known (C := RX1) (T := TX1) (N := 3) (n := 3) hts (fun w hw => gtb_sub (ly1 w hw)) (hts _ (gtb_sub (ins_c 1 (by decide))))
  obtain ⟨c2, iS2, hKn2⟩ := u_known (C := RX2) (T := TX2) (N := 8) (n := 8) hts (fun w hw => gtb_sub (ly2 w hw)) (hts _ (gtb_sub (ins_c 2 (by decide))))
  obtain ⟨c3, iS3, hKn3⟩ := u_known (C := RX3) (T := TX3) (N := 8) (n := 8) hts (fun w hw => gtb_sub (ly3 w hw)) (hts _ (gtb_sub (ins_c 3 (by decide))))
  obtain ⟨c4, iS4, hKn4⟩ := u_known (C := RX4) (T := TX4) (N := 7) (n := 7) hts (fun w hw => gtb_sub (ly4 w hw)) (hts _ (gtb_sub (ins_c 4 (by decide))))
  obtain ⟨c5, iS5, hKn5⟩ := u_known (C := RX5) (T := TX5) (N := 1) (n := 1) hts (fun w hw => gtb_sub (ly5 w hw)) (hts _ (gtb_sub (ins_c 5 (by decide))))
  obtain ⟨c6, iS6, hKn6⟩ := u_known (C := RX6) (T := TX6) (N := 6) (n := 6) hts (fun w hw => gtb_sub (ly6 w hw)) (hts _ (gtb_sub (ins_c 6 (by decide))))
  obtain ⟨c7, iS7, hKn7⟩ := u_known (C := RX7) (T := TX7) (N := 7) (n := 7) hts (fun w hw => gtb_sub (ly7 w hw)) (hts _ (gtb_sub (ins_c 7 (by decide))))
  obtain ⟨c8, iS8, hKn8⟩ := u_known (C := RX8) (T := TX8) (N := 18) (n := 18) hts (fun w hw => gtb_sub (ly8 w hw)) (hts _ (gtb_sub (ins_c 8 (by decide))))
  obtain ⟨c9, iS9, hKn9⟩ := u_known (C := RX9) (T := TX9) (N := 4) (n := 4) hts (fun w hw => gtb_sub (ly9 w hw)) (hts _ (gtb_sub (ins_c 9 (by decide))))
  obtain ⟨c10, iS10, hKn10⟩ := u_known (C := RX10) (T := TX10) (N := 3) (n := 3) hts (fun w hw => gtb_sub (ly10 w hw)) (hts _ (gtb_sub (ins_c 10 (by decide))))
  obtain ⟨c11, iS11, hKn11⟩ := u_known (C := RX11) (T := TX11) (N := 18) (n := 18) hts (fun w hw => gtb_sub (ly11 w hw)) (hts _ (gtb_sub (ins_c 11 (by decide))))
  obtain ⟨c12, iS12, hKn12⟩ := u_known (C := RX12) (T := TX12) (N := 38) (n := 38) hts (fun w hw => gtb_sub (ly12 w hw)) (hts _ (gtb_sub (ins_c 12 (by decide))))
  obtain ⟨dC, dI, hKc⟩ : ∃ (dC : Nat → ClassId) (dI : Nat → Nat → Nat), ∀ (k : Nat) (q : vw_C), vwCl[k]? = some q → u_Kn s q.1 q.2.1 q.2.2 (dC k) (dI k) := by
    refine ⟨fun k => if k = 0 then c0 else if k = 1 then c1 else if k = 2 then c2 else if k = 3 then c3 else if k = 4 then c4 else if k = 5 then c5 else if k = 6 then c6 else if k = 7 then c7 else if k = 8 then c8 else if k = 9 then c9 else if k = 10 then c10 else if k = 11 then c11 else c12, fun k => if k = 0 then iS0 else if k = 1 then iS1 else if k = 2 then iS2 else if k = 3 then iS3 else if k = 4 then iS4 else if k = 5 then iS5 else if k = 6 then iS6 else if k = 7 then iS7 else if k = 8 then iS8 else if k = 9 then iS9 else if k = 10 then iS10 else if k = 11 then iS11 else iS12, ?_⟩
    intro k q hq
    match k, hq with
    | 0, hq => cases hq; exact hKn0
    | 1, hq => cases hq; exact hKn1
    | 2, hq => cases hq; exact hKn2
    | 3, hq => cases hq; exact hKn3
    | 4, hq => cases hq; exact hKn4
    | 5, hq => cases hq; exact hKn5
    | 6, hq => cases hq; exact hKn6
    | 7, hq => cases hq; exact hKn7
    | 8, hq => cases hq; exact hKn8
    | 9, hq => cases hq; exact hKn9
    | 10, hq => cases hq; exact hKn10
    | 11, hq => cases hq; exact hKn11
    | 12, hq => cases hq; exact hKn12
    | k + 13, hq => simp [vwCl] at hq
  have hK : va_K (dC, dI) vwCl [] s := ⟨hKc, fun k q h => by simp at h⟩
  obtain ⟨r, h', ⟨hr1, hrC, hrS⟩, hXe⟩ := GoC.ind (PsO d 0 (fun r h' => r = .int 1 ∧ rC h' ≤ 600000 ∧ rS h' ≤ 7302250)) (hlaw xs L hL) (fun b pc ls st h H => snd_stepF (by decide) (hok 0 (by decide)) (snd_allF hok hcd d) hcd b pc ls st h H)
  subst hr1
  have ro : RoO ((dC, dI), s.heap.size, xs, L) (fun a => match a with | 0 => b | 1 => k0 | 2 => k1 | 3 => k2 | 4 => k3 | 5 => v0 | 6 => v1 | 7 => v2 | 8 => v3 | 9 => fm | _ => 0) s := by
    refine ⟨hX, hbl, Nat.le_refl _, fun i hi => ?_, hc1, hfm⟩
    match i, hi with
    | 0, _ => exact r0
    | 1, _ => exact r1
    | 2, _ => exact r2
    | 3, _ => exact r3
  have tb : TbO s := by
    refine ⟨fun w hw => nw_of hw (hts w (ntb_sub hw)), fun k q1 q2 => ?_⟩
    rcases (show k = 24 ∨ k = 25 ∨ k = 26 ∨ k = 27 by omega) with rfl | rfl | rfl | rfl
    · exact va_AO.of (hts _ ao_24)
    · exact va_AO.of (hts _ ao_25)
    · exact va_AO.of (hts _ ao_26)
    · exact va_AO.of (hts _ ao_27)
  have hlk : ∀ v ∈ ([.ref 0] : List Value), lok (h00 xs L) v := cons_ok (Or.inl (by decide)) nil_ok
  rw [lg_entry_eq]
  have hLR := LRo.entry (ρ := fun a => match a with | 0 => b | 1 => k0 | 2 => k1 | 3 => k2 | 4 => k3 | 5 => v0 | 6 => v1 | 7 => v2 | 8 => v3 | 9 => fm | _ => 0) (n := mxl 0) hlk (by decide)
  refine W.cs (cells' := rC (h00 xs L) - rC (h00 xs L)) (slots' := rS (h00 xs L) - rS (h00 xs L)) (by omega) (by omega) ?_
  refine W_mono (fun t ht => ?_) (hXe.2.2 (G := ((dC, dI), s.heap.size, xs, L)) (b0 := false) (R := room_1) (ρ0 := fun a => match a with | 0 => b | 1 => k0 | 2 => k1 | 3 => k2 | 4 => k3 | 5 => v0 | 6 => v1 | 7 => v2 | 8 => v3 | 9 => fm | _ => 0) (h0 := h00 xs L) (γ := fun _ => 0) ⟨⟨hx, hb, hr, hml, hown, fun w hw => hts w (gtb_sub hw), hlocks, fun q => absurd q (by decide)⟩, ⟨?_, ?_⟩, tb, ro, ⟨[], rfl, rfl, hK, List.nodup_nil, fun a => ⟨fun q => (by cases q), fun q => (by cases q)⟩, fun k q hk => (by simp [wsO] at hk), ⟨fun i j p q hp => (by simp [wsO] at hp), fun k q hk => (by simp [wsO] at hk)⟩, fun a ha => (by cases ha), fun a ha => (by cases ha), fun q => (by cases q)⟩, hLR, ent_ok hlk, nil_ok, va_S.rf, AgO.rf, Nat.le_refl _, Nat.le_refl _, id⟩ ?_ ?_)
  · obtain ⟨oc, t1, t2, ⟨ρ', γ', e1, -⟩, LL, hF, hLL⟩ := ht
    have e1 : oc = .returned (some (.int 1)) := e1
    subst e1
    refine ⟨_, t1, t2, rfl, hF.1, hF.2.1, ?_⟩
    exact hF.2.2.weaken (fun y hy hlt => absurd hlt (Nat.not_lt.mpr (hLL y hy))) (by show rC h' - 0 ≤ 600000; omega) (by show rS h' - 0 ≤ 7302250; omega)
  · show d + 1 ≤ 2048
    omega
  · show 44 * (d + 1) ≤ 84000
    omega
  · show rC h' - 0 ≤ 600000
    omega
  · show rS h' - 0 ≤ 7302250
    omega


