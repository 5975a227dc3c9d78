/-! Calls; every step; every run; every method. -/
def cdy (x : Nat) : Prop := cdx x
theorem good_TB {x : Nat} (h : cdx x) : GoodIn gtb (TBx x) := fun w hw => by
  rcases List.mem_cons.mp hw with rfl | hw
  · exact ⟨h.1, good_of_word (g_good h.1)⟩
  · exact ⟨hw, good_of_word (g_good hw)⟩
/-- the start of a callee, whatever frames lie above -/
theorem Pc_blind {G : Gx} {ρ : Nat → Nat} {γ : Nat → ClassId} {b : Bool} {h : Hp} {av : List Value} : FrameBlind (va_Pc av (fun U => TbO U ∧ RoO G ρ U ∧ WdO G b ρ γ h U U.heap)) := by
  intro a U g mk hq
  obtain ⟨h1, h2, h3, h4⟩ := hq
  have hal : U.vm.Alike (U.calling g mk a).vm := Vm.Alike.refl U.vm
  refine ⟨h1, TbO.same (s := U) (U := U.calling g mk a) rfl h2, ?_, h4.moved hal⟩
  obtain ⟨r1, r2, r3, r4, r5, r6⟩ := h3
  refine ⟨?_, r2, r3, fun i hi => ?_, va_Z.moved hal r5, va_Z.moved hal r6⟩
  · obtain ⟨scr, q1, q2, q3, q4, q5⟩ := r1
    exact ⟨scr, q1, State.isArrayOf_alike hal q2, q3, q4, q5⟩
  · obtain ⟨q1, q2, q3, q4, q5⟩ := r4 i hi
    exact ⟨vk_R.same (u := U) rfl q1, va_O.moved hal q2, va_OF.moved hal q3, va_OF.moved hal q4, va_T.moved hal q5⟩
section CA
variable {d y : Nat} {b : Bool} {pc n : Nat} {ls st : List Value} {h : Hp} {Q : Po}
/-- behind a call -/
theorem X_back {G : Gx} {b0 : Bool} {ρ0 : Nat → Nat} {h0 : Hp} {R : Room} {p : Program} {l : Launch} {e : Env} {s : State} {m : MethodId} {args : Array Value} {below : List Frame} {meth : Method} {c : Code} {ρ : Nat → Nat} {γ : Nat → ClassId} {H : Heap} {arr : Array Slot} {locs : List Loc} {x z : Nat} {r1 r : Value} {h1 h' : Hp} {a : Array Value} (iv : IvO G d y b0 b ρ0 h0 R p s m args meth c ρ γ h H arr ls st locs) (hok : okf y x z ls st = true) (hC : rC h ≤ rC h1) (hSl : rS h ≤ rS h1) (hX : XeO d y b (pc + 3) ls (prt x r1 (st.drop z)) h1 r h') (g1 : rC h' - rC h0 ≤ R.cells) (g2 : rS h' - rS h0 ≤ R.slots)
    (hr : va_Run p l e R s m args below meth c H locs (rC h - rC h0) (rS h - rS h0) (rC h1 - rC h) (rS h1 - rS h) (F0 m pc arr (st.map (rv ρ))) ((st.drop z).map (rv ρ)) (QcO G x b ρ h r1 h1 a) (Ab G.2.1)) :
    W p l e R s m args below meth c H locs (rC h - rC h0) (rS h - rS h0) (MQ below (QcO G y b0 ρ0 h0 r h') args s (rC h' - rC h0) (rS h' - rS h0) (Ab G.2.1)) (F0 m pc arr (st.map (rv ρ))) := by
  intro T hT X
  obtain ⟨v, st₀, t, T', L, e0, X', hL, e1, e2, hq, hg⟩ := hr T hT X
  obtain ⟨ρ1, γ1, hv, hw, hag, hl, hf⟩ := hq
  have hv : v = rop x (rv ρ1 r1) := by injection hv
  subst hv
  obtain ⟨i1, i2, i3, i4, i5, i6, i7, i8, i9, i10, i11, i12, i13⟩ := iv
  simp only [okf, Bool.and_eq_true, Bool.or_eq_true, Bool.not_eq_true'] at hok
  obtain ⟨⟨ho1, ho2⟩, ho3⟩ := hok
  have hdl : ∀ v ∈ st.drop z, v ∈ st := fun v hv => List.mem_of_mem_drop hv
  -- names that the frame holds keep their places
  have keep : ∀ (l : List Value), (∀ v ∈ l, lok h v) → (ren x = false ∨ l.all nzv = true) → ∀ v ∈ l, rv ρ1 v = rv ρ v ∧ lok h1 v := fun l ho hz v hv => by
    have hvl := ho v hv
    cases v with
    | ref a =>
      have key : ρ1 a = ρ a ∧ (a < 10 ∨ rD h1 a = true) := by
        rcases hvl with q | q
        · exact ⟨hag.1 a q, Or.inl q⟩
        · rcases hag.2 a q with u | u
          · rw [Bool.and_eq_true] at u
            rcases hz with hz | hz
            · rw [hz] at u; exact absurd u.1 (by decide)
            · have := List.all_eq_true.mp hz _ hv
              simp only [nzv, u.2] at this
              cases this
          · exact ⟨u.1, Or.inr u.2⟩
      exact ⟨by simp only [rv]; rw [key.1], key.2⟩
    | retAddr k => exact ⟨by simp only [rv]; rw [hag.1 9 (by omega)], trivial⟩
    | _ => exact ⟨rfl, hvl⟩
  have k1 := keep ls i7 (ho3.imp id (fun q => q.2.1))
  have k2 := keep (st.drop z) (fun v hv => i8 v (hdl v hv)) (ho3.imp id (fun q => q.2.2))
  have hren : ren x = true → ren y = true := fun q => ho3.elim (fun u => by rw [q] at u; cases u) (fun u => u.1)
  have hS : va_S (Ab G.2.1) s.heap T'.heap (locs ++ L) := by
    rw [e1]
    refine ⟨Nat.le_trans i9.1 (by have := hf.1; rw [e0] at this; exact this), fun q h1 h2 => ?_, fun q hq => ?_⟩
    · have := hf.2 q (by rw [e0]; exact Nat.lt_of_lt_of_le h1 i9.1) h2
      rw [this, e0]
      exact i9.2.1 q h1 h2
    · rcases List.mem_append.mp hq with q1 | q1
      · exact i9.2.2 q q1
      · exact hL q q1
  have hal : s.vm.Alike t.vm := by rw [← e2]; exact X'.warmed.alike
  have hw' : WdO G b ρ1 γ1 h1 s T'.heap := by rw [e1]; exact hw.moved hal.symm
  have hst' : ∀ v ∈ prt x r1 (st.drop z), lok h1 v := by
    unfold prt
    cases Nat.beq (rty x) 0
    · exact cons_ok hl (fun v hv => (k2 v hv).2)
    · exact fun v hv => (k2 v hv).2
  have iv2 : IvO G d y b0 b ρ0 h0 R p s m args meth c ρ1 γ1 h1 T'.heap arr ls (prt x r1 (st.drop z)) (locs ++ L) := by
    refine ⟨i1, i2, i3, i4.rho (fun c hc => hag.1 c hc), hw', i6.rho (h := h) (fun v hv => (k1 v hv).1), fun v hv => (k1 v hv).2, hst', hS, ⟨fun c hc => (hag.1 c hc).trans (i10.1 c hc), fun c hc => ?_⟩, Nat.le_trans i11 hC, Nat.le_trans i12 hSl, i13⟩
    rcases i10.2 c hc with u | ⟨u1, u2⟩
    · exact Or.inl u
    · rcases hag.2 c u2 with q | ⟨q1, q2⟩
      · rw [Bool.and_eq_true] at q
        exact Or.inl (by rw [hren q.1, q.2]; rfl)
      · exact Or.inr ⟨q1.trans u1, q2⟩
  have k := hX.2.2 (l := l) (e := e) (below := below) iv2 g1 g2
  have em : (prt x r1 (st.drop z)).map (rv ρ1) = (rop x (rv ρ1 r1)).toList ++ (st.drop z).map (rv ρ) := by
    have e3 : (st.drop z).map (rv ρ1) = (st.drop z).map (rv ρ) := List.map_congr_left (fun v hv => (k2 v hv).1)
    unfold prt rop
    cases Nat.beq (rty x) 0
    · simp only [cond_false, List.map_cons, Option.toList, e3]
      rfl
    · simp only [cond_true, Option.toList, e3]
      rfl
  rw [em] at k
  have ec : rC h - rC h0 + (rC h1 - rC h) = rC h1 - rC h0 := by omega
  have es : rS h - rS h0 + (rS h1 - rS h) = rS h1 - rS h0 := by omega
  rw [ec, es] at X'
  obtain ⟨t2, a1, b1⟩ := k T' rfl X'
  exact ⟨t2, hg t2 a1, b1⟩
theorem X_pre {G : Gx} {b0 : Bool} {ρ0 : Nat → Nat} {h0 : Hp} {R : Room} {p : Program} {s : State} {m : MethodId} {args : Array Value} {meth : Method} {c : Code} {ρ : Nat → Nat} {γ : Nat → ClassId} {H : Heap} {arr : Array Slot} {locs : List Loc} (iv : IvO G d y b0 b ρ0 h0 R p s m args meth c ρ γ h H arr ls st locs) (av : List Value) : ∀ U : State, U.heap = H → s.WarmedH U.vm → va_Pc av (fun U => TbO U ∧ RoO G ρ U ∧ WdO G b ρ γ h U U.heap) av.toArray U := by
  intro U hU hW
  obtain ⟨i1, i2, i3, i4, i5, i6, i7, i8, i9, i10, i11, i12, i13⟩ := iv
  refine ⟨rfl, i3.warm hW, i4.warm i9 hU hW, ?_⟩
  rw [hU]
  exact i5.moved hW.alike
theorem csm_rv {ρ : Nat → Nat} {r : List Value} : ((r.map (rv ρ)).map fun v => v.category).sum = csm r := by
  rw [csm, List.map_map]
  congr 1
  exact List.map_congr_left (fun v _ => rv_cat ρ v)
theorem room_ok {R : Room} {x cs sl : Nat} (h : RmO d R) (hx : mxl x ≤ 21) : ({ frames := d, cells := cs, slots := sl, locals := 44 * d } : Room).frames + 1 ≤ R.frames ∧ 8 + (mxl x + 11) + ({ frames := d, cells := cs, slots := sl, locals := 44 * d } : Room).locals ≤ R.locals := by
  obtain ⟨h1, h2⟩ := h
  refine ⟨h1, ?_⟩
  show 8 + (mxl x + 11) + 44 * d ≤ R.locals
  omega
theorem sx_static {x z : Nat} (hcal : ∀ (b : Bool) (x : Nat) (as : List Value) (h : Hp) (Q' : Po), 0 < x → x < 320 → wpC d b x as h Q' → ∃ r h', Q' r h' ∧ MtO d b x as h r h') (hcd : ∀ x, 0 < x → x < 320 → cdx x) (hk : ∃ k, dcd y pc (.invokestatic k) 3 ∧ n = 3 ∧ 0 < x ∧ x < 320 ∧ z = npr x ∧ mln y k x ∧ Cond.static (nm x) ∈ gtb) (H : okb (okf y x z ls st) (wpC d b x (st.take z).reverse h (fun r h' => PsO d y Q b (pc + n) ls (prt x r (st.drop z)) h'))) : PsO d y Q b pc ls st h := by
  obtain ⟨hok, H⟩ := okb_e H
  obtain ⟨k, hd, rfl, hx0, hx320, hz, hml, hst⟩ := hk
  obtain ⟨r1, h1, ⟨r, h', hq, hX⟩, hM⟩ := hcal b x _ h _ hx0 hx320 H
  obtain ⟨hC, hSl, hM⟩ := hM
  have cd := hcd x hx0 hx320
  refine ⟨r, h', hq, Nat.le_trans hC hX.1, Nat.le_trans hSl hX.2.1, fun {G b0 ρ0 h0 R p l e s m args below meth c ρ γ H arr locs} iv g1 g2 => ?_⟩
  have hts := iv.1.2.2.2.2.2.1
  have hl2 : (∀ v ∈ (st.take z).reverse, lok h v) := fun v hv => iv.2.2.2.2.2.2.2.1 v (List.mem_of_mem_take (List.mem_reverse.mp hv))
  have hok2 := hok
  simp only [okf, Bool.and_eq_true] at hok2
  obtain ⟨⟨ho1, ho2⟩, -⟩ := hok2
  have ho1 := Nat.eq_of_beq_eq_true ho1
  have ho2 := Nat.le_of_ble_eq_true ho2
  have hX1 := hX.1
  have hX2 := hX.2.1
  have i11 := iv.2.2.2.2.2.2.2.2.2.2.1
  have i12 := iv.2.2.2.2.2.2.2.2.2.2.2.1
  have hstk : (F0 m pc arr (st.map (rv ρ))).stack = ((st.take z).reverse.map (rv ρ)).reverse ++ (st.drop z).map (rv ρ) := by
    show st.map (rv ρ) = _
    rw [List.map_reverse, List.reverse_reverse, ← List.map_append, List.take_append_drop]
  have hWs : 2 * (F0 m pc arr (st.map (rv ρ))).monitorRoom + (((st.drop z).map (rv ρ)).map fun v => v.category).sum ≤ 8 := by
    rw [csm_rv]
    show 2 * 0 + csm (st.drop z) ≤ 8
    omega
  have hlen : ((st.take z).reverse.map (rv ρ)).length = npr x := by
    rw [List.length_map, List.length_reverse, ho1, hz]
  have hfix : CallFix p m c (bt y) (mxl y) s args gtb (nm y).cls := ⟨iv.1.1, iv.1.2.1, iv.1.2.2.2.1, iv.1.2.2.2.2.1, hts⟩
  refine X_back (a := ((st.take z).reverse.map (rv ρ)).toArray) iv hok hC hSl hX g1 g2 ?_
  rcases hml with hml | ⟨host, hml⟩
  · exact va_runS (n := npr x) (index := k) (bytes := bt x) (maxL := mxl x) (ret := rtt x) hfix (hM l G ρ γ hl2) ⟨callB_of (npr x) hts (good_TB cd) rfl rfl rfl (hts _ cd.2.1) (hts _ hml) cd.2.2.1 (room_ok iv.2.1 cd.2.2.2.2), hts _ hst⟩ ⟨Pc_blind, X_pre iv _⟩ rfl hlen iv.2.2.2.2.2.1.1 hstk hWs hd ⟨by omega, by omega⟩
  · exact va_runSN (n := npr x) (index := k) (bytes := bt x) (maxL := mxl x) (ret := rtt x) (host := host) hfix (hM l G ρ γ hl2) ⟨va_cnB (npr x) hts (good_TB cd) rfl rfl rfl (iv.2.2.1.1 _ hml) (hts _ cd.2.1) cd.2.2.1 (room_ok iv.2.1 cd.2.2.2.2), hts _ hst, trivial⟩ ⟨Pc_blind, X_pre iv _⟩ rfl hlen iv.2.2.2.2.2.1.1 hstk hWs hd ⟨by omega, by omega⟩
theorem take_last {α : Type} {st : List α} {z : Nat} {a : α} {t : List α} (hz : 0 < z) (h : st.drop (z - 1) = a :: t) : st.take z = st.take (z - 1) ++ [a] := by
  obtain ⟨j, rfl⟩ : ∃ j, z = j + 1 := ⟨z - 1, by omega⟩
  simp only [Nat.add_sub_cancel] at h ⊢
  have hj : st[j]? = some a := by
    have := congrArg (fun l => l[0]?) h
    simp only [List.getElem?_drop, Nat.add_zero] at this
    exact this
  rw [List.take_succ, hj]
  rfl
theorem kcl_ok : ∀ x, x < 320 → (kcl x < 13 ∧ cN (kcl x) = (nm x).cls) ∨ (kcl x = 31 ∧ (nm x).cls = "java/lang/String") ∨ kcl x = 40 := by decide +kernel
theorem K0_40 : ∀ a, a < 10 → K0 a < 40 := by decide +kernel
theorem sx_virtual {x z : Nat} (hcal : ∀ (b : Bool) (x : Nat) (as : List Value) (h : Hp) (Q' : Po), 0 < x → x < 320 → wpC d b x as h Q' → ∃ r h', Q' r h' ∧ MtO d b x as h r h') (hcd : ∀ x, 0 < x → x < 320 → cdx x) (hk : ∃ k, dcd y pc (.invokevirtual k) 3 ∧ n = 3 ∧ 0 < x ∧ x < 320 ∧ z = npr x + 1 ∧ mln y k x ∧ Cond.instanceMethod (nm x) ∈ gtb ∧ Cond.selects (nm x).cls (nm x) (nm x) ∈ gtb) (H : pr (st.drop (z - 1)) fun a _ => okb (Nat.beq (K0 a) (kcl x) && okf y x z ls st) (wpC d b x (st.take z).reverse h (fun r h' => PsO d y Q b (pc + n) ls (prt x r (st.drop z)) h'))) : PsO d y Q b pc ls st h := by
  obtain ⟨a, tl, hdr, H⟩ := pr_e H
  obtain ⟨hok, H⟩ := okb_e H
  rw [Bool.and_eq_true] at hok
  obtain ⟨hka, hok⟩ := hok
  have hka := Nat.eq_of_beq_eq_true hka
  obtain ⟨k, hd, rfl, hx0, hx320, hz, hml, hin, hse⟩ := hk
  obtain ⟨r1, h1, ⟨r, h', hq, hX⟩, hM⟩ := hcal b x _ h _ hx0 hx320 H
  obtain ⟨hC, hSl, hM⟩ := hM
  have cd := hcd x hx0 hx320
  have htk := take_last (by omega) hdr
  refine ⟨r, h', hq, Nat.le_trans hC hX.1, Nat.le_trans hSl hX.2.1, fun {G b0 ρ0 h0 R p l e s m args below meth c ρ γ H arr locs} iv g1 g2 => ?_⟩
  have hts := iv.1.2.2.2.2.2.1
  have hl2 : (∀ v ∈ (st.take z).reverse, lok h v) := fun v hv => iv.2.2.2.2.2.2.2.1 v (List.mem_of_mem_take (List.mem_reverse.mp hv))
  have hla : lok h (.ref a) := iv.2.2.2.2.2.2.2.1 _ (List.mem_of_mem_drop (i := z - 1) (by rw [hdr]; exact List.mem_cons_self))
  have hok2 := hok
  simp only [okf, Bool.and_eq_true] at hok2
  obtain ⟨⟨ho1, ho2⟩, -⟩ := hok2
  have ho1 := Nat.eq_of_beq_eq_true ho1
  have ho2 := Nat.le_of_ble_eq_true ho2
  have hX1 := hX.1
  have hX2 := hX.2.1
  have i11 := iv.2.2.2.2.2.2.2.2.2.2.1
  have i12 := iv.2.2.2.2.2.2.2.2.2.2.2.1
  have eas : (st.take z).reverse = .ref a :: (st.take (z - 1)).reverse := by
    rw [htk, List.reverse_append]
    rfl
  have eas2 : (st.take z).reverse.map (rv ρ) = .ref (ρ a) :: (st.take (z - 1)).reverse.map (rv ρ) := by
    rw [eas]
    rfl
  have hstk : (F0 m pc arr (st.map (rv ρ))).stack = ((st.take (z - 1)).reverse.map (rv ρ)).reverse ++ .ref (ρ a) :: (st.drop z).map (rv ρ) := by
    show st.map (rv ρ) = _
    rw [List.map_reverse, List.reverse_reverse]
    have : st.map (rv ρ) = (st.take z ++ st.drop z).map (rv ρ) := by rw [List.take_append_drop]
    rw [this, htk, List.map_append, List.map_append]
    simp only [List.map_cons, List.map_nil, List.append_assoc, List.cons_append, List.nil_append, rv]
  have hWs : 2 * (F0 m pc arr (st.map (rv ρ))).monitorRoom + (((st.drop z).map (rv ρ)).map fun v => v.category).sum ≤ 8 := by
    rw [csm_rv]
    show 2 * 0 + csm (st.drop z) ≤ 8
    omega
  have hlen : ((st.take (z - 1)).reverse.map (rv ρ)).length = npr x := by
    have : (st.take z).length = (st.take (z - 1)).length + 1 := by rw [htk, List.length_append]; rfl
    rw [List.length_map, List.length_reverse]
    omega
  have hfix : CallFix p m c (bt y) (mxl y) s args gtb (nm y).cls := ⟨iv.1.1, iv.1.2.1, iv.1.2.2.2.1, iv.1.2.2.2.2.1, hts⟩
  have hcell : ∃ cellB : Cell, H[ρ a]? = some cellB ∧ cellB.vm.isStatics = false ∧ s.vm.findClass (nm x).cls = some cellB.cls := by
    obtain ⟨L, w⟩ := iv.2.2.2.2.1
    rcases kcl_ok x hx320 with ⟨q1, q2⟩ | ⟨q1, q2⟩ | q1
    · have ha : a ∈ L := (w.2.2.2.2.1 a).mpr (live_of hla (by omega))
      obtain ⟨q0, hq0⟩ := List.getElem?_of_mem ha
      have he := ws_at (ρ := ρ) (γ := γ) (h := h) hq0
      rw [ens_obj (by omega), hka] at he
      rw [← q2]
      exact va_recv w.2.2.1 w.2.2.2.2.2.1 (vw_c _ q1) he
    · obtain ⟨j, hj, rfl⟩ := K0_31j (hka.trans q1)
      obtain ⟨cell, u1, u2, u3, u4⟩ := ((iv.2.2.2.1.2.2.2.1 j hj).2.1).kept iv.2.2.2.2.2.2.2.2.1.2.1
      exact ⟨cell, u1, u2, by rw [q2]; exact u3⟩
    · rw [q1] at hka
      rcases hla with u | u
      · have := K0_40 a u; omega
      · rcases w.2.2.2.2.2.2.2.1 a ((w.2.2.2.2.1 a).mpr u) with v | v <;> omega
  have hM2 := hM l G ρ γ hl2
  rw [eas2] at hM2
  refine X_back (a := (Value.ref (ρ a) :: (st.take (z - 1)).reverse.map (rv ρ)).toArray) iv hok hC hSl hX g1 g2 ?_
  rcases hml with hml | ⟨host, hml⟩
  · exact va_runV (n := npr x) (index := k) (bytes := bt x) (maxL := mxl x) (ret := rtt x) hfix hM2 ⟨callB_of (npr x) hts (good_TB cd) rfl rfl rfl (hts _ cd.2.1) (hts _ hml) cd.2.2.1 (room_ok iv.2.1 cd.2.2.2.2), hts _ hin, hts _ hse⟩ ⟨Pc_blind, hcell, X_pre iv _⟩ rfl hlen iv.2.2.2.2.2.1.1 hstk hWs hd ⟨by omega, by omega⟩
  · exact va_runVN (n := npr x) (index := k) (bytes := bt x) (maxL := mxl x) (ret := rtt x) (host := host) hfix hM2 ⟨va_cnB (npr x) hts (good_TB cd) rfl rfl rfl (iv.2.2.1.1 _ hml) (hts _ cd.2.1) cd.2.2.1 (room_ok iv.2.1 cd.2.2.2.2), hts _ hin, hts _ hse⟩ ⟨Pc_blind, hcell, X_pre iv _⟩ rfl hlen iv.2.2.2.2.2.1.1 hstk hWs hd ⟨by omega, by omega⟩
theorem sx_special {x z : Nat} (hcal : ∀ (b : Bool) (x : Nat) (as : List Value) (h : Hp) (Q' : Po), 0 < x → x < 320 → wpC d b x as h Q' → ∃ r h', Q' r h' ∧ MtO d b x as h r h') (hcd : ∀ x, 0 < x → x < 320 → cdx x) (hk : ∃ k, dcd y pc (.invokespecial k) 3 ∧ n = 3 ∧ 0 < x ∧ x < 320 ∧ z = npr x + 1 ∧ mln y k x ∧ Cond.instanceMethod (nm x) ∈ gtb ∧ (nm x).name = "<init>" ∧ rtt x = none) (H : pr (st.drop (z - 1)) fun a _ => okb (Nat.beq (K0 a) (kcl x) && okf y x z ls st) (wpC d b x (st.take z).reverse h (fun r h' => PsO d y Q b (pc + n) ls (prt x r (st.drop z)) h'))) : PsO d y Q b pc ls st h := by
  obtain ⟨a, tl, hdr, H⟩ := pr_e H
  obtain ⟨hok, H⟩ := okb_e H
  rw [Bool.and_eq_true] at hok
  obtain ⟨hka, hok⟩ := hok
  obtain ⟨k, hd, rfl, hx0, hx320, hz, hml, hin, hni, hrt⟩ := hk
  obtain ⟨r1, h1, ⟨r, h', hq, hX⟩, hM⟩ := hcal b x _ h _ hx0 hx320 H
  obtain ⟨hC, hSl, hM⟩ := hM
  have cd := hcd x hx0 hx320
  have htk := take_last (by omega) hdr
  refine ⟨r, h', hq, Nat.le_trans hC hX.1, Nat.le_trans hSl hX.2.1, fun {G b0 ρ0 h0 R p l e s m args below meth c ρ γ H arr locs} iv g1 g2 => ?_⟩
  have hts := iv.1.2.2.2.2.2.1
  have hl2 : (∀ v ∈ (st.take z).reverse, lok h v) := fun v hv => iv.2.2.2.2.2.2.2.1 v (List.mem_of_mem_take (List.mem_reverse.mp hv))
  have hok2 := hok
  simp only [okf, Bool.and_eq_true] at hok2
  obtain ⟨⟨ho1, ho2⟩, -⟩ := hok2
  have ho1 := Nat.eq_of_beq_eq_true ho1
  have ho2 := Nat.le_of_ble_eq_true ho2
  have hX1 := hX.1
  have hX2 := hX.2.1
  have i11 := iv.2.2.2.2.2.2.2.2.2.2.1
  have i12 := iv.2.2.2.2.2.2.2.2.2.2.2.1
  have eas : (st.take z).reverse = .ref a :: (st.take (z - 1)).reverse := by
    rw [htk, List.reverse_append]
    rfl
  have eas2 : (st.take z).reverse.map (rv ρ) = .ref (ρ a) :: (st.take (z - 1)).reverse.map (rv ρ) := by
    rw [eas]
    rfl
  have hstk : (F0 m pc arr (st.map (rv ρ))).stack = ((st.take (z - 1)).reverse.map (rv ρ)).reverse ++ .ref (ρ a) :: (st.drop z).map (rv ρ) := by
    show st.map (rv ρ) = _
    rw [List.map_reverse, List.reverse_reverse]
    have : st.map (rv ρ) = (st.take z ++ st.drop z).map (rv ρ) := by rw [List.take_append_drop]
    rw [this, htk, List.map_append, List.map_append]
    simp only [List.map_cons, List.map_nil, List.append_assoc, List.cons_append, List.nil_append, rv]
  have hWs : 2 * (F0 m pc arr (st.map (rv ρ))).monitorRoom + (((st.drop z).map (rv ρ)).map fun v => v.category).sum ≤ 8 := by
    rw [csm_rv]
    show 2 * 0 + csm (st.drop z) ≤ 8
    omega
  have hlen : ((st.take (z - 1)).reverse.map (rv ρ)).length = npr x := by
    have : (st.take z).length = (st.take (z - 1)).length + 1 := by rw [htk, List.length_append]; rfl
    rw [List.length_map, List.length_reverse]
    omega
  have hfix : CallFix p m c (bt y) (mxl y) s args gtb (nm y).cls := ⟨iv.1.1, iv.1.2.1, iv.1.2.2.2.1, iv.1.2.2.2.2.1, hts⟩
  have hM2 := hM l G ρ γ hl2
  rw [eas2] at hM2
  have cd1 := cd.1
  rw [hrt] at cd1
  have hgd : GoodIn gtb (Cond.code (nm x) (bt x) (mxl x) none :: gtb) := by
    have := good_TB cd
    unfold TBx at this
    rw [hrt] at this
    exact this
  unfold TBx at hM2
  rw [hrt] at hM2
  refine X_back (a := (Value.ref (ρ a) :: (st.take (z - 1)).reverse.map (rv ρ)).toArray) iv hok hC hSl hX g1 g2 ?_
  rcases hml with hml | ⟨host, hml⟩
  · exact va_runI (n := npr x) (index := k) (bytes := bt x) (maxL := mxl x) hfix hM2 ⟨callB_of (npr x) hts hgd rfl rfl rfl (hts _ cd.2.1) (hts _ hml) cd.2.2.1 (room_ok iv.2.1 cd.2.2.2.2), hni, hts _ hin⟩ ⟨Pc_blind, X_pre iv _⟩ rfl hlen iv.2.2.2.2.2.1.1 hstk hWs hd ⟨by omega, by omega⟩
  · exact va_runIN (n := npr x) (index := k) (bytes := bt x) (maxL := mxl x) (host := host) hfix hM2 ⟨va_cnB (npr x) hts hgd rfl rfl rfl (iv.2.2.1.1 _ hml) (hts _ cd.2.1) cd.2.2.1 (room_ok iv.2.1 cd.2.2.2.2), hni, hts _ hin⟩ ⟨Pc_blind, X_pre iv _⟩ rfl hlen iv.2.2.2.2.2.1.1 hstk hWs hd ⟨by omega, by omega⟩
end CA
